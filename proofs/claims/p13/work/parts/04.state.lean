/-! typed worlds: a kind for each address; the cells of a kind -/
abbrev rk_KD : Type := Nat × Nat × Nat × List rk_AV
/-- (0, ci, _, types): an object of class ci; (1, n, _, _): n ints; (2, n, t0, _): n references, of the array class number t0 -/
def rk_cell (K : Nat → rk_KD) (E : Nat → Nat → rk_AV) (tys : List (ClassId × FieldType)) (G : Nat → Option Nat) (X : Int) (k : Nat) (e : va_E) : Prop := match K k with
  | (0, ci, _, ts) => ∃ fs : List Value, e = .inr (ci, fs) ∧ fs.length = ts.length ∧ ∀ (i : Nat) (t : rk_AV) (v : Value), ts[i]? = some t → fs[i]? = some v → rk_has G X t v
  | (1, n, _, _) => ∃ (cA : ClassId) (g : Nat → Int32), e = .inl (cA, n, .inl g) ∧ tys[0]? = some (cA, .int) ∧ ∀ i, i < n → rk_has G X (E k i) (.int (g i))
  | (_, n, t0, _) => ∃ (cA : ClassId) (C : String) (g : Nat → Option Nat), e = .inl (cA, n, .inr (.inr (.inr (.inr g)))) ∧ tys[t0]? = some (cA, .object C) ∧ ∀ i, i < n → rk_has G X (E k i) (va_rf (g i))
def rk_TY (K : Nat → rk_KD) (E : Nat → Nat → rk_AV) (tys : List (ClassId × FieldType)) (G : Nat → Option Nat) (X : Int) (L : List Nat) (f : Nat → va_E) : Prop := (∀ a k, G a = some k → (K k).1 ≠ 9 → a ∈ L ∧ rk_cell K E tys G X k (f a)) ∧ ∀ a k, (K k).1 = 9 → (G a = some k ↔ (E k 0).2.1 = (a : Int))
theorem rk_cell_X {K : Nat → rk_KD} {E : Nat → Nat → rk_AV} {tys : List (ClassId × FieldType)} {G : Nat → Option Nat} {X Y : Int} {k : Nat} {e : va_E} (h : X ≤ Y) (hc : rk_cell K E tys G X k e) : rk_cell K E tys G Y k e := by
  unfold rk_cell at hc ⊢
  generalize K k = kd at hc ⊢
  obtain ⟨n, ci, t0, ts⟩ := kd
  rcases n with _ | _ | n
  · obtain ⟨fs, h1, h2, h3⟩ := hc
    exact ⟨fs, h1, h2, fun i t v a b => rk_has_X h (h3 i t v a b)⟩
  · obtain ⟨cA, g, h1, h2, h3⟩ := hc
    exact ⟨cA, g, h1, h2, fun i hi => rk_has_X h (h3 i hi)⟩
  · obtain ⟨cA, C, g, h1, h2, h3⟩ := hc
    exact ⟨cA, C, g, h1, h2, fun i hi => rk_has_X h (h3 i hi)⟩
theorem rk_TY_X {K : Nat → rk_KD} {E : Nat → Nat → rk_AV} {tys : List (ClassId × FieldType)} {G : Nat → Option Nat} {X Y : Int} {L : List Nat} {f : Nat → va_E} (h : X ≤ Y) (hc : rk_TY K E tys G X L f) : rk_TY K E tys G Y L f := ⟨fun a k ha hk => ⟨(hc.1 a k ha hk).1, rk_cell_X h (hc.1 a k ha hk).2⟩, hc.2⟩
theorem rk_TY_up {K : Nat → rk_KD} {E : Nat → Nat → rk_AV} {tys : List (ClassId × FieldType)} {G : Nat → Option Nat} {X : Int} {L : List Nat} {f : Nat → va_E} {a k : Nat} {e : va_E} (hc : rk_TY K E tys G X L f) (ha : G a = some k) (he : rk_cell K E tys G X k e) : rk_TY K E tys G X L (va_up f a e) := by
  refine ⟨fun b j hb hj => ?_, hc.2⟩
  refine ⟨(hc.1 b j hb hj).1, ?_⟩
  by_cases hba : b = a
  · subst hba
    rw [hb] at ha
    cases ha
    rw [va_up_self]
    exact he
  · rw [va_up_ne _ _ hba]
    exact (hc.1 b j hb hj).2
/-! the symbolic state: locals, stack, what each symbol may be, known fields, facts, cost -/
abbrev rk_St : Type := List (Nat × Nat) × List Nat × List rk_AV × List (Nat × Nat × Nat) × List (Nat × Nat × Nat × Int) × Int
def rk_fld (e : va_E) (i : Nat) : Option Value := match e with
  | .inr o => o.2[i]?
  | .inl _ => none
/-- what stands in a row, at a place -/
def rk_elt (e : va_E) (v : Value) : Option Value := match e with
  | .inl (_, _, .inl g) => (match v with
    | .int i => some (.int (g i.toNatClampNeg))
    | _ => none)
  | .inl (_, _, .inr (.inr (.inr (.inr g)))) => (match v with
    | .int i => some (va_rf (g i.toNatClampNeg))
    | _ => none)
  | _ => none
/-- a known field, or (from 1000000 on) a known place of a row -/
def rk_kf (r : Nat → Value) (e : va_E) (i : Nat) : Option Value := if i < 1000000 then rk_fld e i else rk_elt e (r (i - 1000000))
def rk_fact (r : Nat → Value) (q : Nat × Nat × Nat × Int) : Prop := match q with
  | (0, y, x, c) => rk_toI (r y) = rk_toI (r x) + c
  | (1, x, y, _) => rk_toI (r x) < rk_toI (r y)
  | (2, y, x, c) => rk_toI (r y) = rk_toI (r x) % c
  | (3, z, x, y) => ∃ a b : Int32, r x = .int a ∧ r y.toNat = .int b ∧ r z = .int (a + b)
  | _ => True
/-- the fixed things of a walk: what is wanted of the cells (in a method that changes none), kinds, layouts, array classes, class numbers, classes, what may change, the start's heap, the typing, the cells, the locals' number, the counters' bound at the start -/
abbrev rk_Fx : Type := ((Nat → va_E) → Prop) × (Nat → rk_KD) × (Nat → Nat → rk_AV) × List (ClassId × FieldType) × va_G × (Nat → Prop) × Heap × (Nat → Option Nat) × List Nat × Nat × Int
def rk_w (F : rk_Fx) (co : Int) (f : Nat → va_E) (H : Heap) (locs : List Loc) : Prop := match F with
  | (Pf, K, E, tys, D, A, H0, G, L, _, X) => va_P D vwCl (va_pl L f) H ∧ va_D A (va_pl L f) ∧ va_S A H0 H locs ∧ rk_TY K E tys G (X + co) L f ∧ Pf f
abbrev rk_fG (F : rk_Fx) : Nat → Option Nat := F.2.2.2.2.2.2.2.1
abbrev rk_fn (F : rk_Fx) : Nat := F.2.2.2.2.2.2.2.2.2.1
abbrev rk_fX (F : rk_Fx) : Int := F.2.2.2.2.2.2.2.2.2.2
def rk_on (F : rk_Fx) (nE : Nat) (r0 r : Nat → Value) (S : rk_St) (f : Nat → va_E) (H : Heap) (locs : List Loc) (ls : Array Slot) (st : List Value) : Prop := match S with
  | (lo, sk, en, kn, fc, co) =>
    (∀ y t, en[y]? = some t → rk_has (rk_fG F) (rk_fX F + co) t (r y)) ∧ (∀ q ∈ kn, ∃ a, r q.1 = .ref a ∧ rk_kf r (f a) q.2.1 = some (r q.2.2)) ∧ (∀ q ∈ fc, rk_fact r q) ∧
    lv_has ls (rk_fn F) (lo.map fun q => (q.1, r q.2)) ∧ st = sk.map r ∧ (∀ y, y < nE → r y = r0 y) ∧ (0 ≤ co ∧ co ≤ 10000000) ∧ rk_w F co f H locs
def rk_wf (nE : Nat) (S : rk_St) : Bool := match S with
  | (lo, sk, en, kn, fc, _) =>
    let n := en.length
    Nat.ble nE n && (lo.all (fun q => Nat.blt q.2 n) && (sk.all (fun y => Nat.blt y n) && (kn.all (fun q => Nat.blt q.1 n && (Nat.blt q.2.2 n && Nat.blt q.2.1 (1000000 + n))) && fc.all (fun q => Nat.blt q.2.1 n && (Nat.blt q.2.2.1 n && (Nat.blt q.2.2.2.toNat n || !(Nat.beq q.1 3)))))))
section RKP
variable {F : rk_Fx} {nE : Nat} {r0 r : Nat → Value} {lo : List (Nat × Nat)} {sk : List Nat} {en : List rk_AV} {kn : List (Nat × Nat × Nat)} {fc : List (Nat × Nat × Nat × Int)} {co : Int} {f : Nat → va_E} {H : Heap} {locs : List Loc} {ls : Array Slot} {st : List Value}
theorem rk_fact_eq {r r' : Nat → Value} {q : Nat × Nat × Nat × Int} (h1 : r' q.2.1 = r q.2.1) (h2 : r' q.2.2.1 = r q.2.2.1) (h3 : q.1 = 3 → r' q.2.2.2.toNat = r q.2.2.2.toNat) (h : rk_fact r q) : rk_fact r' q := by
  obtain ⟨n, x, y, c⟩ := q
  dsimp only at h1 h2 h3
  rcases n with _ | _ | _ | _ | n
  · simp only [rk_fact] at h ⊢; rw [h1, h2]; exact h
  · simp only [rk_fact] at h ⊢; rw [h1, h2]; exact h
  · simp only [rk_fact] at h ⊢; rw [h1, h2]; exact h
  · simp only [rk_fact] at h ⊢; rw [h1, h2, h3 rfl]; exact h
  · trivial
/-- a new symbol may be anything -/
theorem rk_fresh (h : rk_on F nE r0 r (lo, sk, en, kn, fc, co) f H locs ls st) (hw : rk_wf nE (lo, sk, en, kn, fc, co) = true) (v : Value) : ∃ r' : Nat → Value, r' en.length = v ∧ (∀ y, y < en.length → r' y = r y) ∧ rk_on F nE r0 r' (lo, sk, en, kn, fc, co) f H locs ls st := by
  obtain ⟨h1, h2, h3, h4, h5, h6, h7, h8⟩ := h
  simp only [rk_wf, Bool.and_eq_true, Bool.or_eq_true, List.all_eq_true, Nat.blt_eq, Nat.ble_eq] at hw
  obtain ⟨w0, w1, w2, w3, w4⟩ := hw
  obtain ⟨r', e0, e⟩ : ∃ r' : Nat → Value, r' en.length = v ∧ ∀ y, y < en.length → r' y = r y := ⟨fun z => if z = en.length then v else r z, if_pos rfl, fun y hy => if_neg (by omega)⟩
  refine ⟨r', e0, e, ?_, ?_, ?_, ?_, ?_, ?_, h7, h8⟩
  · intro y t ht
    rw [e y (List.getElem?_eq_some_iff.mp ht).1]
    exact h1 y t ht
  · intro q hq
    obtain ⟨a, e1, e2⟩ := h2 q hq
    have := w3 q hq
    refine ⟨a, ?_, ?_⟩
    · rw [e _ this.1]; exact e1
    · rw [e _ this.2.1]
      unfold rk_kf at e2 ⊢
      split
      · rename_i hi
        rw [if_pos hi] at e2
        exact e2
      · rename_i hi
        rw [if_neg hi] at e2
        rw [e _ (by omega)]
        exact e2
  · intro q hq
    have := w4 q hq
    exact rk_fact_eq (e _ this.1) (e _ this.2.1) (fun h9 => e _ (by
      rcases this.2.2 with h8 | h8
      · exact h8
      · rw [h9] at h8
        simp at h8)) (h3 q hq)
  · have : (lo.map fun q => (q.1, r' q.2)) = lo.map fun q => (q.1, r q.2) := by
      apply List.map_congr_left
      intro q hq
      rw [e _ (w1 q hq)]
    rw [this]
    exact h4
  · rw [h5]
    apply List.map_congr_left
    intro y hy
    rw [e _ (w2 y hy)]
  · intro y hy
    rw [e _ (by omega)]
    exact h6 y hy
/-- the new symbol enters -/
theorem rk_enter {t : rk_AV} (h : rk_on F nE r0 r (lo, sk, en, kn, fc, co) f H locs ls st) (ht : rk_has (rk_fG F) (rk_fX F + co) t (r en.length)) : rk_on F nE r0 r (lo, sk, en ++ [t], kn, fc, co) f H locs ls st := by
  obtain ⟨h1, h⟩ := h
  refine ⟨fun y u hu => ?_, h⟩
  by_cases hy : y < en.length
  · rw [List.getElem?_append_left hy] at hu
    exact h1 y u hu
  · rw [List.getElem?_append_right (by omega)] at hu
    have hz : y - en.length < 1 := (List.getElem?_eq_some_iff.mp hu).1
    have : y = en.length := by omega
    subst this
    rw [Nat.sub_self] at hu
    cases hu
    exact ht
theorem rk_push (y : Nat) (h : rk_on F nE r0 r (lo, sk, en, kn, fc, co) f H locs ls st) : rk_on F nE r0 r (lo, y :: sk, en, kn, fc, co) f H locs ls (r y :: st) := by
  obtain ⟨h1, h2, h3, h4, h5, h⟩ := h
  exact ⟨h1, h2, h3, h4, by rw [h5]; rfl, h⟩
theorem rk_pop {y : Nat} (h : rk_on F nE r0 r (lo, y :: sk, en, kn, fc, co) f H locs ls st) : ∃ st', st = r y :: st' ∧ rk_on F nE r0 r (lo, sk, en, kn, fc, co) f H locs ls st' := by
  obtain ⟨h1, h2, h3, h4, h5, h⟩ := h
  exact ⟨sk.map r, h5, h1, h2, h3, h4, rfl, h⟩
theorem rk_addf {q : Nat × Nat × Nat × Int} (h : rk_on F nE r0 r (lo, sk, en, kn, fc, co) f H locs ls st) (hq : rk_fact r q) : rk_on F nE r0 r (lo, sk, en, kn, q :: fc, co) f H locs ls st := by
  obtain ⟨h1, h2, h3, h⟩ := h
  refine ⟨h1, h2, fun p hp => ?_, h⟩
  rcases List.mem_cons.mp hp with rfl | hp
  · exact hq
  · exact h3 p hp
theorem rk_addk {q : Nat × Nat × Nat} (h : rk_on F nE r0 r (lo, sk, en, kn, fc, co) f H locs ls st) (hq : ∃ a, r q.1 = .ref a ∧ rk_kf r (f a) q.2.1 = some (r q.2.2)) : rk_on F nE r0 r (lo, sk, en, q :: kn, fc, co) f H locs ls st := by
  obtain ⟨h1, h2, h3, h⟩ := h
  refine ⟨h1, fun p hp => ?_, h3, h⟩
  rcases List.mem_cons.mp hp with rfl | hp
  · exact hq
  · exact h2 p hp
theorem rk_ref {y : Nat} {t : rk_AV} (h : rk_on F nE r0 r (lo, sk, en, kn, fc, co) f H locs ls st) (ht : rk_has (rk_fG F) (rk_fX F + co) t (r y)) : rk_on F nE r0 r (lo, sk, en.set y t, kn, fc, co) f H locs ls st := by
  obtain ⟨h1, h⟩ := h
  refine ⟨fun z u hu => ?_, h⟩
  by_cases hz : z = y
  · subst hz
    by_cases hl : z < en.length
    · rw [List.getElem?_set_self hl] at hu
      cases hu
      exact ht
    · rw [List.set_eq_of_length_le (by omega)] at hu
      exact h1 z u hu
  · rw [List.getElem?_set_ne (Ne.symm hz)] at hu
    exact h1 z u hu
theorem rk_val {y : Nat} {t : rk_AV} (h : rk_on F nE r0 r (lo, sk, en, kn, fc, co) f H locs ls st) (ht : en[y]? = some t) : rk_has (rk_fG F) (rk_fX F + co) t (r y) := h.1 y t ht
end RKP
