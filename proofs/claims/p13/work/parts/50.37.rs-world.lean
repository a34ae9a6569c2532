/-! the things and the machine's cells -/
def rs_rel (tys : List (ClassId × FieldType)) (dn : rs_V → Value → Prop) (o : rs_O) (E : va_E) : Prop :=
  (o.1 < 16 → ∃ vs : List Value, E = .inr (o.1, vs) ∧ vs.length = o.2.1 ∧ o.2.1 ≤ 32 ∧ ∀ k, k < o.2.1 → ∃ x, vs[k]? = some x ∧ dn (rt_g o.2.2 k) x) ∧
  (o.1 = 16 → ∃ (cA : ClassId) (g : Nat → Int32), E = .inl (cA, o.2.1, .inl g) ∧ tys[0]? = some (cA, .int) ∧ o.2.1 ≤ 8192 ∧ ∀ k, k < o.2.1 → dn (rt_g o.2.2 k) (.int (g k))) ∧
  (17 ≤ o.1 → o.1 ≤ 31 → ∃ (cA : ClassId) (C : String) (g : Nat → Option Nat), E = .inl (cA, o.2.1, .inr (.inr (.inr (.inr g)))) ∧ tys[o.1 - 16]? = some (cA, .object C) ∧ o.2.1 ≤ 8192 ∧ ∀ k, k < o.2.1 → dn (rt_g o.2.2 k) (va_rf (g k)))
theorem rs_rel_mono {tys : List (ClassId × FieldType)} {dn dn' : rs_V → Value → Prop} (h : ∀ v x, dn v x → dn' v x) {o : rs_O} {E : va_E} (hr : rs_rel tys dn o E) : rs_rel tys dn' o E := by
  obtain ⟨h1, h2, h3⟩ := hr
  refine ⟨fun a => ?_, fun a => ?_, fun a b => ?_⟩
  · obtain ⟨vs, e1, e2, e3, e4⟩ := h1 a
    exact ⟨vs, e1, e2, e3, fun k hk => (e4 k hk).imp (fun x hx => ⟨hx.1, h _ _ hx.2⟩)⟩
  · obtain ⟨cA, g, e1, e2, e3, e4⟩ := h2 a
    exact ⟨cA, g, e1, e2, e3, fun k hk => h _ _ (e4 k hk)⟩
  · obtain ⟨cA, C, g, e1, e2, e3, e4⟩ := h3 a b
    exact ⟨cA, C, g, e1, e2, e3, fun k hk => h _ _ (e4 k hk)⟩
/-- all that is fixed in a frame: array classes, classes' numbers, what may change, the heap at the start, the script's numbers, its cell, the locals' number; the start's things, their number, places, cells, contents -/
abbrev rs_Fx : Type := (List (ClassId × FieldType) × va_G × (Nat → Prop) × Heap × (Nat → Int32) × Nat × Nat) × rs_H × Nat × (Nat → Nat) × List Nat × (Nat → va_E)
abbrev rs_fr_r (F : rs_Fx) : Nat → Int32 := F.1.2.2.2.2.1
def rs_dn (F : rs_Fx) (ad : Nat → Nat) (nn : Nat) : rs_V → Value → Prop := rs_den F.1.2.2.2.2.1 F.1.2.2.2.2.2.1 ad nn
def rs_w (F : rs_Fx) (hp : rs_H) (nn : Nat) (ad : Nat → Nat) (L : List Nat) (f : Nat → va_E) (H : Heap) (locs : List Loc) : Prop := match F with
  | ((tys, D, A, H0, r, sb, _), _) => va_P D vwCl (va_pl L f) H ∧ va_D A (va_pl L f) ∧ va_S A H0 H locs ∧ (∀ i, i < nn → ad i ∈ L ∧ ((rt_g hp i).1 < 32 → rs_rel tys (rs_den r sb ad nn) (rt_g hp i) (f (ad i)))) ∧ (∀ i j, i < nn → j < nn → ad i = ad j → i = j) ∧ nn ≤ 1024
def rs_fr (F : rs_Fx) (hp : rs_H) (nn : Nat) (ad : Nat → Nat) (L : List Nat) (f : Nat → va_E) : Prop := match F with
  | (_, hp0, nn0, ad0, L0, f0) => nn0 ≤ nn ∧ (∀ i, i < nn0 → ad i = ad0 i) ∧ (∀ i, i < nn0 → (rt_g hp i).1 < 32 → (rt_g hp0 i).1 < 32) ∧ (∀ a ∈ L0, a ∈ L) ∧ (∀ i, nn0 ≤ i → i < nn → ad i ∉ L0) ∧ ∀ a ∈ L0, (∀ i, i < nn0 → (rt_g hp0 i).1 < 32 → a ≠ ad0 i) → f a = f0 a
def rs_loc (dn : rs_V → Value → Prop) (nL : Nat) (lo : List rs_V) (ls : Array Slot) : Prop := ls.size = nL ∧ lv_wf ls ∧ ∀ i, (rs_ln lo i).1 < 7 → ∃ x, ls[i]? = some (.val x) ∧ dn (rs_ln lo i) x
def rs_stk (dn : rs_V → Value → Prop) : List rs_V → List Value → Prop
  | [], [] => True
  | v :: sk, x :: st => dn v x ∧ rs_stk dn sk st
  | _, _ => False
theorem rs_stk_mono {dn dn' : rs_V → Value → Prop} (h : ∀ v x, dn v x → dn' v x) : ∀ (sk : List rs_V) (st : List Value), rs_stk dn sk st → rs_stk dn' sk st
  | [], [], _ => trivial
  | v :: sk, x :: st, hs => ⟨h _ _ hs.1, rs_stk_mono h sk st hs.2⟩
  | [], _ :: _, hs => hs
  | _ :: _, [], hs => hs
theorem rs_stk_cons {dn : rs_V → Value → Prop} {v : rs_V} {sk : List rs_V} {st : List Value} (h : rs_stk dn (v :: sk) st) : ∃ x st', st = x :: st' ∧ dn v x ∧ rs_stk dn sk st' := by
  cases st with
  | nil => exact absurd h id
  | cons x st => exact ⟨x, st, rfl, h.1, h.2⟩
theorem rs_stk_nil {dn : rs_V → Value → Prop} {st : List Value} (h : rs_stk dn [] st) : st = [] := by
  cases st with
  | nil => rfl
  | cons x st => exact absurd h id
def rs_on (F : rs_Fx) (sk lo : List rs_V) (en : rs_E) (w : rs_W) (ad : Nat → Nat) (L : List Nat) (f : Nat → va_E) (H : Heap) (locs : List Loc) (ls : Array Slot) (st : List Value) : Prop :=
  rs_env F.1.2.2.2.2.1 en ∧ rs_w F w.1 w.2.1 ad L f H locs ∧ rs_fr F w.1 w.2.1 ad L f ∧ rs_loc (rs_dn F ad w.2.1) F.1.2.2.2.2.2.2 lo ls ∧ rs_stk (rs_dn F ad w.2.1) sk st
section RSG
variable {p : Program} {l : Launch} {e : Env} {R : Room} {s : State} {m : MethodId} {args : Array Value} {below : List Frame} {meth : Method} {c : Code} {Q : State → Prop} {F : rs_Fx}
def rs_G (p : Program) (l : Launch) (e : Env) (R : Room) (s : State) (m : MethodId) (args : Array Value) (below : List Frame) (meth : Method) (c : Code) (Q : State → Prop) (F : rs_Fx) (pc : Nat) (sk lo : List rs_V) (en : rs_E) (w : rs_W) : Prop :=
  ∀ (ad : Nat → Nat) (L : List Nat) (f : Nat → va_E) (H : Heap) (locs : List Loc) (ls : Array Slot) (st : List Value), rs_on F sk lo en w ad L f H locs ls st → W p l e R s m args below meth c H locs w.2.2.1 w.2.2.2 Q (F0 m pc ls st)
theorem rs_at {tys : List (ClassId × FieldType)} {D : va_G} {A : Nat → Prop} {H0 : Heap} {r : Nat → Int32} {sb nL : Nat} {Z : rs_H × Nat × (Nat → Nat) × List Nat × (Nat → va_E)} {hp : rs_H} {nn : Nat} {ad : Nat → Nat} {L : List Nat} {f : Nat → va_E} {H : Heap} {locs : List Loc} (hw : rs_w ((tys, D, A, H0, r, sb, nL), Z) hp nn ad L f H locs) {i : Nat} (hi : i < nn) (ht : (rt_g hp i).1 < 32) : ∃ k : Nat, (va_pl L f)[k]? = some (ad i, f (ad i)) ∧ ad i ∈ L ∧ rs_rel tys (rs_den r sb ad nn) (rt_g hp i) (f (ad i)) := by
  obtain ⟨h1, h2⟩ := hw.2.2.2.1 i hi
  obtain ⟨k, hk⟩ := va_pl_get (X := []) (f := f) h1
  exact ⟨k, hk, h1, h2 ht⟩
/-- one thing changed -/
theorem rs_up {tys : List (ClassId × FieldType)} {D : va_G} {A : Nat → Prop} {H0 : Heap} {r : Nat → Int32} {sb nL : Nat} {Z : rs_H × Nat × (Nat → Nat) × List Nat × (Nat → va_E)} {hp hp' : rs_H} {nn : Nat} {ad : Nat → Nat} {L : List Nat} {f : Nat → va_E} {H : Heap} {locs : List Loc} (hw : rs_w ((tys, D, A, H0, r, sb, nL), Z) hp nn ad L f H locs) (hf : rs_fr ((tys, D, A, H0, r, sb, nL), Z) hp nn ad L f) {i : Nat} (hi : i < nn) (ht : (rt_g hp i).1 < 32) {o' : rs_O} {E' : va_E} (hrel : rs_rel tys (rs_den r sb ad nn) o' E') (g1 : rt_g hp' i = o') (g2 : ∀ j, j < 2 ^ 10 → j ≠ i → rt_g hp' j = rt_g hp j) {k : Nat} (hk : (va_pl L f)[k]? = some (ad i, f (ad i))) {H1 : Heap} {locs1 : List Loc} (hP : va_P D vwCl ((va_pl L f).set k (ad i, E')) H1) (hD : va_D A ((va_pl L f).set k (ad i, E'))) (hS : va_S A H0 H1 locs1) : rs_w ((tys, D, A, H0, r, sb, nL), Z) hp' nn ad L (va_up f (ad i) E') H1 locs1 ∧ rs_fr ((tys, D, A, H0, r, sb, nL), Z) hp' nn ad L (va_up f (ad i) E') := by
  obtain ⟨w1, w2, w3, w4, w5, w6⟩ := hw
  have hin := (w4 i hi).1
  have e : (va_pl L f).set k (ad i, E') = va_pl L (va_up f (ad i) E') := va_pl_set (X := []) w2 hin hk
  rw [e] at hP hD
  refine ⟨⟨hP, hD, hS, fun j hj => ?_, w5, w6⟩, ?_⟩
  · by_cases hji : j = i
    · subst hji
      rw [g1, va_up_self]
      exact ⟨hin, fun _ => hrel⟩
    · rw [g2 j (by omega) hji, va_up_ne _ _ (fun h => hji (w5 j i hj hi h))]
      exact w4 j hj
  · obtain ⟨hp0, nn0, ad0, L0, f0⟩ := Z
    obtain ⟨a1, a2, a3, a4, a5, a6⟩ := hf
    refine ⟨a1, a2, fun j hj hjt => ?_, a4, a5, fun a ha hn => ?_⟩
    · by_cases hji : j = i
      · subst hji
        exact a3 j hj ht
      · rw [g2 j (by omega) hji] at hjt
        exact a3 j hj hjt
    · rw [va_up_ne _ _ (fun h => ?_), a6 a ha hn]
      by_cases h0 : i < nn0
      · exact hn i h0 (a3 i h0 ht) (h.trans (a2 i h0))
      · exact a5 i (by omega) hi (h ▸ ha)
/-- one thing more -/
theorem rs_more {tys : List (ClassId × FieldType)} {D : va_G} {A : Nat → Prop} {H0 : Heap} {r : Nat → Int32} {sb nL : Nat} {Z : rs_H × Nat × (Nat → Nat) × List Nat × (Nat → va_E)} {hp hp' : rs_H} {nn : Nat} {ad : Nat → Nat} {L : List Nat} {f : Nat → va_E} {H : Heap} {locs : List Loc} (hw : rs_w ((tys, D, A, H0, r, sb, nL), Z) hp nn ad L f H locs) (hf : rs_fr ((tys, D, A, H0, r, sb, nL), Z) hp nn ad L f) {o' : rs_O} {E' : va_E} (hrel : rs_rel tys (rs_den r sb ad nn) o' E') (hnn : nn < 1024) (g1 : rt_g hp' nn = o') (g2 : ∀ j, j < 2 ^ 10 → j ≠ nn → rt_g hp' j = rt_g hp j) {q : Nat} {H1 : Heap} (hP : va_P D vwCl (va_pl L f ++ [(q, E')]) H1) (hD : va_D A (va_pl L f ++ [(q, E')])) (hS : va_S A H0 H1 locs) : (∀ i, i < nn → va_up ad nn q i = ad i) ∧ va_up ad nn q nn = q ∧ rs_w ((tys, D, A, H0, r, sb, nL), Z) hp' (nn + 1) (va_up ad nn q) (L ++ [q]) (va_up f q E') H1 locs ∧ rs_fr ((tys, D, A, H0, r, sb, nL), Z) hp' (nn + 1) (va_up ad nn q) (L ++ [q]) (va_up f q E') := by
  obtain ⟨w1, w2, w3, w4, w5, w6⟩ := hw
  have hq : q ∉ L := by
    intro hq
    obtain ⟨k, hk⟩ := va_pl_get (X := []) (f := f) hq
    have hk : (va_pl L f)[k]? = some (q, f q) := hk
    have hl := (List.getElem?_eq_some_iff.mp hk).1
    have := hD.1 k (va_pl L f).length (q, f q) (q, E') (by rw [List.getElem?_append_left hl]; exact hk) (by simp) rfl
    omega
  have e := va_pl_push (f := f) (e := E') hq
  rw [e] at hP hD
  have hext : ∀ i, i < nn → va_up ad nn q i = ad i := fun i hi => va_up_ne _ _ (by omega)
  have hmono : ∀ v x, rs_den r sb ad nn v x → rs_den r sb (va_up ad nn q) (nn + 1) v x := fun v x h => rs_den_mono (by omega) hext h
  obtain ⟨hp0, nn0, ad0, L0, f0⟩ := Z
  obtain ⟨a1, a2, a3, a4, a5, a6⟩ := hf
  refine ⟨hext, va_up_self _ _ _, ⟨hP, hD, hS, fun j hj => ?_, fun i j hi hj hij => ?_, by omega⟩, ⟨by omega, fun i hi => ?_, fun j hj hjt => ?_, fun a ha => List.mem_append_left _ (a4 a ha), fun i h1 h2 hm => ?_, fun a ha hn => ?_⟩⟩
  · by_cases hjn : j = nn
    · subst hjn
      rw [g1, va_up_self, va_up_self]
      exact ⟨List.mem_append_right _ (List.mem_singleton.mpr rfl), fun _ => rs_rel_mono hmono hrel⟩
    · rw [g2 j (by omega) hjn]
      obtain ⟨b1, b2⟩ := w4 j (by omega)
      rw [hext j (by omega), va_up_ne (j := ad j) (k := q) _ _ (fun h => hq (by rw [← h]; exact b1))]
      exact ⟨List.mem_append_left _ b1, fun h => rs_rel_mono hmono (b2 h)⟩
  · by_cases h1 : i = nn
    · by_cases h2 : j = nn
      · omega
      · rw [h1, va_up_self, hext j (by omega)] at hij
        exact absurd (hij ▸ (w4 j (by omega)).1) hq
    · by_cases h2 : j = nn
      · rw [h2, va_up_self, hext i (by omega)] at hij
        exact absurd (hij ▸ (w4 i (by omega)).1) hq
      · rw [hext i (by omega), hext j (by omega)] at hij
        exact w5 i j (by omega) (by omega) hij
  · rw [hext i (by omega)]
    exact a2 i hi
  · rw [g2 j (by omega) (by omega)] at hjt
    exact a3 j hj hjt
  · by_cases hin : i = nn
    · rw [hin, va_up_self] at hm
      exact hq (a4 _ hm)
    · rw [hext i (by omega)] at hm
      exact a5 i h1 (by omega) hm
  · rw [va_up_ne (j := a) (k := q) _ _ (fun h => hq (by rw [← h]; exact a4 a ha))]
    exact a6 a ha hn
theorem rs_mkE {o : rs_O} {n capc caps : Nat} {w : rs_W} {k : rs_W → Bool} (h : rs_mk o n capc caps w k = true) : w.2.2.1 + 1 ≤ capc ∧ w.2.2.2 + n ≤ caps ∧ w.2.1 < 1024 ∧ ∃ hp', k (hp', w.2.1 + 1, w.2.2.1 + 1, w.2.2.2 + n) = true ∧ rt_g hp' w.2.1 = o ∧ ∀ j, j < 2 ^ 10 → j ≠ w.2.1 → rt_g hp' j = rt_g w.1 j := by
  unfold rs_mk at h
  obtain ⟨h1, h⟩ := rs_andE h
  obtain ⟨h2, h⟩ := rs_andE h
  obtain ⟨h3, h⟩ := rs_andE h
  have h1 := rs_ltE h1
  have h3 := rs_ltE h3
  obtain ⟨t', b1, b2, b3⟩ := rt_sE 10 _ _ _ (by omega) h
  have c1 := rs_nfE b1
  have c2 := rs_nfE c1
  have c3 := rs_nfE c2
  exact ⟨h1, rs_leE h2, h3, t', c3, b2, b3⟩
/-- locals behind a store -/
theorem rs_loc_set {dn : rs_V → Value → Prop} (hcat : ∀ v x, dn v x → x.category = 1) {nL : Nat} {lo lo' : List rs_V} {ls : Array Slot} (h : rs_loc dn nL lo ls) {i : Nat} {v : rs_V} {x : Value} (hv : dn v x) (g1 : rs_ln lo' i = v) (g2 : ∀ j, j ≠ i → rs_ln lo' j = rs_ln lo j) : ∃ lv : List (Nat × Value), lv_has ls nL lv ∧ (∀ j y, ls[j]? = some (.val y) → (j, y) ∈ lv) ∧ ∀ ls' : Array Slot, lv_has ls' nL ((i, x) :: lv.filter (fun q => !(q.1 == i) && !(q.1 + 1 == i && q.2.category == 2))) → rs_loc dn nL lo' ls' := by
  obtain ⟨h1, h2, h3⟩ := h
  refine ⟨(List.range nL).filterMap (fun j => match (ls[j]? : Option Slot) with
    | some (Slot.val y) => some (j, y)
    | _ => none), ⟨h1, h2, fun q hq => ?_⟩, fun j y hy => List.mem_filterMap.mpr ⟨j, List.mem_range.mpr (by rw [← h1]; exact (Array.getElem?_eq_some_iff.mp hy).1), by rw [hy]⟩, fun ls' hl => ⟨hl.1, hl.2.1, fun j hj => ?_⟩⟩
  · obtain ⟨j, -, hj⟩ := List.mem_filterMap.mp hq
    split at hj
    · rename_i y hy
      cases hj
      exact hy
    · cases hj
  · by_cases hji : j = i
    · subst hji
      rw [g1]
      exact ⟨x, hl.2.2 (j, x) List.mem_cons_self, hv⟩
    · rw [g2 j hji] at hj ⊢
      obtain ⟨y, e1, e2⟩ := h3 j hj
      refine ⟨y, hl.2.2 (j, y) (List.mem_cons_of_mem _ (List.mem_filter.mpr ⟨List.mem_filterMap.mpr ⟨j, List.mem_range.mpr ?_, ?_⟩, ?_⟩)), e2⟩
      · rw [← h1]
        exact (Array.getElem?_eq_some_iff.mp e1).1
      · rw [e1]
      · have := hcat _ _ e2
        simp [this, hji]
end RSG
