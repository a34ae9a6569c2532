/-! levels: what may have changed -/
/-- a field of all things of a kind stays -/
def rk_fldE (k i : Nat) (G : Nat → Option Nat) (f u : Nat → va_E) : Prop := ∀ a, G a = some k → rk_fld (f a) i = rk_fld (u a) i
def rk_inr (i : Nat) (x y : Int) : Bool := decide (x ≤ (i : Int)) && decide ((i : Int) ≤ y)
def rk_okf (k i k' : Nat) (x y : Int) : Bool := !(Nat.beq k' k && rk_inr i x y)
theorem rk_dif_fld {x y : Int} {e0 e : va_E} {i : Nat} (h : rk_dif x y e0 e) (hi : rk_inr i x y = false) : rk_fld e i = rk_fld e0 i := by
  have hi : ¬ (x ≤ (i : Int) ∧ (i : Int) ≤ y) := by
    intro h9
    have : rk_inr i x y = true := by
      unfold rk_inr
      rw [Bool.and_eq_true, decide_eq_true_eq, decide_eq_true_eq]
      exact h9
    rw [hi] at this
    cases this
  rcases h with ⟨ci, fs, j, v, h1, h2, h3, h4⟩ | ⟨cA, n, g, g', h1, h2, h3⟩ | ⟨cA, n, g, g', h1, h2, h3⟩
  · rw [h1, h2]
    show (fs.set j v)[i]? = fs[i]?
    exact List.getElem?_set_ne (fun h => hi ⟨by omega, by omega⟩)
  · rw [h1, h2]
    rfl
  · rw [h1, h2]
    rfl
theorem rk_fldE_up {k i k' a : Nat} {x y : Int} {G : Nat → Option Nat} {f0 f : Nat → va_E} {e : va_E} (hok : rk_okf k i k' x y = true) (ha : G a = some k') (hd : rk_dif x y (f a) e) (h : rk_fldE k i G f0 f) : rk_fldE k i G f0 (va_up f a e) := by
  intro b hb
  by_cases hba : b = a
  · subst hba
    rw [va_up_self, h b hb]
    rw [hb] at ha
    cases ha
    unfold rk_okf at hok
    rw [Nat.beq_refl] at hok
    exact (rk_dif_fld hd (by simpa using hok)).symm
  · rw [va_up_ne _ _ hba]
    exact h b hb
/-- the row of kind k that field i of the thing at a0 points to -/
def rm_rw (G : Nat → Option Nat) (f : Nat → va_E) (a0 i k : Nat) : Nat → Int32 := match rk_fld (f a0) i with
  | some (.ref a) => if G a = some k then (match f a with
    | .inl (_, _, .inl g) => g
    | _ => fun _ => 0) else fun _ => 0
  | _ => fun _ => 0
def rm_rwE (i k : Nat) (P : Nat → Bool) (G : Nat → Option Nat) (f u : Nat → va_E) : Prop := ∀ a0, G a0 = some 12 → ∀ j, P j = true → rm_rw G f a0 i k j = rm_rw G u a0 i k j
def rm_no1 (P : Nat → Bool) : Nat → Nat → Bool
  | 0, _ => true
  | n + 1, j => !(P j) && rm_no1 P n (j + 1)
theorem rm_no1_ok {P : Nat → Bool} : ∀ (n j : Nat), rm_no1 P n j = true → ∀ i, j ≤ i → i < j + n → P i = false
  | 0, j, _, i, h1, h2 => by omega
  | n + 1, j, h, i, h1, h2 => by
    unfold rm_no1 at h
    rw [Bool.and_eq_true] at h
    by_cases hij : i = j
    · subst hij
      simpa using h.1
    · exact rm_no1_ok n (j + 1) h.2 i (by omega) (by omega)
def rm_no (P : Nat → Bool) (x y : Int) : Bool := decide (0 ≤ x) && rm_no1 P (y - x + 1).toNat x.toNat
theorem rm_no_ok {P : Nat → Bool} {x y : Int} (h : rm_no P x y = true) (j : Nat) (h1 : x ≤ (j : Int)) (h2 : (j : Int) ≤ y) : P j = false := by
  unfold rm_no at h
  rw [Bool.and_eq_true, decide_eq_true_eq] at h
  exact rm_no1_ok _ _ h.2 j (by omega) (by omega)
def rm_okr (i k : Nat) (P : Nat → Bool) (k' : Nat) (x y : Int) : Bool := !(Nat.beq k' 12 && rk_inr i x y) && (!(Nat.beq k' k) || rm_no P x y)
theorem rm_rwE_up {i k k' a : Nat} {P : Nat → Bool} {x y : Int} {G : Nat → Option Nat} {f0 f : Nat → va_E} {e : va_E} (hk : k ≠ 12) (hok : rm_okr i k P k' x y = true) (ha : G a = some k') (hd : rk_dif x y (f a) e) (h : rm_rwE i k P G f0 f) : rm_rwE i k P G f0 (va_up f a e) := by
  unfold rm_okr at hok
  rw [Bool.and_eq_true] at hok
  obtain ⟨hok1, hok2⟩ := hok
  intro a0 ha0 j hj
  rw [h a0 ha0 j hj]
  have hfld : rk_fld (va_up f a e a0) i = rk_fld (f a0) i := by
    by_cases hb : a0 = a
    · subst hb
      rw [va_up_self]
      rw [ha0] at ha
      cases ha
      refine rk_dif_fld hd ?_
      simpa using hok1
    · rw [va_up_ne _ _ hb]
  unfold rm_rw
  rw [hfld]
  generalize rk_fld (f a0) i = o
  cases o with
  | none => rfl
  | some v => cases v with
    | ref b =>
      dsimp only
      by_cases hGb : G b = some k
      · rw [if_pos hGb, if_pos hGb]
        by_cases hba : b = a
        · subst hba
          rw [hGb] at ha
          cases ha
          rw [Nat.beq_refl] at hok2
          have hno : rm_no P x y = true := by simpa using hok2
          rw [va_up_self]
          rcases hd with ⟨ci, fs, i', v, h1, h2, h3, h4⟩ | ⟨cA, n, g, g', h1, h2, h3⟩ | ⟨cA, n, g, g', h1, h2, h3⟩
          · rw [h1, h2]
          · rw [h1, h2]
            dsimp only
            refine (h3 j ?_).symm
            by_cases hjx : (j : Int) < x
            · exact Or.inl hjx
            · by_cases hjy : y < (j : Int)
              · exact Or.inr hjy
              · have := rm_no_ok hno j (by omega) (by omega)
                rw [hj] at this
                cases this
          · rw [h1, h2]
        · rw [va_up_ne _ _ hba]
      · rw [if_neg hGb, if_neg hGb]
    | _ => rfl
theorem rm_rwE_rf {i k : Nat} {P : Nat → Bool} {G : Nat → Option Nat} {f : Nat → va_E} : rm_rwE i k P G f f := fun _ _ _ _ => rfl
theorem rm_rwE_tr {i k : Nat} {P : Nat → Bool} {G : Nat → Option Nat} {f u w : Nat → va_E} (h1 : rm_rwE i k P G f u) (h2 : rm_rwE i k P G u w) : rm_rwE i k P G f w := fun a0 ha j hj => (h1 a0 ha j hj).trans (h2 a0 ha j hj)
/-! the model's cells that stand in relation to each other -/
def rm_RCw (w : Nat) : Bool := Nat.beq w 0 || (Nat.beq w 3 || (Nat.beq w 6 || (Nat.beq w 13 || Nat.beq w 20)))
def rm_RC (j : Nat) : Bool := if Nat.blt j 2560 then rm_RCw (j % 64) else if Nat.blt j 2860 then false else if Nat.blt j 6276 then Nat.beq ((j - 2860) % 427) 8 else false
def rm_HO (j : Nat) : Bool := if Nat.blt j 2860 then false else if Nat.blt j 6276 then Nat.beq ((j - 2860) % 427) 0 else false
def rm_TI (j : Nat) : Bool := Nat.beq j 6457
def rm_yes (_ : Nat) : Bool := true
/-- cell w of socket s -/
def rm_sc (g : Nat → Int32) (s w : Nat) : Int := (g (64 * s + w)).toInt
def rm_R1 (B S C : Int) : Prop := (S = 0 ∧ B + C ≤ 25) ∨ (1 ≤ S ∧ B + S ≤ 24)
def rm_R2 (T O : Int) : Prop := 1 ≤ T → 1 ≤ O
def rm_iS (g : Nat → Int32) (s : Nat) : Prop := rm_R1 (rm_sc g s 20) (rm_sc g s 6) (rm_sc g s 13) ∧ rm_R2 (rm_sc g s 3) (rm_sc g s 0)
def rm_inv (g : Nat → Int32) : Prop := ∀ s, s < 40 → rm_iS g s
def rm_now (G : Nat → Option Nat) (f : Nat → va_E) (a0 : Nat) : Nat → Int32 := rm_rw G f a0 1 24
def rm_asd (G : Nat → Option Nat) (f : Nat → va_E) (a0 : Nat) : Nat → Int32 := rm_rw G f a0 2 30
def rm_img (G : Nat → Option Nat) (f : Nat → va_E) (a0 : Nat) : Nat → Int32 := rm_rw G f a0 12 31
def rm_INV (G : Nat → Option Nat) (f : Nat → va_E) (a0 : Nat) : Prop := rm_inv (rm_now G f a0) ∧ rm_inv (rm_asd G f a0) ∧ rm_inv (rm_img G f a0)
def rm_phi (g : Nat → Int32) (s : Nat) : Int := rm_sc g s 20 + rm_sc g s 13
def rm_RCE (G : Nat → Option Nat) (f u : Nat → va_E) : Prop := rm_rwE 1 24 rm_RC G f u
def rm_AIE (G : Nat → Option Nat) (f u : Nat → va_E) : Prop := rm_rwE 2 30 rm_yes G f u ∧ rm_rwE 12 31 rm_yes G f u
theorem rm_RC_sc {s w : Nat} (hs : s < 40) (hw : rm_RCw w = true) : rm_RC (64 * s + w) = true := by
  have hw64 : w < 64 := by
    unfold rm_RCw at hw
    simp only [Bool.or_eq_true, Nat.beq_eq] at hw
    omega
  unfold rm_RC
  have e : (64 * s + w) % 64 = w := by omega
  rw [if_pos (by rw [Nat.blt_eq]; omega), e]
  exact hw
theorem rm_RC_q {e : Nat} (he : e < 8) : rm_RC (2860 + 427 * e + 8) = true := by
  unfold rm_RC
  have e1 : (2860 + 427 * e + 8 - 2860) % 427 = 8 := by omega
  rw [if_neg (by rw [Nat.blt_eq]; omega), if_neg (by rw [Nat.blt_eq]; omega), if_pos (by rw [Nat.blt_eq]; omega), e1]
  rfl
theorem rm_RCE_sc {G : Nat → Option Nat} {f u : Nat → va_E} (h : rm_RCE G f u) {a0 : Nat} (ha : G a0 = some 12) {s w : Nat} (hs : s < 40) (hw : rm_RCw w = true) : rm_sc (rm_now G u a0) s w = rm_sc (rm_now G f a0) s w := by
  unfold rm_sc rm_now
  rw [h a0 ha _ (rm_RC_sc hs hw)]
theorem rm_iS_eq {g g' : Nat → Int32} {s : Nat} (h : ∀ w, rm_RCw w = true → rm_sc g' s w = rm_sc g s w) (hi : rm_iS g s) : rm_iS g' s := by
  unfold rm_iS at hi ⊢
  rw [h 20 rfl, h 6 rfl, h 13 rfl, h 3 rfl, h 0 rfl]
  exact hi
theorem rm_INV_eq {G : Nat → Option Nat} {f u : Nat → va_E} (h1 : rm_RCE G f u) (h2 : rm_AIE G f u) {a0 : Nat} (ha : G a0 = some 12) (hi : rm_INV G f a0) : rm_INV G u a0 := by
  obtain ⟨i1, i2, i3⟩ := hi
  refine ⟨fun s hs => rm_iS_eq (fun w hw => rm_RCE_sc h1 ha hs hw) (i1 s hs), fun s hs => rm_iS_eq (fun w hw => ?_) (i2 s hs), fun s hs => rm_iS_eq (fun w hw => ?_) (i3 s hs)⟩
  · unfold rm_sc rm_asd
    rw [h2.1 a0 ha _ rfl]
  · unfold rm_sc rm_img
    rw [h2.2 a0 ha _ rfl]
/-- a field that is a number -/
def rm_fi (f : Nat → va_E) (a i : Nat) : Int := match rk_fld (f a) i with
  | some (.int x) => x.toInt
  | _ => 0
theorem rm_fi_eq {f u : Nat → va_E} {a i : Nat} (h : rk_fld (f a) i = rk_fld (u a) i) : rm_fi u a i = rm_fi f a i := by
  unfold rm_fi
  rw [h]
/-- there is one model -/
def rm_one (G : Nat → Option Nat) : Prop := (∀ a b, G a = some 12 → G b = some 12 → a = b) ∧ (∀ a b, G a = some 24 → G b = some 24 → a = b) ∧ (∀ a b, G a = some 30 → G b = some 30 → a = b) ∧ ∀ a b, G a = some 31 → G b = some 31 → a = b
/-- the model's relations, by their bits -/
def rm_Rb (b : Nat) (G : Nat → Option Nat) (f u : Nat → va_E) : Prop := match b with
  | 0 => u = f
  | 1 => rm_RCE G f u
  | 2 => rm_one G → ∀ a0, G a0 = some 12 → rm_INV G f a0 → rm_INV G u a0 ∧ ∀ s, s < 40 → rm_phi (rm_now G u a0) s ≤ rm_phi (rm_now G f a0) s
  | 3 => rm_one G → ∀ a0, G a0 = some 12 → rm_INV G f a0 → rm_INV G u a0
  | 4 => rk_fldE 12 4 G f u
  | 5 => rm_rwE 1 24 rm_HO G f u
  | 6 => rm_rwE 1 24 rm_TI G f u
  | 7 => rk_fldE 12 11 G f u
  | 8 => rm_AIE G f u
  | 9 => ∀ a0, G a0 = some 12 → rm_fi u a0 8 = rm_fi f a0 8 ∧ rm_fi f a0 7 ≤ rm_fi u a0 7
  | 10 => ∀ a0, G a0 = some 12 → rm_fi f a0 9 ≤ rm_fi u a0 9
  | _ => True
def rm_okb (b k : Nat) (x y : Int) : Bool := match b with
  | 0 => false
  | 1 => rm_okr 1 24 rm_RC k x y
  | 2 => rm_okr 1 24 rm_RC k x y && (rm_okr 2 30 rm_yes k x y && rm_okr 12 31 rm_yes k x y)
  | 3 => rm_okr 1 24 rm_RC k x y && (rm_okr 2 30 rm_yes k x y && rm_okr 12 31 rm_yes k x y)
  | 4 => rk_okf 12 4 k x y
  | 5 => rm_okr 1 24 rm_HO k x y
  | 6 => rm_okr 1 24 rm_TI k x y
  | 7 => rk_okf 12 11 k x y
  | 8 => rm_okr 2 30 rm_yes k x y && rm_okr 12 31 rm_yes k x y
  | 9 => rk_okf 12 7 k x y && rk_okf 12 8 k x y
  | 10 => rk_okf 12 9 k x y
  | _ => true
theorem rm_Rb_rf (b : Nat) (G : Nat → Option Nat) (f : Nat → va_E) : rm_Rb b G f f := by
  rcases b with _ | _ | _ | _ | _ | _ | _ | _ | _ | _ | _ | b
  · rfl
  · exact rm_rwE_rf
  · exact fun _ a0 _ h => ⟨h, fun s _ => Int.le_refl _⟩
  · exact fun _ a0 _ h => h
  · exact fun _ _ => rfl
  · exact rm_rwE_rf
  · exact rm_rwE_rf
  · exact fun _ _ => rfl
  · exact ⟨rm_rwE_rf, rm_rwE_rf⟩
  · exact fun _ _ => ⟨rfl, Int.le_refl _⟩
  · exact fun _ _ => Int.le_refl _
  · trivial
theorem rm_Rb_tr (b : Nat) {G : Nat → Option Nat} {f u w : Nat → va_E} (h1 : rm_Rb b G f u) (h2 : rm_Rb b G u w) : rm_Rb b G f w := by
  rcases b with _ | _ | _ | _ | _ | _ | _ | _ | _ | _ | _ | b
  · exact Eq.trans h2 h1
  · exact rm_rwE_tr h1 h2
  · intro h9 a0 ha h
    obtain ⟨i1, j1⟩ := h1 h9 a0 ha h
    obtain ⟨i2, j2⟩ := h2 h9 a0 ha i1
    exact ⟨i2, fun s hs => Int.le_trans (j2 s hs) (j1 s hs)⟩
  · exact fun h9 a0 ha h => h2 h9 a0 ha (h1 h9 a0 ha h)
  · exact fun a ha => (h1 a ha).trans (h2 a ha)
  · exact rm_rwE_tr h1 h2
  · exact rm_rwE_tr h1 h2
  · exact fun a ha => (h1 a ha).trans (h2 a ha)
  · exact ⟨rm_rwE_tr h1.1 h2.1, rm_rwE_tr h1.2 h2.2⟩
  · exact fun a ha => ⟨(h2 a ha).1.trans (h1 a ha).1, Int.le_trans (h1 a ha).2 (h2 a ha).2⟩
  · exact fun a ha => Int.le_trans (h1 a ha) (h2 a ha)
  · trivial
theorem rm_Rb_up (b : Nat) {G : Nat → Option Nat} {f : Nat → va_E} {a k : Nat} {e : va_E} {x y : Int} (hok : rm_okb b k x y = true) (ha : G a = some k) (hd : rk_dif x y (f a) e) : rm_Rb b G f (va_up f a e) := by
  have h1 : rm_okr 1 24 rm_RC k x y = true → rm_RCE G f (va_up f a e) := fun h => rm_rwE_up (by decide) h ha hd rm_rwE_rf
  have h2 : (rm_okr 2 30 rm_yes k x y && rm_okr 12 31 rm_yes k x y) = true → rm_AIE G f (va_up f a e) := fun h => by
    rw [Bool.and_eq_true] at h
    exact ⟨rm_rwE_up (by decide) h.1 ha hd rm_rwE_rf, rm_rwE_up (by decide) h.2 ha hd rm_rwE_rf⟩
  rcases b with _ | _ | _ | _ | _ | _ | _ | _ | _ | _ | _ | b
  · cases hok
  · exact h1 hok
  · have hok := (Bool.and_eq_true _ _).mp hok
    intro _ a0 ha0 hi
    refine ⟨rm_INV_eq (h1 hok.1) (h2 hok.2) ha0 hi, fun s hs => ?_⟩
    unfold rm_phi
    rw [rm_RCE_sc (h1 hok.1) ha0 hs rfl, rm_RCE_sc (h1 hok.1) ha0 hs rfl]
    exact Int.le_refl _
  · have hok := (Bool.and_eq_true _ _).mp hok
    exact fun _ a0 ha0 hi => rm_INV_eq (h1 hok.1) (h2 hok.2) ha0 hi
  · exact rk_fldE_up hok ha hd (fun _ _ => rfl)
  · exact rm_rwE_up (by decide) hok ha hd rm_rwE_rf
  · exact rm_rwE_up (by decide) hok ha hd rm_rwE_rf
  · exact rk_fldE_up hok ha hd (fun _ _ => rfl)
  · exact h2 hok
  · have hok := (Bool.and_eq_true _ _).mp hok
    intro a0 ha0
    have e1 := rm_fi_eq (rk_fldE_up hok.1 ha hd (fun _ _ => rfl) a0 ha0)
    have e2 := rm_fi_eq (rk_fldE_up hok.2 ha hd (fun _ _ => rfl) a0 ha0)
    exact ⟨e2, by omega⟩
  · intro a0 ha0
    have e1 := rm_fi_eq (rk_fldE_up (k := 12) (i := 9) hok ha hd (fun _ _ => rfl) a0 ha0)
    omega
  · trivial
/-! a level out of bits -/
def rk_Lb (nb : Nat) (Rb : Nat → (Nat → Option Nat) → (Nat → va_E) → (Nat → va_E) → Prop) : rk_Lvt := fun G n f u => ∀ b, b < nb → Nat.testBit n b = false → Rb b G f u
def rk_wb9 (nb : Nat) (ok : Nat → Nat → Int → Int → Bool) (n : Nat) : rk_Wr := fun k x y => (List.range nb).all (fun b => Nat.testBit n b || ok b k x y)
theorem rk_Lb_ok {nb : Nat} (h0 : 0 < nb) {Rb : Nat → (Nat → Option Nat) → (Nat → va_E) → (Nat → va_E) → Prop} {ok : Nat → Nat → Int → Int → Bool} (hrf : ∀ b G f, Rb b G f f) (htr : ∀ b G f u w, Rb b G f u → Rb b G u w → Rb b G f w) (hup : ∀ b G f a k e x y, ok b k x y = true → G a = some k → rk_dif x y (f a) e → Rb b G f (va_up f a e)) (hz : ∀ G f u, Rb 0 G f u → u = f) : rk_LvOk (rk_Lb nb Rb) (rk_wb9 nb ok) := by
  intro G
  refine ⟨fun n f b _ _ => hrf b G f, fun f u h => hz G f u (h 0 h0 (Nat.zero_testBit 0)), fun n m f0 f u hle h1 h2 b hb ht => ?_, fun n f0 f a k e x y hw ha hd h b hb ht => ?_⟩
  · refine htr b G f0 f u (h2 b hb ht) (h1 b hb ?_)
    unfold rk_lle at hle
    rw [Nat.beq_eq] at hle
    have h3 : Nat.testBit (m &&& n) b = Nat.testBit m b := by
      show Nat.testBit (Nat.land m n) b = _
      rw [hle]
    rw [Nat.testBit_and, ht, Bool.and_false] at h3
    exact h3.symm
  · unfold rk_wb9 at hw
    have h1 := List.all_eq_true.mp hw b (List.mem_range.mpr hb)
    rw [ht, Bool.false_or] at h1
    exact htr b G f0 f _ (h b hb ht) (hup b G f a k e x y h1 ha hd)
def rm_Lv : rk_Lvt := rk_Lb 11 rm_Rb
def rm_wr : Nat → rk_Wr := rk_wb9 11 rm_okb
theorem rm_LvOk : rk_LvOk rm_Lv rm_wr := rk_Lb_ok (by decide) rm_Rb_rf (fun b G f u w => rm_Rb_tr b) (fun b G f a k e x y => rm_Rb_up b) (fun _ _ _ h => h)
/-- what the model's methods want: one model, and it is sound -/
def rm_PI : rk_Pwt := fun G f => rm_one G ∧ ∀ a0, G a0 = some 12 → rm_INV G f a0
theorem rm_PIok {lv : Nat} (h : Nat.testBit lv 3 = false) : ∀ (G : Nat → Option Nat) (f u : Nat → va_E), rm_Lv G lv f u → rm_PI G f → rm_PI G u := fun G f u hL hP => ⟨hP.1, fun a0 ha => (hL 3 (by decide) h : rm_Rb 3 G f u) hP.1 a0 ha (hP.2 a0 ha)⟩
/-- the class's -/
def rc_FZ0 : Nat := 0
/-- what never changes once it is made: SpaceLinks.now, SpaceLinks.tape, World.ends, rows of Ends -/
def rc_FZ (G : Nat → Option Nat) (f u : Nat → va_E) : Prop := (rk_fldE 11 0 G f u ∧ rk_fldE 11 1 G f u) ∧ (rk_fldE 10 3 G f u ∧ ∀ a, G a = some 28 → u a = f a)
def rc_okz (k : Nat) (x y : Int) : Bool := (rk_okf 11 0 k x y && rk_okf 11 1 k x y) && (rk_okf 10 3 k x y && !(Nat.beq k 28))
theorem rc_FZ_up {G : Nat → Option Nat} {f : Nat → va_E} {a k : Nat} {e : va_E} {x y : Int} (hok : rc_okz k x y = true) (ha : G a = some k) (hd : rk_dif x y (f a) e) : rc_FZ G f (va_up f a e) := by
  unfold rc_okz at hok
  rw [Bool.and_eq_true, Bool.and_eq_true, Bool.and_eq_true] at hok
  refine ⟨⟨rk_fldE_up hok.1.1 ha hd (fun _ _ => rfl), rk_fldE_up hok.1.2 ha hd (fun _ _ => rfl)⟩, rk_fldE_up hok.2.1 ha hd (fun _ _ => rfl), fun b hb => ?_⟩
  refine va_up_ne _ _ (fun h9 => ?_)
  rw [h9, ha] at hb
  cases hb
  have := hok.2.2
  rw [Nat.beq_refl] at this
  cases this
def rc_Rb (b : Nat) (G : Nat → Option Nat) (f u : Nat → va_E) : Prop := match b with
  | 0 => u = f
  | 1 => rk_fldE 9 1 G f u
  | 2 => rk_fldE 1 4 G f u
  | 3 => rk_fldE 10 6 G f u
  | 4 => rk_fldE 11 2 G f u
  | 5 => rc_FZ G f u
  | 6 => rk_fldE 11 3 G f u
  | _ => True
def rc_okb (b k : Nat) (x y : Int) : Bool := match b with
  | 0 => false
  | 1 => rk_okf 9 1 k x y
  | 2 => rk_okf 1 4 k x y
  | 3 => rk_okf 10 6 k x y
  | 4 => rk_okf 11 2 k x y
  | 5 => rc_okz k x y
  | 6 => rk_okf 11 3 k x y
  | _ => true
def rc_Lv : rk_Lvt := rk_Lb 7 rc_Rb
def rc_wr : Nat → rk_Wr := rk_wb9 7 rc_okb
theorem rc_LvOk : rk_LvOk rc_Lv rc_wr := by
  refine rk_Lb_ok (by decide) (fun b G f => ?_) (fun b G f u w h1 h2 => ?_) (fun b G f a k e x y hok ha hd => ?_) (fun _ _ _ h => h)
  · rcases b with _ | _ | _ | _ | _ | _ | _ | b
    · rfl
    · exact fun _ _ => rfl
    · exact fun _ _ => rfl
    · exact fun _ _ => rfl
    · exact fun _ _ => rfl
    · exact ⟨⟨fun _ _ => rfl, fun _ _ => rfl⟩, fun _ _ => rfl, fun _ _ => rfl⟩
    · exact fun _ _ => rfl
    · trivial
  · rcases b with _ | _ | _ | _ | _ | _ | _ | b
    · exact Eq.trans h2 h1
    · exact fun a ha => (h1 a ha).trans (h2 a ha)
    · exact fun a ha => (h1 a ha).trans (h2 a ha)
    · exact fun a ha => (h1 a ha).trans (h2 a ha)
    · exact fun a ha => (h1 a ha).trans (h2 a ha)
    · exact ⟨⟨fun a ha => (h1.1.1 a ha).trans (h2.1.1 a ha), fun a ha => (h1.1.2 a ha).trans (h2.1.2 a ha)⟩, fun a ha => (h1.2.1 a ha).trans (h2.2.1 a ha), fun a ha => (h2.2.2 a ha).trans (h1.2.2 a ha)⟩
    · exact fun a ha => (h1 a ha).trans (h2 a ha)
    · trivial
  · rcases b with _ | _ | _ | _ | _ | _ | _ | b
    · cases hok
    · exact rk_fldE_up hok ha hd (fun _ _ => rfl)
    · exact rk_fldE_up hok ha hd (fun _ _ => rfl)
    · exact rk_fldE_up hok ha hd (fun _ _ => rfl)
    · exact rk_fldE_up hok ha hd (fun _ _ => rfl)
    · exact rc_FZ_up hok ha hd
    · exact rk_fldE_up hok ha hd (fun _ _ => rfl)
    · trivial
