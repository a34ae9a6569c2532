/-! what a walk by hand keeps of one socket -/
section RMT
variable {G : Nat → Option Nat} {f0 f u w : Nat → va_E} {a0 sn : Nat}
/-- the sockets' numbers are the same -/
def rm_sE (G : Nat → Option Nat) (f u : Nat → va_E) (a0 : Nat) : Prop := ∀ t, t < 40 → ∀ w, rm_RCw w = true → rm_sc (rm_now G u a0) t w = rm_sc (rm_now G f a0) t w
/-- those of all sockets but one -/
def rm_c1 (G : Nat → Option Nat) (f u : Nat → va_E) (a0 sn : Nat) : Prop := rm_AIE G f u ∧ ∀ t, t < 40 → t ≠ sn → ∀ w, rm_RCw w = true → rm_sc (rm_now G u a0) t w = rm_sc (rm_now G f a0) t w
/-- from f0 to f: the level, the one socket that changes, its numbers now -/
def rm_st (G : Nat → Option Nat) (f0 f : Nat → va_E) (a0 sn : Nat) (B S C T O : Int) : Prop := rm_Lv G 15 f0 f ∧ rm_c1 G f0 f a0 sn ∧ rm_so G f a0 sn B S C T O
theorem rm_AIE_tr (h1 : rm_AIE G f u) (h2 : rm_AIE G u w) : rm_AIE G f w := ⟨rm_rwE_tr h1.1 h2.1, rm_rwE_tr h1.2 h2.2⟩
theorem rm_st_rf {B S C T O : Int} (hso : rm_so G f a0 sn B S C T O) : rm_st G f f a0 sn B S C T O := ⟨rm_lv_rf 15, ⟨⟨rm_rwE_rf, rm_rwE_rf⟩, fun _ _ _ _ _ => rfl⟩, hso⟩
theorem rm_so_sE {B S C T O : Int} (h : rm_sE G f u a0) (hs : sn < 40) (ho : rm_so G f a0 sn B S C T O) : rm_so G u a0 sn B S C T O := by
  unfold rm_so at ho ⊢
  rw [h sn hs 20 rfl, h sn hs 6 rfl, h sn hs 13 rfl, h sn hs 3 rfl, h sn hs 0 rfl]
  exact ho
theorem rm_sE_of (h : rm_RCE G f u) (hG : G a0 = some 12) : rm_sE G f u a0 := fun t ht w hw => rm_RCE_sc h hG ht hw
/-- a step that leaves all sockets as they are -/
theorem rm_st_E {B S C T O : Int} (h : rm_st G f0 f a0 sn B S C T O) (hL : rm_Lv G 15 f u) (hE : rm_sE G f u a0) (hs : sn < 40) : rm_st G f0 u a0 sn B S C T O := by
  obtain ⟨h1, h2, h3⟩ := h
  exact ⟨rm_lv_tr h1 hL rfl rfl, ⟨rm_AIE_tr h2.1 (rm_lvb hL (by decide) rfl : rm_Rb 8 G f u), fun t ht hne w hw => (hE t ht w hw).trans (h2.2 t ht hne w hw)⟩, rm_so_sE hE hs h3⟩
theorem rm_st_1 {B S C T O : Int} (h : rm_st G f0 f a0 sn B S C T O) (hL : rm_Lv G 1 f u) (hG : G a0 = some 12) (hs : sn < 40) : rm_st G f0 u a0 sn B S C T O := rm_st_E h (rm_lv_up hL rfl) (rm_sE_of (rm_lvb hL (by decide) rfl : rm_Rb 1 G f u) hG) hs
/-- a step that changes this socket -/
theorem rm_st_c {B S C T O B1 S1 C1 T1 O1 : Int} (h : rm_st G f0 f a0 sn B S C T O) (h1 : rm_st G f u a0 sn B1 S1 C1 T1 O1) : rm_st G f0 u a0 sn B1 S1 C1 T1 O1 := ⟨rm_lv_tr h.1 h1.1 rfl rfl, ⟨rm_AIE_tr h.2.1.1 h1.2.1.1, fun t ht hne w hw => (h1.2.1.2 t ht hne w hw).trans (h.2.1.2 t ht hne w hw)⟩, h1.2.2⟩
theorem rm_st_set {B S C T O B1 S1 C1 T1 O1 : Int} {x : Int32} {wn : Nat} (h : rm_st G f0 f a0 sn B S C T O) (hL : rm_Lv G 15 f u) (hset : ∀ i, rm_now G u a0 i = if i = 64 * sn + wn then x else rm_now G f a0 i) (hw : wn < 64) (hso : rm_so G u a0 sn B1 S1 C1 T1 O1) : rm_st G f0 u a0 sn B1 S1 C1 T1 O1 := by
  obtain ⟨h1, h2, h3⟩ := h
  refine ⟨rm_lv_tr h1 hL rfl rfl, ⟨rm_AIE_tr h2.1 (rm_lvb hL (by decide) rfl : rm_Rb 8 G f u), fun t ht hne w hw9 => ?_⟩, hso⟩
  have hw64 : w < 64 := by
    unfold rm_RCw at hw9
    simp only [Bool.or_eq_true, Nat.beq_eq] at hw9
    omega
  rw [rm_sc_set hset hw hw64, if_neg (fun h => hne h.1)]
  exact h2.2 t ht hne w hw9
theorem rm_st_B {B S C T O : Int} {x : Int32} (h : rm_st G f0 f a0 sn B S C T O) (hL : rm_Lv G 15 f u) (hset : ∀ i, rm_now G u a0 i = if i = 64 * sn + 20 then x else rm_now G f a0 i) : rm_st G f0 u a0 sn x.toInt S C T O := rm_st_set h hL hset (by decide) (rm_so_B hset h.2.2)
theorem rm_st_S {B S C T O : Int} {x : Int32} (h : rm_st G f0 f a0 sn B S C T O) (hL : rm_Lv G 15 f u) (hset : ∀ i, rm_now G u a0 i = if i = 64 * sn + 6 then x else rm_now G f a0 i) : rm_st G f0 u a0 sn B x.toInt C T O := rm_st_set h hL hset (by decide) (rm_so_S hset h.2.2)
theorem rm_st_C {B S C T O : Int} {x : Int32} (h : rm_st G f0 f a0 sn B S C T O) (hL : rm_Lv G 15 f u) (hset : ∀ i, rm_now G u a0 i = if i = 64 * sn + 13 then x else rm_now G f a0 i) : rm_st G f0 u a0 sn B S x.toInt T O := rm_st_set h hL hset (by decide) (rm_so_C hset h.2.2)
theorem rm_st_T {B S C T O : Int} {x : Int32} (h : rm_st G f0 f a0 sn B S C T O) (hL : rm_Lv G 15 f u) (hset : ∀ i, rm_now G u a0 i = if i = 64 * sn + 3 then x else rm_now G f a0 i) : rm_st G f0 u a0 sn B S C x.toInt O := rm_st_set h hL hset (by decide) (rm_so_T hset h.2.2)
theorem rm_st_O {B S C T O : Int} {x : Int32} (h : rm_st G f0 f a0 sn B S C T O) (hL : rm_Lv G 15 f u) (hset : ∀ i, rm_now G u a0 i = if i = 64 * sn + 0 then x else rm_now G f a0 i) : rm_st G f0 u a0 sn B S C T x.toInt := rm_st_set h hL hset (by decide) (rm_so_O hset h.2.2)
/-- what is aside stays sound -/
theorem rm_inv_AI (h8 : rm_AIE G f u) (hG : G a0 = some 12) (h : rm_INV G f a0) : rm_inv (rm_asd G u a0) ∧ rm_inv (rm_img G u a0) := by
  obtain ⟨w1, w2, w3⟩ := h
  refine ⟨fun s hs => rm_iS_eq (fun w hw9 => ?_) (w2 s hs), fun s hs => rm_iS_eq (fun w hw9 => ?_) (w3 s hs)⟩
  · unfold rm_sc rm_asd
    rw [h8.1 a0 hG _ rfl]
  · unfold rm_sc rm_img
    rw [h8.2 a0 hG _ rfl]
/-- the whole is sound again if the one socket is -/
theorem rm_st_INV {B S C T O : Int} (h : rm_st G f0 f a0 sn B S C T O) (hG : G a0 = some 12) (h1 : rm_R1 B S C) (h2 : rm_R2 T O) (hi : rm_INV G f0 a0) : rm_INV G f a0 := by
  obtain ⟨hL, hc, hso⟩ := h
  obtain ⟨i2, i3⟩ := rm_inv_AI hc.1 hG hi
  refine ⟨fun s hs => ?_, i2, i3⟩
  by_cases hsn : s = sn
  · subst hsn
    exact rm_so_iS hso h1 h2
  · exact rm_iS_eq (fun w hw => hc.2 s hs hsn w hw) (hi.1 s hs)
theorem rm_st_3 {B S C T O B0 S0 C0 T0 O0 : Int} (h : rm_st G f0 f a0 sn B S C T O) (hG : G a0 = some 12) (h0 : rm_so G f0 a0 sn B0 S0 C0 T0 O0) (hr : rm_R1 B0 S0 C0 → rm_R2 T0 O0 → rm_R1 B S C ∧ rm_R2 T O) (hp : B + C ≤ B0 + C0) (hs : sn < 40) : rm_Lv G 3 f0 f := by
  refine rm_fin3 h.1 (rm_two hG (fun hi => ?_))
  have hi0 := hi.1 sn hs
  obtain ⟨e1, e2, e3, e4, e5⟩ := h0
  unfold rm_iS at hi0
  rw [e1, e2, e3, e4, e5] at hi0
  obtain ⟨g1, g2⟩ := hr hi0.1 hi0.2
  refine ⟨rm_st_INV h hG g1 g2 hi, fun t ht => ?_⟩
  by_cases hsn : t = sn
  · subst hsn
    rw [rm_so_ph h.2.2]
    unfold rm_phi
    rw [e1, e3]
    exact hp
  · unfold rm_phi
    rw [h.2.1.2 t ht hsn 20 rfl, h.2.1.2 t ht hsn 13 rfl]
    exact Int.le_refl _
theorem rm_st_7 {B S C T O B0 S0 C0 T0 O0 : Int} (h : rm_st G f0 f a0 sn B S C T O) (hG : G a0 = some 12) (h0 : rm_so G f0 a0 sn B0 S0 C0 T0 O0) (hr : rm_R1 B0 S0 C0 → rm_R2 T0 O0 → rm_R1 B S C ∧ rm_R2 T O) (hs : sn < 40) : rm_Lv G 7 f0 f := by
  refine rm_fin7 h.1 (rm_thr hG (fun hi => ?_))
  have hi0 := hi.1 sn hs
  obtain ⟨e1, e2, e3, e4, e5⟩ := h0
  unfold rm_iS at hi0
  rw [e1, e2, e3, e4, e5] at hi0
  obtain ⟨g1, g2⟩ := hr hi0.1 hi0.2
  exact rm_st_INV h hG g1 g2 hi
end RMT
