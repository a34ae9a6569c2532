/-! the model's world: words for what is by hand -/
section RMB
variable {cI c1 c2 c3 c4 c5 : ClassId} {ad : Nat → Nat} {G : Nat → Option Nat} {L : List Nat} {X : Int} {f u : Nat → va_E} {a0 : Nat}
abbrev rm_TY (cI c1 c2 c3 c4 c5 : ClassId) (ad : Nat → Nat) (G : Nat → Option Nat) (X : Int) (L : List Nat) (f : Nat → va_E) : Prop := rk_TY rk_K (rk_E ad) (rk_tys cI c1 c2 c3 c4 c5) G X L f
/-- the model's own cell -/
theorem rm_me (hT : rm_TY cI c1 c2 c3 c4 c5 ad G X L f) (hG : G a0 = some 12) : a0 ∈ L ∧ ∃ (fs : List Value) (aN aA aT aH aI : Nat), f a0 = .inr (11, fs) ∧ fs.length = 13 ∧ (fs[1]? = some (.ref aN) ∧ G aN = some 24) ∧ (fs[2]? = some (.ref aA) ∧ G aA = some 30) ∧ (fs[3]? = some (.ref aT) ∧ G aT = some 32) ∧ (fs[10]? = some (.ref aH) ∧ G aH = some 33) ∧ (fs[12]? = some (.ref aI) ∧ G aI = some 31) ∧ ∀ (i : Nat) (t : rk_AV) (v : Value), (rk_K 12).2.2.2[i]? = some t → fs[i]? = some v → rk_has G X t v := by
  obtain ⟨h1, h2⟩ := hT.1 a0 12 hG (by decide)
  refine ⟨h1, ?_⟩
  have h2 : ∃ fs : List Value, f a0 = .inr (11, fs) ∧ fs.length = (rk_K 12).2.2.2.length ∧ ∀ (i : Nat) (t : rk_AV) (v : Value), (rk_K 12).2.2.2[i]? = some t → fs[i]? = some v → rk_has G X t v := h2
  obtain ⟨fs, e1, e2, e3⟩ := h2
  have hl : fs.length = 13 := e2
  have kk : ∀ (i k : Nat), i < 13 → (rk_K 12).2.2.2[i]? = some (2, (k : Int), 0) → ∃ a, fs[i]? = some (.ref a) ∧ G a = some k := by
    intro i k hi ht
    have hv : fs[i]? = some fs[i] := List.getElem?_eq_getElem (by omega)
    obtain ⟨a, ea, hg⟩ := e3 i _ _ ht hv
    exact ⟨a, by rw [hv, ea], hg⟩
  obtain ⟨aN, n1, n2⟩ := kk 1 24 (by decide) rfl
  obtain ⟨aA, m1, m2⟩ := kk 2 30 (by decide) rfl
  obtain ⟨aT, t1, t2⟩ := kk 3 32 (by decide) rfl
  obtain ⟨aH, o1, o2⟩ := kk 10 33 (by decide) rfl
  obtain ⟨aI, i1, i2⟩ := kk 12 31 (by decide) rfl
  exact ⟨fs, aN, aA, aT, aH, aI, e1, hl, ⟨n1, n2⟩, ⟨m1, m2⟩, ⟨t1, t2⟩, ⟨o1, o2⟩, ⟨i1, i2⟩, e3⟩
/-- a row of numbers -/
theorem rm_ro (hT : rm_TY cI c1 c2 c3 c4 c5 ad G X L f) {a k n : Nat} (hG : G a = some k) (hK : rk_K k = (1, n, 0, [])) : a ∈ L ∧ ∃ g : Nat → Int32, f a = .inl (cI, n, .inl g) ∧ ∀ i, i < n → rk_has G X (rk_E ad k i) (.int (g i)) := by
  obtain ⟨h1, h2⟩ := hT.1 a k hG (by rw [hK]; intro h9; cases h9)
  refine ⟨h1, ?_⟩
  unfold rk_cell at h2
  rw [hK] at h2
  obtain ⟨cA, g, e1, e2, e3⟩ := h2
  cases e2
  exact ⟨g, e1, e3⟩
theorem rm_rw_of {i k a : Nat} {fs : List Value} {cA : ClassId} {n ci : Nat} {g : Nat → Int32} (h1 : f a0 = .inr (ci, fs)) (h2 : fs[i]? = some (.ref a)) (h3 : G a = some k) (h4 : f a = .inl (cA, n, .inl g)) : rm_rw G f a0 i k = g := by
  unfold rm_rw
  have e1 : rk_fld (f a0) i = some (.ref a) := by rw [h1]; exact h2
  rw [e1]
  dsimp only
  rw [if_pos h3, h4]
theorem rm_nowT (hT : rm_TY cI c1 c2 c3 c4 c5 ad G X L f) (hG : G a0 = some 12) (j : Nat) (hj : j < 6466) : rk_has G X (rm_mE j) (.int (rm_now G f a0 j)) := by
  obtain ⟨-, fs, aN, aA, aT, aH, aI, e1, e2, ⟨n1, n2⟩, -⟩ := rm_me hT hG
  obtain ⟨-, g, e3, e4⟩ := rm_ro hT n2 rfl
  unfold rm_now
  rw [rm_rw_of e1 n1 n2 e3]
  exact e4 j hj
theorem rm_mE_s {s w : Nat} (hs : s < 40) (hw : w < 64) : rm_mE (64 * s + w) = rm_mS.getD w rk_full := by
  unfold rm_mE
  have e : (64 * s + w) % 64 = w := by omega
  rw [if_pos (by rw [Nat.blt_eq]; omega), e]
theorem rm_mE_e {e w : Nat} (he : e < 8) (hw : w < 427) : rm_mE (2860 + 427 * e + w) = rm_mD.getD w rk_full := by
  unfold rm_mE
  have e1 : (2860 + 427 * e + w - 2860) % 427 = w := by omega
  rw [if_neg (by rw [Nat.blt_eq]; omega), if_neg (by rw [Nat.blt_eq]; omega), if_pos (by rw [Nat.blt_eq]; omega), e1]
/-- a cell of a socket lies between two numbers -/
theorem rm_scT (hT : rm_TY cI c1 c2 c3 c4 c5 ad G X L f) (hG : G a0 = some 12) {s w : Nat} {a b : Int} (hs : s < 40) (hw : w < 64) (ht : rm_mS.getD w rk_full = (0, a, b)) : a ≤ rm_sc (rm_now G f a0) s w ∧ rm_sc (rm_now G f a0) s w ≤ b := by
  have h := rm_nowT hT hG (64 * s + w) (by omega)
  rw [rm_mE_s hs hw, ht] at h
  obtain ⟨x, ex, h1, h2⟩ := h
  cases ex
  exact ⟨h1, h2⟩
/-- cell w of end e -/
def rm_ec (g : Nat → Int32) (e w : Nat) : Int := (g (2860 + 427 * e + w)).toInt
theorem rm_ecT (hT : rm_TY cI c1 c2 c3 c4 c5 ad G X L f) (hG : G a0 = some 12) {e w : Nat} {a b : Int} (he : e < 8) (hw : w < 427) (ht : rm_mD.getD w rk_full = (0, a, b)) : a ≤ rm_ec (rm_now G f a0) e w ∧ rm_ec (rm_now G f a0) e w ≤ b := by
  have h := rm_nowT hT hG (2860 + 427 * e + w) (by omega)
  rw [rm_mE_e he hw, ht] at h
  obtain ⟨x, ex, h1, h2⟩ := h
  cases ex
  exact ⟨h1, h2⟩
theorem rm_lvb {n b : Nat} (h : rm_Lv G n f u) (hb : b < 11) (ht : Nat.testBit n b = false) : rm_Rb b G f u := h b hb ht
theorem rm_lv_rf (n : Nat) : rm_Lv G n f f := (rm_LvOk G).1 n f
theorem rm_lv_tr {n m k : Nat} {w : Nat → va_E} (h1 : rm_Lv G n f u) (h2 : rm_Lv G m u w) (hn : rk_lle n k = true) (hm : rk_lle m k = true) : rm_Lv G k f w := (rm_LvOk G).2.2.1 k m f u w hm h2 ((rm_LvOk G).2.2.1 k n f f u hn h1 (rm_lv_rf k))
theorem rm_lv_up {n m : Nat} (h : rm_Lv G n f u) (hn : rk_lle n m = true) : rm_Lv G m f u := (rm_LvOk G).2.2.1 m n f f u hn h (rm_lv_rf m)
/-- a socket's five numbers: buffered, sold, comes, state, other -/
def rm_so (G : Nat → Option Nat) (f : Nat → va_E) (a0 s : Nat) (B S C T O : Int) : Prop := rm_sc (rm_now G f a0) s 20 = B ∧ rm_sc (rm_now G f a0) s 6 = S ∧ rm_sc (rm_now G f a0) s 13 = C ∧ rm_sc (rm_now G f a0) s 3 = T ∧ rm_sc (rm_now G f a0) s 0 = O
/-- what holds of all sockets but some, and of what is aside -/
def rm_wi (J : Nat → Prop) (G : Nat → Option Nat) (f : Nat → va_E) (a0 : Nat) : Prop := (∀ s, s < 40 → ¬ J s → rm_iS (rm_now G f a0) s) ∧ rm_inv (rm_asd G f a0) ∧ rm_inv (rm_img G f a0)
theorem rm_so_keep {s : Nat} {B S C T O : Int} (h : rm_RCE G f u) (hG : G a0 = some 12) (hs : s < 40) (ho : rm_so G f a0 s B S C T O) : rm_so G u a0 s B S C T O := by
  unfold rm_so at ho ⊢
  rw [rm_RCE_sc h hG hs rfl, rm_RCE_sc h hG hs rfl, rm_RCE_sc h hG hs rfl, rm_RCE_sc h hG hs rfl, rm_RCE_sc h hG hs rfl]
  exact ho
theorem rm_wi_keep {J : Nat → Prop} (h : rm_RCE G f u) (h8 : rm_AIE G f u) (hG : G a0 = some 12) (hw : rm_wi J G f a0) : rm_wi J G u a0 := by
  obtain ⟨w1, w2, w3⟩ := hw
  refine ⟨fun s hs hj => rm_iS_eq (fun w hw => rm_RCE_sc h hG hs hw) (w1 s hs hj), fun s hs => rm_iS_eq (fun w hw => ?_) (w2 s hs), fun s hs => rm_iS_eq (fun w hw => ?_) (w3 s hs)⟩
  · unfold rm_sc rm_asd
    rw [h8.1 a0 hG _ rfl]
  · unfold rm_sc rm_img
    rw [h8.2 a0 hG _ rfl]
theorem rm_wi_of (h : rm_INV G f a0) (J : Nat → Prop) : rm_wi J G f a0 := ⟨fun s hs _ => h.1 s hs, h.2.1, h.2.2⟩
/-- all of it again, as the sockets left out hold too -/
theorem rm_wi_all {J : Nat → Prop} (hw : rm_wi J G f a0) (h : ∀ s, s < 40 → J s → rm_iS (rm_now G f a0) s) : rm_INV G f a0 := by
  obtain ⟨w1, w2, w3⟩ := hw
  refine ⟨fun s hs => ?_, w2, w3⟩
  by_cases hj : J s
  · exact h s hs hj
  · exact w1 s hs hj
theorem rm_so_iS {s : Nat} {B S C T O : Int} (h : rm_so G f a0 s B S C T O) (h1 : rm_R1 B S C) (h2 : rm_R2 T O) : rm_iS (rm_now G f a0) s := by
  obtain ⟨e1, e2, e3, e4, e5⟩ := h
  unfold rm_iS
  rw [e1, e2, e3, e4, e5]
  exact ⟨h1, h2⟩
theorem rm_so_of (G : Nat → Option Nat) (f : Nat → va_E) (a0 s : Nat) : rm_so G f a0 s (rm_sc (rm_now G f a0) s 20) (rm_sc (rm_now G f a0) s 6) (rm_sc (rm_now G f a0) s 13) (rm_sc (rm_now G f a0) s 3) (rm_sc (rm_now G f a0) s 0) := ⟨rfl, rfl, rfl, rfl, rfl⟩
theorem rm_so_ph {s : Nat} {B S C T O : Int} (h : rm_so G f a0 s B S C T O) : rm_phi (rm_now G f a0) s = B + C := by
  obtain ⟨e1, e2, e3, e4, e5⟩ := h
  unfold rm_phi
  rw [e1, e3]
end RMB
