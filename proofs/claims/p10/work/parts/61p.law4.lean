/-! both worlds' Ends that hold -/
def rl_hN (Gm : Nat → Option Nat) (fm : Nat → va_E) (am e : Nat) : Int32 := rm_now Gm fm am (2860 + 427 * e + 0)
def rl_hI (Gm : Nat → Option Nat) (fm : Nat → va_E) (am e : Nat) : Int32 := rm_img Gm fm am (2860 + 427 * e + 0)
def rl_HI (ax am : Nat) (Gm Gc : Nat → Option Nat) (fc fm : Nat → va_E) (eN eT eI : Nat → Nat) : Prop := (rk_fld (fc ax) 2 = some .null ∧ rm_fi fm am 11 = 0) ∨ ∃ wI : Nat, rk_fld (fc ax) 2 = some (.ref wI) ∧ Gc wI = some 10 ∧ rc_ES fc wI eI ∧ rc_DJ eN eI ∧ (∀ q, rk_fld (fc ax) 3 = some (.ref q) → rc_DJ eT eI) ∧ ¬ rm_fi fm am 11 = 0 ∧ ∀ e, e < 8 → rk_fld (fc (eI e)) 4 = some (.int (rl_hI Gm fm am e))
def rl_H (ax am : Nat) (Gm Gc : Nat → Option Nat) (fc fm : Nat → va_E) : Prop := ∃ (wN : Nat) (eN eT eI : Nat → Nat), rk_fld (fc ax) 0 = some (.ref wN) ∧ Gc wN = some 10 ∧ rc_ES fc wN eN ∧ (∀ e, e < 8 → rk_fld (fc (eN e)) 4 = some (.int (rl_hN Gm fm am e))) ∧ (∀ q, rk_fld (fc ax) 3 = some (.ref q) → rc_ES fc q eT ∧ rc_DJ eT eN) ∧ rl_HI ax am Gm Gc fc fm eN eT eI
theorem rl_HO {e : Nat} (he : e < 8) : rm_HO (2860 + 427 * e + 0) = true := by
  have : ∀ e, e < 8 → rm_HO (2860 + 427 * e + 0) = true := by decide +kernel
  exact this e he
theorem rl_TH {e : Nat} (he : e < 8) : rm_TH (2860 + 427 * e + 0) = true := by
  unfold rm_TH
  rw [rl_HO he, Bool.or_true]
section RLH
variable {cI c1 c2 c3 c4 c5 : ClassId} {ad : Nat → Nat} {Lc Ld : List Nat} {X Y : Int} {ax am : Nat} {Gm Gc Gd : Nat → Option Nat} {fc fm u w : Nat → va_E} {lv lw : Nat}
/-- the World of lasts is typed -/
theorem rl_thG (hT : rm_TY cI c1 c2 c3 c4 c5 ad Gc X Lc fc) (hG : Gc ax = some 11) {q : Nat} (h : rk_fld (fc ax) 3 = some (.ref q)) : Gc q = some 10 := by
  obtain ⟨-, fs, e1, e2, e3⟩ := rc_me hT hG rfl
  rw [e1] at h
  have h : fs[3]? = some (.ref q) := h
  rcases (e3 3 (3, 10, 0) _ rfl h : Value.ref q = .null ∨ ∃ q' : Nat, Value.ref q = .ref q' ∧ Gc q' = some 10) with h9 | ⟨q', h9, h8⟩
  · cases h9
  · cases h9
    exact h8
theorem rl_esk (hT : rm_TY cI c1 c2 c3 c4 c5 ad Gc X Lc fc) (hL : rc_Lv Gc lv fc u) (b5 : Nat.testBit lv 5 = false) {q : Nat} {eW : Nat → Nat} (hq : Gc q = some 10) (h : rc_ES fc q eW) : rc_ES u q eW := ⟨fun e he => rc_E_k hT hL b5 hq (h.1 e he), h.2⟩
theorem rl_es1 (hT : rm_TY cI c1 c2 c3 c4 c5 ad Gc X Lc fc) {q : Nat} {eW : Nat → Nat} (hq : Gc q = some 10) (h : rc_ES fc q eW) {e : Nat} (he : e < 8) : Gc (eW e) = some 1 := rc_E_1 hT hq he (h.1 e he)
/-- the class changes, its Ends stay as they are -/
theorem rl_Hg (h : rl_H ax am Gm Gc fc fm) (hT : rm_TY cI c1 c2 c3 c4 c5 ad Gc X Lc fc) (hG : Gc ax = some 11) (hGG : ∀ a k, Gc a = some k → Gd a = some k) (hL : rc_Lv Gc lv fc u) (b2 : Nat.testBit lv 2 = false) (b4 : Nat.testBit lv 4 = false) (b5 : Nat.testBit lv 5 = false) (b6 : Nat.testBit lv 6 = false) : rl_H ax am Gm Gd u fm := by
  obtain ⟨wN, eN, eT, eI, t1, t2, t3, t4, t5, t6⟩ := h
  have e0 := ((hL 5 (by decide) b5 : rc_FZ Gc fc u).1.1 ax hG).symm
  have e2 := ((hL 4 (by decide) b4 : rc_Rb 4 Gc fc u) ax hG).symm
  have e3 := ((hL 6 (by decide) b6 : rc_Rb 6 Gc fc u) ax hG).symm
  refine ⟨wN, eN, eT, eI, by rw [e0]; exact t1, hGG _ _ t2, rl_esk hT hL b5 t2 t3, fun e he => by rw [rc_ho hL b2 (rl_es1 hT t2 t3 he)]; exact t4 e he, fun q hq => ?_, ?_⟩
  · rw [e3] at hq
    obtain ⟨k1, k2⟩ := t5 q hq
    exact ⟨rl_esk hT hL b5 (rl_thG hT hG hq) k1, k2⟩
  · rcases t6 with ⟨s1, s2⟩ | ⟨wI, s1, s2, s3, s4, s5, s6, s7⟩
    · exact Or.inl ⟨by rw [e2]; exact s1, s2⟩
    · exact Or.inr ⟨wI, by rw [e2]; exact s1, hGG _ _ s2, rl_esk hT hL b5 s2 s3, s4, fun q hq => s5 q (by rw [← e3]; exact hq), s6, fun e he => by rw [rc_ho hL b2 (rl_es1 hT s2 s3 he)]; exact s7 e he⟩
/-- lasts -/
theorem rl_Hl (hT : rm_TY cI c1 c2 c3 c4 c5 ad Gc X Lc fc) (hG : Gc ax = some 11) (hGG : ∀ a k, Gc a = some k → Gd a = some k) (hL : rc_Lv Gc 77 fc u) {wN : Nat} {eN eT eI : Nat → Nat} (t1 : rk_fld (fc ax) 0 = some (.ref wN)) (t2 : Gc wN = some 10) (t3 : rc_ES fc wN eN) (t4 : ∀ e, e < 8 → rk_fld (fc (eN e)) 4 = some (.int (rl_hN Gm fm am e))) (t5 : ∀ q, rk_fld (fc ax) 3 = some (.ref q) → rc_ES fc q eT ∧ rc_DJ eT eN) (t6 : rl_HI ax am Gm Gc fc fm eN eT eI) (hA : rg_LH ax eT Gc fc u) : rl_H ax am Gm Gd u fm := by
  have e0 := ((hL 5 (by decide) rfl : rc_FZ Gc fc u).1.1 ax hG).symm
  have e2 := ((hL 4 (by decide) rfl : rc_Rb 4 Gc fc u) ax hG).symm
  obtain ⟨hA1, hA2⟩ := hA
  have hN4 : ∀ e, e < 8 → rk_fld (u (eN e)) 4 = some (.int (rl_hN Gm fm am e)) := fun e he => by
    rw [hA2 _ (rl_es1 hT t2 t3 he) (fun q hq e9 he9 h9 => (t5 q hq).2 e9 e he9 he h9.symm)]
    exact t4 e he
  rcases hA1 with e3 | ⟨n3, q, eQ, k1, k2, k3, k4⟩
  · refine ⟨wN, eN, eT, eI, by rw [e0]; exact t1, hGG _ _ t2, rl_esk hT hL rfl t2 t3, hN4, fun q hq => ?_, ?_⟩
    · rw [e3] at hq
      obtain ⟨k1, k2⟩ := t5 q hq
      exact ⟨rl_esk hT hL rfl (rl_thG hT hG hq) k1, k2⟩
    · rcases t6 with ⟨s1, s2⟩ | ⟨wI, s1, s2, s3, s4, s5, s6, s7⟩
      · exact Or.inl ⟨by rw [e2]; exact s1, s2⟩
      · exact Or.inr ⟨wI, by rw [e2]; exact s1, hGG _ _ s2, rl_esk hT hL rfl s2 s3, s4, fun q hq => s5 q (by rw [← e3]; exact hq), s6, fun e he => by rw [hA2 _ (rl_es1 hT s2 s3 he) (fun q hq e9 he9 h9 => s5 q hq e9 e he9 he h9.symm)]; exact s7 e he⟩
  · have nw : ∀ (eW : Nat → Nat) (w : Nat), Gc w = some 10 → rc_ES fc w eW → rc_DJ eQ eW := fun eW w hw hE e e9 he he9 h9 => by
      have h8 := k4 e he
      rw [h9, rl_es1 hT hw hE he9] at h8
      cases h8
    refine ⟨wN, eN, eQ, eI, by rw [e0]; exact t1, hGG _ _ t2, rl_esk hT hL rfl t2 t3, hN4, fun q9 hq => ?_, ?_⟩
    · rw [k1] at hq
      cases hq
      exact ⟨k3, nw eN wN t2 t3⟩
    · rcases t6 with ⟨s1, s2⟩ | ⟨wI, s1, s2, s3, s4, s5, s6, s7⟩
      · exact Or.inl ⟨by rw [e2]; exact s1, s2⟩
      · exact Or.inr ⟨wI, by rw [e2]; exact s1, hGG _ _ s2, rl_esk hT hL rfl s2 s3, s4, fun q9 hq => nw eI wI s2 s3, s6, fun e he => by rw [hA2 _ (rl_es1 hT s2 s3 he) (fun q hq => by rw [n3] at hq; cases hq)]; exact s7 e he⟩
/-- the model changes, HOLDS stay -/
theorem rl_Hx (h : rl_H ax am Gm Gc fc fm) (h1 : ∀ e, e < 8 → rl_hN Gm u am e = rl_hN Gm fm am e) (h2 : ∀ e, e < 8 → rl_hI Gm u am e = rl_hI Gm fm am e) (h3 : rm_fi u am 11 = rm_fi fm am 11) : rl_H ax am Gm Gc fc u := by
  obtain ⟨wN, eN, eT, eI, t1, t2, t3, t4, t5, t6⟩ := h
  refine ⟨wN, eN, eT, eI, t1, t2, t3, fun e he => by rw [h1 e he]; exact t4 e he, t5, ?_⟩
  rcases t6 with ⟨s1, s2⟩ | ⟨wI, s1, s2, s3, s4, s5, s6, s7⟩
  · exact Or.inl ⟨s1, by rw [h3]; exact s2⟩
  · exact Or.inr ⟨wI, s1, s2, s3, s4, s5, by rw [h3]; exact s6, fun e he => by rw [h2 e he]; exact s7 e he⟩
theorem rl_Hm (h : rl_H ax am Gm Gc fc fm) (hG : Gm am = some 12) (hL : rm_Lv Gm lv fm u) (b5 : Nat.testBit lv 5 = false) (b7 : Nat.testBit lv 7 = false) (b8 : Nat.testBit lv 8 = false) : rl_H ax am Gm Gc fc u :=
  rl_Hx h (fun _ he => rm_row_ho hL b5 hG (rl_HO he)) (fun _ _ => (rm_row_im hL b8 hG).1 _) (rm_fi_i hL b7 hG)
theorem rl_Hk (h : rl_H ax am Gm Gc fc fm) (hG : Gm am = some 12) (hK : rm_K3 Gm fm u am) (hL : rm_Lv Gm lv fm u) (b7 : Nat.testBit lv 7 = false) : rl_H ax am Gm Gc fc u :=
  rl_Hx h (fun _ he => hK.1 _ (rl_TH he)) (fun _ _ => hK.2 _) (rm_fi_i hL b7 hG)
theorem rl_HIp {eN eT eI : Nat → Nat} (h : rl_HI ax am Gm Gc fc fm eN eT eI) (q : Nat) (hq : rk_fld (fc ax) 2 = some (.ref q)) : rc_ES fc q eI ∧ rc_DJ eN eI := by
  rcases h with ⟨s1, -⟩ | ⟨wI, s1, s2, s3, s4, -⟩
  · rw [s1] at hq
    cases hq
  · rw [s1] at hq
    cases hq
    exact ⟨s3, s4⟩
/-- hold -/
theorem rl_Hh (hT : rm_TY cI c1 c2 c3 c4 c5 ad Gc X Lc fc) (hGc : Gc ax = some 11) (hGm : Gm am = some 12) {wN : Nat} {eN eT eI : Nat → Nat} (t1 : rk_fld (fc ax) 0 = some (.ref wN)) (t2 : Gc wN = some 10) (t3 : rc_ES fc wN eN) (t4 : ∀ e, e < 8 → rk_fld (fc (eN e)) 4 = some (.int (rl_hN Gm fm am e))) (t5 : ∀ q, rk_fld (fc ax) 3 = some (.ref q) → rc_ES fc q eT ∧ rc_DJ eT eN) (t6 : rl_HI ax am Gm Gc fc fm eN eT eI) (hLc : rc_Lv Gc 5 fc u) (hLm : rm_Lv Gm 33 fm w) {x y r r9 : Int32}
    (hc : (r.toInt = 0 ∧ u = fc ∧ (¬ (0 ≤ x.toInt ∧ x.toInt ≤ 7) ∨ rk_fld (fc (eN x.toInt.toNat)) 4 = some (.int y))) ∨ (r.toInt = 1 ∧ (0 ≤ x.toInt ∧ x.toInt ≤ 7) ∧ rk_fld (fc (eN x.toInt.toNat)) 4 ≠ some (.int y) ∧ rk_fld (u (eN x.toInt.toNat)) 4 = some (.int y) ∧ ∀ w, Gc w = some 1 → w ≠ eN x.toInt.toNat → rk_fld (u w) 4 = rk_fld (fc w) 4))
    (hm : (r9.toInt = 0 ∧ (∀ j, rm_now Gm w am j = rm_now Gm fm am j) ∧ (¬ (0 ≤ x.toInt ∧ x.toInt ≤ 7) ∨ (rm_now Gm fm am (2860 + 427 * x.toInt.toNat + 0)).toInt = y.toInt)) ∨ (r9.toInt = 1 ∧ (0 ≤ x.toInt ∧ x.toInt ≤ 7) ∧ ¬ (rm_now Gm fm am (2860 + 427 * x.toInt.toNat + 0)).toInt = y.toInt ∧ ∀ j, rm_now Gm w am j = if j = 2860 + 427 * x.toInt.toNat + 0 then y else rm_now Gm fm am j)) : rl_H ax am Gm Gc u w ∧ r.toInt = r9.toInt := by
  have hI9 : ∀ e, rl_hI Gm w am e = rl_hI Gm fm am e := fun e => (rm_row_im hLm rfl hGm).1 _
  have h11 := rm_fi_i hLm rfl hGm
  have key : (0 ≤ x.toInt ∧ x.toInt ≤ 7) → rk_fld (fc (eN x.toInt.toNat)) 4 = some (.int (rm_now Gm fm am (2860 + 427 * x.toInt.toNat + 0))) := fun hr => t4 _ (by omega)
  rcases hc with ⟨c1, c2, c3⟩ | ⟨c1, c2, c3, c4, c5⟩
  · rcases hm with ⟨m1, m2, m3⟩ | ⟨m1, m2, m3, m4⟩
    · rw [c2]
      exact ⟨rl_Hx ⟨wN, eN, eT, eI, t1, t2, t3, t4, t5, t6⟩ (fun e _ => m2 _) (fun e _ => hI9 e) h11, by omega⟩
    · exfalso
      rcases c3 with c3 | c3
      · exact c3 m2
      · rw [key m2] at c3
        cases c3
        exact m3 rfl
  · rcases hm with ⟨m1, m2, m3⟩ | ⟨m1, m2, m3, m4⟩
    · exfalso
      rcases m3 with m3 | m3
      · exact m3 c2
      · refine c3 ?_
        rw [key c2, Int32.toInt_inj.mp m3]
    · refine ⟨?_, by omega⟩
      have e0 := ((hLc 5 (by decide) rfl : rc_FZ Gc fc u).1.1 ax hGc).symm
      have e2 := ((hLc 4 (by decide) rfl : rc_Rb 4 Gc fc u) ax hGc).symm
      have e3 := ((hLc 6 (by decide) rfl : rc_Rb 6 Gc fc u) ax hGc).symm
      have hxn : x.toInt.toNat < 8 := by omega
      refine ⟨wN, eN, eT, eI, by rw [e0]; exact t1, t2, rl_esk hT hLc rfl t2 t3, fun e he => ?_, fun q hq => ?_, ?_⟩
      · unfold rl_hN
        rw [m4]
        by_cases hex : e = x.toInt.toNat
        · subst hex
          rw [if_pos rfl]
          exact c4
        · rw [if_neg (by omega), c5 _ (rl_es1 hT t2 t3 he) (fun h9 => hex (t3.2 _ _ he hxn h9))]
          exact t4 e he
      · rw [e3] at hq
        obtain ⟨k1, k2⟩ := t5 q hq
        exact ⟨rl_esk hT hLc rfl (rl_thG hT hGc hq) k1, k2⟩
      · rcases t6 with ⟨s1, s2⟩ | ⟨wI, s1, s2, s3, s4, s5, s6, s7⟩
        · exact Or.inl ⟨by rw [e2]; exact s1, by rw [h11]; exact s2⟩
        · exact Or.inr ⟨wI, by rw [e2]; exact s1, s2, rl_esk hT hLc rfl s2 s3, s4, fun q hq => s5 q (by rw [← e3]; exact hq), by rw [h11]; exact s6, fun e he => by rw [hI9 e, c5 _ (rl_es1 hT s2 s3 he) (fun h9 => s4 _ e hxn he h9.symm)]; exact s7 e he⟩
/-- image -/
theorem rl_Hi (hT : rm_TY cI c1 c2 c3 c4 c5 ad Gc X Lc fc) (hGc : Gc ax = some 11) (hGG : ∀ a k, Gc a = some k → Gd a = some k) {wN : Nat} {eN eT eI : Nat → Nat} (t1 : rk_fld (fc ax) 0 = some (.ref wN)) (t2 : Gc wN = some 10) (t3 : rc_ES fc wN eN) (t4 : ∀ e, e < 8 → rk_fld (fc (eN e)) 4 = some (.int (rl_hN Gm fm am e))) (t5 : ∀ q, rk_fld (fc ax) 3 = some (.ref q) → rc_ES fc q eT ∧ rc_DJ eT eN) (t6 : rl_HI ax am Gm Gc fc fm eN eT eI) (hLc : rc_Lv Gc 29 fc u) {b x y : Int32} (hc : rg_IH ax eN eI b Gc fc x Gd u)
    (hm : (b.toInt = 0 ∧ rm_fi fm am 11 = 0 ∧ y.toInt = 0 ∧ rm_fi w am 11 = 0 ∧ rm_K3 Gm fm w am) ∨ (y.toInt = 1 ∧ rm_fi w am 11 = 1 ∧ ((¬ b.toInt = 0 ∧ ∀ j, rm_TH j = true → rm_now Gm w am j = rm_now Gm fm am j ∧ rm_img Gm w am j = rm_now Gm fm am j) ∨ (b.toInt = 0 ∧ ¬ rm_fi fm am 11 = 0 ∧ ∀ j, rm_TH j = true → rm_now Gm w am j = rm_img Gm fm am j ∧ rm_img Gm w am j = rm_img Gm fm am j)))) : rl_H ax am Gm Gd u w ∧ x.toInt = y.toInt := by
  have e0 := ((hLc 5 (by decide) rfl : rc_FZ Gc fc u).1.1 ax hGc).symm
  have e3 := ((hLc 6 (by decide) rfl : rc_Rb 6 Gc fc u) ax hGc).symm
  have hth : ∀ q, rk_fld (u ax) 3 = some (.ref q) → rk_fld (fc ax) 3 = some (.ref q) ∧ rc_ES u q eT ∧ rc_DJ eT eN := fun q hq => by
    rw [e3] at hq
    obtain ⟨k1, k2⟩ := t5 q hq
    exact ⟨hq, rl_esk hT hLc rfl (rl_thG hT hGc hq) k1, k2⟩
  rcases hc with ⟨c1, c2, c3, c4⟩ | ⟨c1, c2, q, eQ, c4, c5, c6, c7, c8, c9⟩ | ⟨c1, c2, q, c4, c5, c6, c7⟩
  · have s : rm_fi fm am 11 = 0 := by
      rcases t6 with ⟨-, s⟩ | ⟨wI, s1, -⟩
      · exact s
      · rw [s1] at c2
        cases c2
    rcases hm with ⟨m1, m2, m3, m4, m5⟩ | ⟨m1, m2, m3⟩
    · subst c4
      exact ⟨⟨wN, eN, eT, eI, t1, hGG _ _ t2, t3, fun e he => by show rk_fld _ 4 = some (.int (rm_now Gm w am _)); rw [m5.1 _ (rl_TH he)]; exact t4 e he, t5, Or.inl ⟨c2, m4⟩⟩, by omega⟩
    · rcases m3 with ⟨m3, -⟩ | ⟨-, m3, -⟩
      · exact absurd c1 m3
      · exact absurd s m3
  · rcases hm with ⟨m1, -⟩ | ⟨m1, m2, m3⟩
    · exact absurd m1 c1
    · rcases m3 with ⟨-, m4⟩ | ⟨m3, -⟩
      · have hdN : rc_DJ eN eQ ∧ ∀ q9, rk_fld (fc ax) 3 = some (.ref q9) → rc_DJ eT eQ := by
          rcases c6 with ⟨k1, k2⟩ | ⟨k1, k2, k3⟩
          · rcases t6 with ⟨s1, -⟩ | ⟨wI, s1, s2, s3, s4, s5, -⟩
            · rw [s1] at k1
              cases k1
            · subst k2
              exact ⟨s4, s5⟩
          · refine ⟨fun e e9 he he9 h9 => ?_, fun q9 hq9 e e9 he he9 h9 => ?_⟩
            · have h8 := k3 e9 he9
              rw [← h9, rl_es1 hT t2 t3 he] at h8
              cases h8
            · have h8 := k3 e9 he9
              rw [← h9, rl_es1 hT (rl_thG hT hGc hq9) (t5 q9 hq9).1 he] at h8
              cases h8
        refine ⟨⟨wN, eN, eT, eQ, by rw [e0]; exact t1, hGG _ _ t2, rl_esk hT hLc rfl t2 t3, fun e he => ?_, fun q9 hq => (hth q9 hq).2, Or.inr ⟨q, c4, c5, c7, hdN.1, fun q9 hq => hdN.2 q9 (hth q9 hq).1, by omega, fun e he => ?_⟩⟩, by omega⟩
        · show rk_fld _ 4 = some (.int (rm_now Gm w am _))
          rw [(m4 _ (rl_TH he)).1, c9 _ (rl_es1 hT t2 t3 he) (fun e9 he9 h9 => hdN.1 e e9 he he9 h9)]
          exact t4 e he
        · show rk_fld _ 4 = some (.int (rm_img Gm w am _))
          rw [(m4 _ (rl_TH he)).2, c8 e he]
          exact t4 e he
      · exact absurd m3 c1
  · rcases t6 with ⟨s1, -⟩ | ⟨wI, s1, s2, s3, s4, s5, s6, s7⟩
    · rw [s1] at c4
      cases c4
    · rw [s1] at c4
      cases c4
      rcases hm with ⟨m1, m2, -⟩ | ⟨m1, m2, m3⟩
      · exact absurd m2 s6
      · rcases m3 with ⟨m3, -⟩ | ⟨-, -, m4⟩
        · exact absurd c1 m3
        · refine ⟨⟨wN, eN, eT, eI, by rw [e0]; exact t1, hGG _ _ t2, rl_esk hT hLc rfl t2 t3, fun e he => ?_, fun q9 hq => (hth q9 hq).2, Or.inr ⟨_, c5, hGG _ _ s2, rl_esk hT hLc rfl s2 s3, s4, fun q9 hq => s5 q9 (hth q9 hq).1, by omega, fun e he => ?_⟩⟩, by omega⟩
          · show rk_fld _ 4 = some (.int (rm_now Gm w am _))
            rw [(m4 _ (rl_TH he)).1, c6 e he]
            exact s7 e he
          · show rk_fld _ 4 = some (.int (rm_img Gm w am _))
            rw [(m4 _ (rl_TH he)).2, c7 _ (rl_es1 hT s2 s3 he) (fun e9 he9 h9 => s4 e9 e he9 he h9.symm)]
            exact s7 e he
end RLH
