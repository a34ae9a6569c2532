/-! both worlds' ticks -/
def rl_T (ax am : Nat) (Gm Gc : Nat → Option Nat) (fc fm : Nat → va_E) : Prop := ∃ (wN : Nat) (z : Int32), rk_fld (fc ax) 0 = some (.ref wN) ∧ Gc wN = some 10 ∧ rk_fld (fc wN) 6 = some (.int z) ∧ rm_now Gm fm am 6457 = z ∧ (0 ≤ z.toInt ∧ z.toInt ≤ 99999) ∧ rk_fld (fc ax) 3 ≠ some (.ref wN) ∧
  ((rk_fld (fc ax) 2 = some .null ∧ rm_fi fm am 11 = 0) ∨ ∃ (wI : Nat) (zI : Int32), rk_fld (fc ax) 2 = some (.ref wI) ∧ Gc wI = some 10 ∧ wI ≠ wN ∧ rk_fld (fc ax) 3 ≠ some (.ref wI) ∧ ¬ rm_fi fm am 11 = 0 ∧ rk_fld (fc wI) 6 = some (.int zI) ∧ rm_img Gm fm am 6457 = zI ∧ (0 ≤ zI.toInt ∧ zI.toInt ≤ 99999))
section RLT
variable {ax am : Nat} {Gm Gc Gd : Nat → Option Nat} {fc fm u w : Nat → va_E} {lv lw : Nat}
/-- the class changes, its Worlds' ticks stay -/
theorem rl_Tx (h : rl_T ax am Gm Gc fc fm) (hGG : ∀ a k, Gc a = some k → Gd a = some k) (h0 : rk_fld (u ax) 0 = rk_fld (fc ax) 0) (h2 : rk_fld (u ax) 2 = rk_fld (fc ax) 2) (h3 : ∀ v, Gc v = some 10 → rk_fld (fc ax) 3 ≠ some (.ref v) → rk_fld (u ax) 3 ≠ some (.ref v) ∧ rk_fld (u v) 6 = rk_fld (fc v) 6) : rl_T ax am Gm Gd u fm := by
  obtain ⟨wN, z, t1, t2, t3, t4, t5, t6, t7⟩ := h
  obtain ⟨q1, q2⟩ := h3 wN t2 t6
  refine ⟨wN, z, by rw [h0]; exact t1, hGG _ _ t2, by rw [q2]; exact t3, t4, t5, q1, ?_⟩
  rcases t7 with ⟨s1, s2⟩ | ⟨wI, zI, s1, s2, s3, s4, s5, s6, s7, s8⟩
  · exact Or.inl ⟨by rw [h2]; exact s1, s2⟩
  · obtain ⟨q3, q4⟩ := h3 wI s2 s4
    exact Or.inr ⟨wI, zI, by rw [h2]; exact s1, hGG _ _ s2, s3, q3, s5, by rw [q4]; exact s6, s7, s8⟩
theorem rl_Tc (h : rl_T ax am Gm Gc fc fm) (hG : Gc ax = some 11) (hL : rc_Lv Gc lv fc u) (b3 : Nat.testBit lv 3 = false) (b4 : Nat.testBit lv 4 = false) (b5 : Nat.testBit lv 5 = false) (b6 : Nat.testBit lv 6 = false) : rl_T ax am Gm Gc u fm :=
  rl_Tx h (fun _ _ h => h) ((hL 5 (by decide) b5 : rc_FZ Gc fc u).1.1 ax hG).symm ((hL 4 (by decide) b4 : rc_Rb 4 Gc fc u) ax hG).symm (fun v hv hn => ⟨by rw [← (hL 6 (by decide) b6 : rc_Rb 6 Gc fc u) ax hG]; exact hn, rc_tk hL b3 hv⟩)
theorem rl_Tg (h : rl_T ax am Gm Gc fc fm) (hG : Gc ax = some 11) (hGG : rg_ext Gc Gd) (hL : rc_Lv Gc lv fc u) (b3 : Nat.testBit lv 3 = false) (b4 : Nat.testBit lv 4 = false) (b5 : Nat.testBit lv 5 = false) (b6 : Nat.testBit lv 6 = false) : rl_T ax am Gm Gd u fm :=
  rl_Tx h hGG.1 ((hL 5 (by decide) b5 : rc_FZ Gc fc u).1.1 ax hG).symm ((hL 4 (by decide) b4 : rc_Rb 4 Gc fc u) ax hG).symm (fun v hv hn => ⟨by rw [← (hL 6 (by decide) b6 : rc_Rb 6 Gc fc u) ax hG]; exact hn, rc_tk hL b3 hv⟩)
theorem rl_Tl (h : rl_T ax am Gm Gc fc fm) (hG : Gc ax = some 11) (hGG : rg_ext Gc Gd) (hL : rc_Lv Gc 77 fc u) (hA : rg_LA ax Gc fc u) : rl_T ax am Gm Gd u fm := by
  refine rl_Tx h hGG.1 ((hL 5 (by decide) rfl : rc_FZ Gc fc u).1.1 ax hG).symm ((hL 4 (by decide) rfl : rc_Rb 4 Gc fc u) ax hG).symm (fun v hv hn => ⟨?_, hA.2 v hv hn⟩)
  rcases hA.1 with h9 | ⟨-, q, h9, hq⟩
  · rw [h9]
    exact hn
  · rw [h9]
    intro h8
    cases h8
    rw [hq] at hv
    cases hv
/-- the model changes, TICK stays -/
theorem rl_Tk (h : rl_T ax am Gm Gc fc fm) (hG : Gm am = some 12) (hK : rm_K3 Gm fm u am) (hL : rm_Lv Gm lv fm u) (b7 : Nat.testBit lv 7 = false) : rl_T ax am Gm Gc fc u := by
  obtain ⟨wN, z, t1, t2, t3, t4, t5, t6, t7⟩ := h
  refine ⟨wN, z, t1, t2, t3, by rw [hK.1 6457 rfl]; exact t4, t5, t6, ?_⟩
  rw [rm_fi_i hL b7 hG, hK.2 6457]
  exact t7
theorem rl_Tm (h : rl_T ax am Gm Gc fc fm) (hG : Gm am = some 12) (hL : rm_Lv Gm lv fm u) (b6 : Nat.testBit lv 6 = false) (b7 : Nat.testBit lv 7 = false) (b8 : Nat.testBit lv 8 = false) : rl_T ax am Gm Gc fc u := by
  obtain ⟨wN, z, t1, t2, t3, t4, t5, t6, t7⟩ := h
  refine ⟨wN, z, t1, t2, t3, by rw [rm_row_ti hL b6 hG (j := 6457) rfl]; exact t4, t5, t6, ?_⟩
  rw [rm_fi_i hL b7 hG, (rm_row_im hL b8 hG).1 6457]
  exact t7
/-- tick -/
theorem rl_Tt (h : rl_T ax am Gm Gc fc fm) (hGc : Gc ax = some 11) (hGm : Gm am = some 12) {wN : Nat} {z n x y : Int32} (h1 : rk_fld (fc ax) 0 = some (.ref wN)) (h2 : rk_fld (fc wN) 6 = some (.int z)) (hLc : rc_Lv Gc 9 fc u) (hLm : rm_Lv Gm 71 fm w)
    (hc : (x.toInt = -1 ∧ ¬ (1 ≤ n.toInt ∧ n.toInt ≤ 100 ∧ z.toInt + n.toInt ≤ 99999) ∧ rk_fld (u wN) 6 = some (.int z)) ∨ ((1 ≤ n.toInt ∧ n.toInt ≤ 100 ∧ z.toInt + n.toInt ≤ 99999) ∧ x.toInt = z.toInt + n.toInt ∧ rk_fld (u wN) 6 = some (.int x))) (ho : ∀ v, Gc v = some 10 → v ≠ wN → rk_fld (u v) 6 = rk_fld (fc v) 6)
    (hm : (y.toInt = -1 ∧ ¬ (1 ≤ n.toInt ∧ n.toInt ≤ 100 ∧ z.toInt + n.toInt ≤ 99999) ∧ rm_now Gm w am 6457 = z) ∨ ((1 ≤ n.toInt ∧ n.toInt ≤ 100 ∧ z.toInt + n.toInt ≤ 99999) ∧ y.toInt = z.toInt + n.toInt ∧ rm_now Gm w am 6457 = y)) : rl_T ax am Gm Gc u w ∧ x.toInt = y.toInt := by
  obtain ⟨wN9, z9, t1, t2, t3, t4, t5, t6, t7⟩ := h
  rw [h1] at t1
  cases t1
  rw [h2] at t3
  cases t3
  have e0 := ((hLc 5 (by decide) rfl : rc_FZ Gc fc u).1.1 ax hGc).symm
  have e2 := ((hLc 4 (by decide) rfl : rc_Rb 4 Gc fc u) ax hGc).symm
  have e3 := ((hLc 6 (by decide) rfl : rc_Rb 6 Gc fc u) ax hGc).symm
  have rest : (rk_fld (u ax) 2 = some .null ∧ rm_fi w am 11 = 0) ∨ ∃ (wI : Nat) (zI : Int32), rk_fld (u ax) 2 = some (.ref wI) ∧ Gc wI = some 10 ∧ wI ≠ wN ∧ rk_fld (u ax) 3 ≠ some (.ref wI) ∧ ¬ rm_fi w am 11 = 0 ∧ rk_fld (u wI) 6 = some (.int zI) ∧ rm_img Gm w am 6457 = zI ∧ (0 ≤ zI.toInt ∧ zI.toInt ≤ 99999) := by
    rw [e2, e3, rm_fi_i hLm rfl hGm, (rm_row_im hLm rfl hGm).1 6457]
    rcases t7 with t7 | ⟨wI, zI, s1, s2, s3, s4, s5, s6, s7, s8⟩
    · exact Or.inl t7
    · exact Or.inr ⟨wI, zI, s1, s2, s3, s4, s5, by rw [ho wI s2 s3]; exact s6, s7, s8⟩
  rcases hc with ⟨c1, c2, c3⟩ | ⟨c1, c2, c3⟩
  · rcases hm with ⟨m1, m2, m3⟩ | ⟨m1, m2, m3⟩
    · exact ⟨⟨wN, z, by rw [e0]; exact h1, t2, c3, m3, t5, by rw [e3]; exact t6, rest⟩, by omega⟩
    · exact absurd m1 c2
  · rcases hm with ⟨m1, m2, m3⟩ | ⟨m1, m2, m3⟩
    · exact absurd c1 m2
    · have hxy : x = y := Int32.toInt_inj.mp (by omega)
      subst hxy
      exact ⟨⟨wN, x, by rw [e0]; exact h1, t2, c3, m3, by omega, by rw [e3]; exact t6, rest⟩, rfl⟩
/-- image -/
theorem rl_Ti (h : rl_T ax am Gm Gc fc fm) (hGc : Gc ax = some 11) (hGm : Gm am = some 12) (hGG : rg_ext Gc Gd) (hGt : ∀ q : Nat, rk_fld (fc ax) 3 = some (.ref q) → ¬ Gc q = none) (hLc : rc_Lv Gc 29 fc u) {b x y : Int32} (hc : rg_IM ax b Gc fc x Gd u)
    (hm : (b.toInt = 0 ∧ rm_fi fm am 11 = 0 ∧ y.toInt = 0 ∧ rm_fi w am 11 = 0 ∧ rm_K3 Gm fm w am) ∨ (y.toInt = 1 ∧ rm_fi w am 11 = 1 ∧ ((¬ b.toInt = 0 ∧ ∀ j, rm_TH j = true → rm_now Gm w am j = rm_now Gm fm am j ∧ rm_img Gm w am j = rm_now Gm fm am j) ∨ (b.toInt = 0 ∧ ¬ rm_fi fm am 11 = 0 ∧ ∀ j, rm_TH j = true → rm_now Gm w am j = rm_img Gm fm am j ∧ rm_img Gm w am j = rm_img Gm fm am j)))) : rl_T ax am Gm Gd u w ∧ x.toInt = y.toInt := by
  obtain ⟨wN, z, t1, t2, t3, t4, t5, t6, t7⟩ := h
  have e0 := ((hLc 5 (by decide) rfl : rc_FZ Gc fc u).1.1 ax hGc).symm
  have e3 := ((hLc 6 (by decide) rfl : rc_Rb 6 Gc fc u) ax hGc).symm
  rcases hc with ⟨c1, c2, c3, c4⟩ | ⟨c1, c2, aW, q, c3, c4, c5, c6, c7, c8⟩ | ⟨c1, c2, aW, q, c3, c4, c5, c6, c7⟩
  · have s : rm_fi fm am 11 = 0 := by
      rcases t7 with ⟨-, s⟩ | ⟨wI, zI, s1, -⟩
      · exact s
      · rw [s1] at c2
        cases c2
    rcases hm with ⟨m1, m2, m3, m4, m5⟩ | ⟨m1, m2, m3⟩
    · subst c4
      exact ⟨⟨wN, z, t1, hGG.1 _ _ t2, t3, by rw [m5.1 6457 rfl]; exact t4, t5, t6, Or.inl ⟨c2, m4⟩⟩, by omega⟩
    · rcases m3 with ⟨m3, -⟩ | ⟨-, m3, -⟩
      · exact absurd c1 m3
      · exact absurd s m3
  · rw [c3] at t1
    cases t1
    rcases hm with ⟨m1, -⟩ | ⟨m1, m2, m3⟩
    · exact absurd m1 c1
    · rcases m3 with ⟨-, m4⟩ | ⟨m3, -⟩
      · obtain ⟨k1, k2⟩ := m4 6457 rfl
        have hq3 : rk_fld (fc ax) 3 ≠ some (.ref q) ∧ wN ≠ q := by
          rcases c6 with c6 | ⟨-, c6⟩
          · rcases t7 with ⟨s, -⟩ | ⟨wI, zI, s1, s2, s3, s4, -⟩
            · rw [s] at c6
              cases c6
            · rw [s1] at c6
              cases c6
              exact ⟨s4, fun h9 => s3 h9.symm⟩
          · refine ⟨fun h9 => ?_, fun h9 => ?_⟩
            · exact absurd c6 (hGt q h9)
            · rw [h9, c6] at t2
              cases t2
        refine ⟨⟨wN, z, by rw [e0]; exact c3, hGG.1 _ _ t2, by rw [c8 wN t2 hq3.2]; exact t3, by rw [k1]; exact t4, t5, by rw [e3]; exact t6, Or.inr ⟨q, z, c4, c5, fun h9 => hq3.2 h9.symm, by rw [e3]; exact hq3.1, by omega, by rw [c7]; exact t3, by rw [k2]; exact t4, t5⟩⟩, by omega⟩
      · exact absurd m3 c1
  · rw [c3] at t1
    cases t1
    rcases t7 with ⟨s, -⟩ | ⟨wI, zI, s1, s2, s3, s4, s5, s6, s7, s8⟩
    · rw [s] at c4
      cases c4
    · rw [s1] at c4
      cases c4
      rcases hm with ⟨m1, m2, -⟩ | ⟨m1, m2, m3⟩
      · exact absurd m2 s5
      · rcases m3 with ⟨m3, -⟩ | ⟨-, -, m4⟩
        · exact absurd c1 m3
        · obtain ⟨k1, k2⟩ := m4 6457 rfl
          exact ⟨⟨wN, zI, by rw [e0]; exact c3, hGG.1 _ _ t2, by rw [c6]; exact s6, by rw [k1]; exact s7, s8, by rw [e3]; exact t6, Or.inr ⟨_, zI, c5, hGG.1 _ _ s2, s3, by rw [e3]; exact s4, by omega, by rw [c7 _ s2 s3]; exact s6, by rw [k2]; exact s7, s8⟩⟩, by omega⟩
end RLT
