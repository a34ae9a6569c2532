/-! what a call keeps of the model's rows: TICK, HOLDS, images -/
def rm_TH (j : Nat) : Bool := rm_TI j || rm_HO j
def rm_K3 (G : Nat → Option Nat) (f u : Nat → va_E) (a0 : Nat) : Prop := (∀ j, rm_TH j = true → rm_now G u a0 j = rm_now G f a0 j) ∧ ∀ j, rm_img G u a0 j = rm_img G f a0 j
def rm_KA (G : Nat → Option Nat) (f u : Nat → va_E) (a0 : Nat) : Prop := rm_K3 G f u a0 ∧ ∀ j, rm_TH j = true → rm_asd G u a0 j = rm_now G f a0 j
section RMK
variable {cI c1 c2 c3 c4 c5 : ClassId} {ad : Nat → Nat} {G : Nat → Option Nat} {L : List Nat} {X : Int} {f u w : Nat → va_E} {a0 lv : Nat}
theorem rm_TH_lt {j : Nat} (h : rm_TH j = true) : j < 6466 := by
  unfold rm_TH rm_TI rm_HO at h
  rw [Bool.or_eq_true] at h
  rcases h with h | h
  · have := Nat.eq_of_beq_eq_true h
    omega
  · split at h
    · cases h
    · split at h
      · rename_i h9
        rw [Nat.blt_eq] at h9
        omega
      · cases h
theorem rm_K3_rf : rm_K3 G f f a0 := ⟨fun _ _ => rfl, fun _ => rfl⟩
theorem rm_K3_tr (h1 : rm_K3 G f u a0) (h2 : rm_K3 G u w a0) : rm_K3 G f w a0 := ⟨fun j hj => (h2.1 j hj).trans (h1.1 j hj), fun j => (h2.2 j).trans (h1.2 j)⟩
theorem rm_row_im (hL : rm_Lv G lv f u) (b8 : Nat.testBit lv 8 = false) (hG : G a0 = some 12) : (∀ j, rm_img G u a0 j = rm_img G f a0 j) ∧ ∀ j, rm_asd G u a0 j = rm_asd G f a0 j :=
  ⟨fun j => ((rm_lvb hL (by decide) b8 : rm_Rb 8 G f u).2 a0 hG j rfl).symm, fun j => ((rm_lvb hL (by decide) b8 : rm_Rb 8 G f u).1 a0 hG j rfl).symm⟩
theorem rm_row_ti (hL : rm_Lv G lv f u) (b6 : Nat.testBit lv 6 = false) (hG : G a0 = some 12) {j : Nat} (hj : rm_TI j = true) : rm_now G u a0 j = rm_now G f a0 j := ((rm_lvb hL (by decide) b6 : rm_Rb 6 G f u) a0 hG j hj).symm
theorem rm_row_ho (hL : rm_Lv G lv f u) (b5 : Nat.testBit lv 5 = false) (hG : G a0 = some 12) {j : Nat} (hj : rm_HO j = true) : rm_now G u a0 j = rm_now G f a0 j := ((rm_lvb hL (by decide) b5 : rm_Rb 5 G f u) a0 hG j hj).symm
theorem rm_K3_lv (hL : rm_Lv G lv f u) (b5 : Nat.testBit lv 5 = false) (b6 : Nat.testBit lv 6 = false) (b8 : Nat.testBit lv 8 = false) (hG : G a0 = some 12) : rm_K3 G f u a0 := by
  refine ⟨fun j hj => ?_, (rm_row_im hL b8 hG).1⟩
  unfold rm_TH at hj
  rw [Bool.or_eq_true] at hj
  rcases hj with hj | hj
  · exact rm_row_ti hL b6 hG hj
  · exact rm_row_ho hL b5 hG hj
theorem rm_KA_lv {f0 : Nat → va_E} (hL : rm_Lv G lv f u) (b5 : Nat.testBit lv 5 = false) (b6 : Nat.testBit lv 6 = false) (b8 : Nat.testBit lv 8 = false) (hG : G a0 = some 12) (h : rm_KA G f0 f a0) : rm_KA G f0 u a0 :=
  ⟨rm_K3_tr h.1 (rm_K3_lv hL b5 b6 b8 hG), fun j hj => ((rm_row_im hL b8 hG).2 j).trans (h.2 j hj)⟩
/-- a row that a field points to -/
theorem rm_row_of {i k a : Nat} {fs : List Value} {g : Nat → Int32} (h1 : f a0 = .inr (11, fs)) (h2 : fs[i]? = some (.ref a)) (h3 : G a = some k) (h4 : f a = .inl (cI, 6466, .inl g)) : rm_rw G f a0 i k = g := rm_rw_of h1 h2 h3 h4
/-- a row was copied -/
theorem rm_cpr {aF aO kF kO iF iO : Nat} {fs : List Value} {gF g : Nat → Int32} (hG : G a0 = some 12) (e1 : f a0 = .inr (11, fs)) (h1 : fs[iF]? = some (.ref aF)) (h2 : G aF = some kF) (h3 : fs[iO]? = some (.ref aO)) (h4 : G aO = some kO) (hkO : kO ≠ 12) (c1 : ∀ b, b ≠ aO → u b = f b) (c2 : f aF = .inl (cI, 6466, .inl gF)) (c3 : u aO = .inl (cI, 6466, .inl g)) (c4 : ∀ j, j < 6466 → g j = gF j) : ∀ j, j < 6466 → rm_rw G u a0 iO kO j = rm_rw G f a0 iF kF j := by
  intro j hj
  have e1u : u a0 = .inr (11, fs) := by
    rw [c1 a0 (fun h9 => by rw [h9, h4] at hG; exact hkO (Option.some.inj hG))]
    exact e1
  rw [rm_rw_of e1u h3 h4 c3, rm_rw_of e1 h1 h2 c2]
  exact c4 j hj
/-- and another one was not -/
theorem rm_cpk {aO kO k i a : Nat} {fs : List Value} (hG : G a0 = some 12) (e1 : f a0 = .inr (11, fs)) (h1 : fs[i]? = some (.ref a)) (h2 : G a = some k) (h4 : G aO = some kO) (hkO : kO ≠ 12) (hk : kO ≠ k) (c1 : ∀ b, b ≠ aO → u b = f b) : rm_rw G u a0 i k = rm_rw G f a0 i k := by
  have e1u : u a0 = f a0 := c1 a0 (fun h9 => by rw [h9, h4] at hG; exact hkO (Option.some.inj hG))
  have e2u : u a = f a := c1 a (fun h9 => by rw [h9, h4] at h2; exact hk (Option.some.inj h2))
  unfold rm_rw
  rw [e1u, e1]
  show (match fs[i]? with | some (.ref a) => _ | _ => _) = (match fs[i]? with | some (.ref a) => _ | _ => _)
  rw [h1]
  dsimp only
  rw [e2u]
theorem rm_KA_cp0 {f0 : Nat → va_E} {fs : List Value} {aN aA aI : Nat} {gF g : Nat → Int32} (hG : G a0 = some 12) (h : rm_K3 G f0 f a0) (e1 : f a0 = .inr (11, fs)) (n1 : fs[1]? = some (.ref aN)) (n2 : G aN = some 24) (m1 : fs[2]? = some (.ref aA)) (m2 : G aA = some 30) (i1 : fs[12]? = some (.ref aI)) (i2 : G aI = some 31) (c1 : ∀ b, b ≠ aA → u b = f b) (c2 : f aN = .inl (cI, 6466, .inl gF)) (c3 : u aA = .inl (cI, 6466, .inl g)) (c4 : ∀ j, j < 6466 → g j = gF j) : rm_KA G f0 u a0 := by
  have q1 : rm_now G u a0 = rm_now G f a0 := rm_cpk hG e1 n1 n2 m2 (by decide) (by decide) c1
  have q2 : rm_img G u a0 = rm_img G f a0 := rm_cpk hG e1 i1 i2 m2 (by decide) (by decide) c1
  have q3 : ∀ j, j < 6466 → rm_asd G u a0 j = rm_now G f a0 j := rm_cpr hG e1 n1 n2 m1 m2 (by decide) c1 c2 c3 c4
  exact ⟨⟨fun j hj => by rw [q1]; exact h.1 j hj, fun j => by rw [q2]; exact h.2 j⟩, fun j hj => (q3 j (rm_TH_lt hj)).trans (h.1 j hj)⟩
theorem rm_K3_cp1 {f0 : Nat → va_E} {fs : List Value} {aN aA aI : Nat} {gF g : Nat → Int32} (hG : G a0 = some 12) (ha : ∀ j, rm_TH j = true → rm_asd G f a0 j = rm_now G f0 a0 j) (hi : ∀ j, rm_img G f a0 j = rm_img G f0 a0 j) (e1 : f a0 = .inr (11, fs)) (n1 : fs[1]? = some (.ref aN)) (n2 : G aN = some 24) (m1 : fs[2]? = some (.ref aA)) (m2 : G aA = some 30) (i1 : fs[12]? = some (.ref aI)) (i2 : G aI = some 31) (c1 : ∀ b, b ≠ aN → u b = f b) (c2 : f aA = .inl (cI, 6466, .inl gF)) (c3 : u aN = .inl (cI, 6466, .inl g)) (c4 : ∀ j, j < 6466 → g j = gF j) : rm_K3 G f0 u a0 := by
  have q2 : rm_img G u a0 = rm_img G f a0 := rm_cpk hG e1 i1 i2 n2 (by decide) (by decide) c1
  have q3 : ∀ j, j < 6466 → rm_now G u a0 j = rm_asd G f a0 j := rm_cpr hG e1 m1 m2 n1 n2 (by decide) c1 c2 c3 c4
  exact ⟨fun j hj => (q3 j (rm_TH_lt hj)).trans (ha j hj), fun j => by rw [q2]; exact hi j⟩
end RMK
def rv_t_X12_ticks : rv_T := (.branch 0 (.branch 0 (.branch 0 (.branch 0 (.branch 0 (.branch 0 (.branch 0 (.leaf (0, .aload_n 0, 1)) (.leaf (64, .goto (-13), 3))) (.branch 0 (.leaf (32, .invokevirtual 32, 3)) (.leaf (96, .invokevirtual 32, 3)))) (.branch 0 (.branch 0 (.leaf (16, .iadd, 1)) (.leaf (80, .iinc 1 (1), 3))) (.leaf (112, .iadd, 1)))) (.branch 0 (.branch 0 (.branch 0 (.leaf (8, .getfield 7, 3)) (.leaf (72, .if_icmp .ge (14), 3))) (.branch 0 (.leaf (40, .invokevirtual 208, 3)) (.leaf (104, .bipush (10), 2)))) (.branch 0 (.branch 0 (.leaf (24, .iload_n 1, 1)) (.leaf (88, .iload_n 1, 1))) (.leaf (56, .aload_n 0, 1))))) (.branch 0 (.branch 0 (.branch 0 (.branch 0 (.branch 0 (.leaf (4, .sipush (6457), 3)) (.leaf (132, .invokevirtual 32, 3))) (.leaf (68, .istore_n 1, 1))) (.leaf (99999, .nop, 1))) (.branch 0 (.leaf (99999, .nop, 1)) (.branch 0 (.leaf (52, .iconst 4, 1)) (.leaf (116, .iinc 1 (1), 3))))) (.branch 0 (.branch 0 (.branch 0 (.leaf (140, .invokevirtual 220, 3)) (.leaf (76, .iload_n 1, 1))) (.leaf (108, .invokevirtual 217, 3))) (.leaf (124, .iload_n 1, 1))))) (.branch 0 (.branch 0 (.branch 0 (.leaf (130, .aload_n 0, 1)) (.branch 0 (.branch 0 (.branch 0 (.leaf (18, .aload_n 0, 1)) (.leaf (146, .goto (-22), 3))) (.leaf (99999, .nop, 1))) (.leaf (50, .istore_n 1, 1)))) (.branch 0 (.branch 0 (.leaf (138, .aload_n 0, 1)) (.leaf (106, .aload_n 0, 1))) (.branch 0 (.leaf (99999, .nop, 1)) (.branch 0 (.leaf (58, .invokevirtual 211, 3)) (.leaf (122, .iconst 0, 1)))))) (.branch 0 (.branch 0 (.branch 0 (.leaf (70, .bipush (8), 2)) (.branch 0 (.leaf (38, .aload_n 0, 1)) (.leaf (102, .aload_n 0, 1)))) (.branch 0 (.branch 0 (.leaf (22, .iconst 0, 1)) (.leaf (86, .iconst 0, 1))) (.leaf (99999, .nop, 1)))) (.branch 0 (.branch 0 (.leaf (14, .iaload, 1)) (.leaf (46, .goto (-22), 3))) (.branch 0 (.branch 0 (.leaf (30, .aload_n 0, 1)) (.leaf (94, .aload_n 0, 1))) (.leaf (99999, .nop, 1))))))) (.branch 0 (.branch 0 (.branch 0 (.branch 0 (.leaf (1, .getfield 7, 3)) (.branch 0 (.leaf (17, .iastore, 1)) (.branch 0 (.leaf (49, .iconst 0, 1)) (.leaf (113, .invokevirtual 42, 3))))) (.branch 0 (.leaf (99999, .nop, 1)) (.branch 0 (.branch 0 (.leaf (25, .bipush (40), 2)) (.leaf (89, .bipush (40), 2))) (.leaf (57, .iload_n 1, 1))))) (.branch 0 (.branch 0 (.leaf (69, .iload_n 1, 1)) (.branch 0 (.leaf (149, .return_, 1)) (.leaf (53, .if_icmp .ge (14), 3)))) (.branch 0 (.leaf (77, .invokevirtual 214, 3)) (.branch 0 (.leaf (99999, .nop, 1)) (.branch 0 (.leaf (61, .iinc 1 (1), 3)) (.leaf (125, .bipush (32), 2))))))) (.branch 0 (.branch 0 (.branch 0 (.branch 0 (.branch 0 (.leaf (131, .iload_n 1, 1)) (.leaf (67, .iconst 0, 1))) (.branch 0 (.leaf (35, .ifCond .eq (8), 3)) (.leaf (99, .ifCond .eq (17), 3)))) (.branch 0 (.branch 0 (.leaf (19, .invokevirtual 205, 3)) (.leaf (83, .goto (-14), 3))) (.leaf (51, .iload_n 1, 1)))) (.branch 0 (.branch 0 (.branch 0 (.branch 0 (.leaf (11, .sipush (6457), 3)) (.leaf (139, .iload_n 1, 1))) (.leaf (75, .aload_n 0, 1))) (.branch 0 (.leaf (43, .iinc 1 (1), 3)) (.leaf (107, .iload_n 1, 1)))) (.branch 0 (.branch 0 (.leaf (27, .if_icmp .ge (22), 3)) (.leaf (91, .if_icmp .ge (31), 3))) (.leaf (123, .istore_n 1, 1))))) (.branch 0 (.branch 0 (.branch 0 (.branch 0 (.branch 0 (.leaf (7, .aload_n 0, 1)) (.leaf (135, .ifCond .eq (8), 3))) (.leaf (99999, .nop, 1))) (.branch 0 (.leaf (39, .iload_n 1, 1)) (.leaf (103, .iload_n 1, 1)))) (.branch 0 (.branch 0 (.leaf (23, .istore_n 1, 1)) (.leaf (87, .istore_n 1, 1))) (.leaf (119, .goto (-31), 3)))) (.branch 0 (.branch 0 (.branch 0 (.branch 0 (.leaf (15, .iconst 1, 1)) (.leaf (143, .iinc 1 (1), 3))) (.leaf (99999, .nop, 1))) (.leaf (111, .iconst 1, 1))) (.branch 0 (.branch 0 (.leaf (31, .iload_n 1, 1)) (.leaf (95, .iload_n 1, 1))) (.leaf (127, .if_icmp .ge (22), 3))))))))
theorem rv_k_X12_ticks : rv_tok cX12_ticks rv_t_X12_ticks = true := by decide +kernel
def rv_t_X12_tick : rv_T := (.branch 0 (.branch 0 (.branch 0 (.branch 0 (.branch 0 (.branch 0 (.leaf (0, .aload_n 0, 1)) (.leaf (32, .ireturn, 1))) (.leaf (16, .aload_n 0, 1))) (.branch 0 (.branch 0 (.leaf (8, .bipush (100), 2)) (.leaf (40, .aload_n 0, 1))) (.leaf (24, .iload_n 1, 1)))) (.branch 0 (.branch 0 (.leaf (36, .iload_n 1, 1)) (.leaf (20, .sipush (6457), 3))) (.branch 0 (.leaf (44, .iinc 2 (1), 3)) (.leaf (28, .if_icmp .le (5), 3))))) (.branch 0 (.branch 0 (.branch 0 (.branch 0 (.leaf (2, .putfield 29, 3)) (.leaf (34, .istore_n 2, 1))) (.leaf (50, .aload_n 0, 1))) (.branch 0 (.leaf (10, .invokevirtual 104, 3)) (.branch 0 (.leaf (26, .ldc 223, 2)) (.leaf (58, .ireturn, 1))))) (.branch 0 (.branch 0 (.leaf (6, .iload_n 1, 1)) (.leaf (54, .sipush (6457), 3))) (.leaf (99999, .nop, 1))))) (.branch 0 (.branch 0 (.branch 0 (.branch 0 (.branch 0 (.leaf (1, .iconst 0, 1)) (.leaf (33, .iconst 0, 1))) (.leaf (17, .getfield 7, 3))) (.branch 0 (.leaf (41, .invokevirtual 224, 3)) (.branch 0 (.leaf (25, .iadd, 1)) (.leaf (57, .iaload, 1))))) (.branch 0 (.branch 0 (.branch 0 (.leaf (5, .aload_n 0, 1)) (.leaf (37, .if_icmp .ge (13), 3))) (.leaf (99999, .nop, 1))) (.leaf (13, .ifCond .eq (18), 3)))) (.branch 0 (.branch 0 (.branch 0 (.leaf (35, .iload_n 2, 1)) (.leaf (51, .getfield 7, 3))) (.leaf (99999, .nop, 1))) (.branch 0 (.branch 0 (.leaf (7, .iconst 1, 1)) (.leaf (23, .iaload, 1))) (.branch 0 (.leaf (47, .goto (-12), 3)) (.leaf (31, .iconst (-1), 1)))))))
theorem rv_k_X12_tick : rv_tok cX12_tick rv_t_X12_tick = true := by decide +kernel
def rv_t_X12_lasts : rv_T := (.branch 0 (.branch 0 (.branch 0 (.branch 0 (.branch 0 (.branch 0 (.branch 0 (.leaf (0, .aload_n 0, 1)) (.leaf (64, .iload_n 3, 1))) (.branch 0 (.leaf (32, .getfield 13, 3)) (.leaf (96, .istore 5, 2)))) (.branch 0 (.leaf (16, .bipush (20), 2)) (.branch 0 (.leaf (48, .istore 4, 2)) (.leaf (112, .ifCond .eq (8), 3))))) (.branch 0 (.branch 0 (.leaf (72, .iload 4, 2)) (.branch 0 (.leaf (40, .iconst 4, 1)) (.leaf (104, .getfield 7, 3)))) (.branch 0 (.branch 0 (.leaf (24, .iconst (-1), 1)) (.leaf (88, .if_icmp .lt (7), 3))) (.leaf (120, .iconst (-1), 1))))) (.branch 0 (.branch 0 (.branch 0 (.leaf (68, .aload_n 0, 1)) (.leaf (100, .getfield 13, 3))) (.branch 0 (.leaf (84, .invokevirtual 50, 3)) (.leaf (52, .sipush (400), 3)))) (.branch 0 (.branch 0 (.leaf (76, .istore 4, 2)) (.leaf (44, .iload_n 2, 1))) (.branch 0 (.branch 0 (.leaf (28, .getfield 7, 3)) (.leaf (92, .goto (4), 3))) (.leaf (60, .iconst 4, 1)))))) (.branch 0 (.branch 0 (.branch 0 (.branch 0 (.leaf (2, .putfield 29, 3)) (.leaf (98, .aload_n 0, 1))) (.branch 0 (.branch 0 (.leaf (18, .invokevirtual 104, 3)) (.leaf (82, .iload_n 1, 1))) (.leaf (50, .iload 4, 2)))) (.branch 0 (.branch 0 (.branch 0 (.leaf (10, .ifCond .eq (14), 3)) (.leaf (74, .iconst 1, 1))) (.leaf (99999, .nop, 1))) (.branch 0 (.leaf (26, .aload_n 0, 1)) (.leaf (58, .aload_n 0, 1))))) (.branch 0 (.branch 0 (.branch 0 (.leaf (6, .iload_n 1, 1)) (.leaf (38, .aload_n 0, 1))) (.leaf (99999, .nop, 1))) (.branch 0 (.branch 0 (.branch 0 (.leaf (14, .iload_n 2, 1)) (.leaf (78, .goto (-28), 3))) (.branch 0 (.leaf (46, .istore_n 3, 1)) (.leaf (110, .iload 5, 2)))) (.leaf (99999, .nop, 1)))))) (.branch 0 (.branch 0 (.branch 0 (.branch 0 (.branch 0 (.branch 0 (.leaf (1, .iconst 0, 1)) (.leaf (65, .if_icmp .ge (16), 3))) (.leaf (99999, .nop, 1))) (.leaf (81, .aload_n 0, 1))) (.branch 0 (.leaf (41, .invokevirtual 50, 3)) (.branch 0 (.leaf (25, .ireturn, 1)) (.leaf (121, .ireturn, 1))))) (.branch 0 (.branch 0 (.branch 0 (.branch 0 (.leaf (5, .aload_n 0, 1)) (.leaf (69, .invokevirtual 224, 3))) (.leaf (99999, .nop, 1))) (.branch 0 (.leaf (21, .ifCond .ne (5), 3)) (.leaf (117, .goto (4), 3)))) (.branch 0 (.branch 0 (.leaf (13, .aload_n 0, 1)) (.leaf (45, .iadd, 1))) (.leaf (61, .invokevirtual 50, 3))))) (.branch 0 (.branch 0 (.branch 0 (.branch 0 (.leaf (99999, .nop, 1)) (.branch 0 (.leaf (35, .invokevirtual 292, 3)) (.leaf (99, .aload_n 0, 1)))) (.branch 0 (.leaf (83, .iconst 4, 1)) (.leaf (115, .iload 4, 2)))) (.branch 0 (.branch 0 (.leaf (75, .iadd, 1)) (.leaf (107, .invokevirtual 292, 3))) (.branch 0 (.branch 0 (.leaf (27, .aload_n 0, 1)) (.leaf (91, .iconst 1, 1))) (.leaf (59, .iload_n 1, 1))))) (.branch 0 (.branch 0 (.branch 0 (.leaf (7, .invokevirtual 127, 3)) (.branch 0 (.leaf (39, .iload_n 1, 1)) (.leaf (103, .aload_n 0, 1)))) (.branch 0 (.leaf (87, .iload_n 3, 1)) (.leaf (55, .if_icmp .ge (26), 3)))) (.branch 0 (.branch 0 (.leaf (15, .iconst 1, 1)) (.leaf (47, .iconst 0, 1))) (.branch 0 (.branch 0 (.leaf (31, .aload_n 0, 1)) (.leaf (95, .iconst 0, 1))) (.leaf (99999, .nop, 1))))))))
theorem rv_k_X12_lasts : rv_tok cX12_lasts rv_t_X12_lasts = true := by decide +kernel
section RMX
variable (base : Nat) (l : Launch) (cI c1 c2 c3 c4 c5 : ClassId) (D : va_G) (ad adV : Nat → Nat)
theorem h_copiesX_0 (a0 aF aO : Nat) : rm_Hm base l cI c1 c2 c3 c4 c5 D ad adV rk_q_X12_copies [.ref a0, .ref aF, .ref aO] (fun G _ f => G a0 = some 12 ∧ G aF = some 24 ∧ G aO = some 30) (fun G _ f v u => v = none ∧ (∀ b, b ≠ aO → u b = f b) ∧ ∃ gF g : Nat → Int32, f aF = .inl (cI, 6466, .inl gF) ∧ u aO = .inl (cI, 6466, .inl g) ∧ ∀ j, j < 6466 → g j = gF j) 0 259 := by
  unfold rm_Hm
  refine rm_start (M := rk_q_X12_copies) (rk_hNw base ad adV) (rk_hNc base ad adV) (by decide +kernel) (mt := rk_mt []) (ml := rk_mlf []) (fl := rk_flf rk_ftX12) (fun s args h hN => rk_MlOk_of (fun _ h => absurd h List.not_mem_nil) (by decide +kernel)) (fun s args h hN => rk_flX12 (fun w hw => List.mem_cons_of_mem _ hw) h hN) (rm_cat1 rfl) (Nat.le_of_ble_eq_true rfl) ?_
  intro p e st m below meth c G X L f0 A hC hh hX0 hXC hT hpre
  have hcs : 0 ≤ 0 ∧ 0 ≤ 0 := ⟨Nat.le_refl 0, Nat.le_refl 0⟩
  obtain ⟨hG, hF, hO⟩ := hpre
  have hne : aF ≠ aO := fun h => by rw [h, hO] at hF; cases hF
  have hT0 := hT
  obtain ⟨hLF, gF, eF, tF⟩ := rm_ro hT hF rfl
  have loop : ∀ (d : Nat) (k : Int32) (kn : Nat) (g : Nat → Int32) (f : Nat → va_E) (H : Heap) (locs : List Loc), rm_h D A st L f H locs → rm_TY cI c1 c2 c3 c4 c5 ad G X L f → (∀ b, b ≠ aO → f b = f0 b) → f aO = .inl (cI, 6466, .inl g) → (∀ j, j < kn → g j = gF j) → k.toInt = (kn : Int) → kn + d = 6466 → rv_G p l e { frames := rk_q_X12_copies.2.2.2.2.1, cells := 0, slots := 0, locals := rk_q_X12_copies.2.2.2.2.2 } st m ([.ref a0, .ref aF, .ref aO] : List Value).toArray below meth c (MQ below (rk_Q (fun v u => rm_TY cI c1 c2 c3 c4 c5 ad G (X + 0) L u ∧ rm_Lv G 259 f0 u ∧ (fun G _ f v u => v = none ∧ (∀ b, b ≠ aO → u b = f b) ∧ ∃ gF g : Nat → Int32, f aF = .inl (cI, 6466, .inl gF) ∧ u aO = .inl (cI, 6466, .inl g) ∧ ∀ j, j < 6466 → g j = gF j) G X f0 v u) (rk_B D (rk_tys cI c1 c2 c3 c4 c5) L A) A) ([.ref a0, .ref aF, .ref aO] : List Value).toArray st 0 0 A) rk_q_X12_copies.2.2.1 0 0 H locs 2 [] [(0, .ref a0), (1, .ref aF), (2, .ref aO), (3, .int k)] := by
    intro d
    induction d with
    | zero =>
      intro k kn g f H locs hh hT hfb hfO hg hk hd
      refine rv_run hC.1 hC.2.1 (T := rv_t_X12_copies) rv_k_X12_copies 3 ?_
      refine ⟨fun _ => ?_, fun h => absurd h (by show ¬ k.toInt < 6466; omega)⟩
      have hL : rm_Lv G 259 f0 f := rm_cp_0 hT0 hG hF hO hfb eF hfO (fun j hj => hg j (by omega))
      refine rm_vret hC hh (by decide +kernel) rfl ⟨by rw [Int.add_zero]; exact hT, hL, rfl, hfb, gF, g, eF, hfO, fun j hj => hg j (by omega)⟩
    | succ d ih =>
      intro k kn g f H locs hh hT hfb hfO hg hk hd
      have e7 := rm_ad (x := k) hk rm_e1 (by omega) (by decide)
      refine rv_run hC.1 hC.2.1 (T := rv_t_X12_copies) rv_k_X12_copies 3 ?_
      refine ⟨fun h => absurd h (by show ¬ 6466 ≤ k.toInt; omega), fun _ => ?_⟩
      obtain ⟨hLO, -⟩ := rm_ro hT hO rfl
      obtain ⟨-, g2, e2, tO⟩ := rm_ro hT hO rfl
      rw [hfO] at e2
      cases e2
      refine rv_run hC.1 hC.2.1 (T := rv_t_X12_copies) rv_k_X12_copies 80 ?_
      refine rm_iald hC hh (by decide +kernel) hLF (by rw [hfb aF hne]; exact eF) rfl (by omega) (by omega) ?_
      refine rm_iast hC hh (by decide +kernel) hLO hfO rfl (by omega) (by omega) (fun H locs hh => ?_)
      rw [rm_clamp hk] at hh
      refine rv_run hC.1 hC.2.1 (T := rv_t_X12_copies) rv_k_X12_copies 2 ?_
      refine ih (k + Int32.ofInt 1) (kn + 1) (upd g kn (gF kn)) _ H locs hh (rk_TY_up hT hO ⟨cI, _, rfl, rfl, fun i hi => ?_⟩) (fun b hb => by rw [va_up_ne _ _ hb]; exact hfb b hb) (va_up_self _ _ _) (fun j hj => ?_) (by rw [e7]; omega) (by omega)
      · by_cases hij : i = kn
        · subst hij
          rw [pk_us]
          exact tF i hi
        · rw [pk_un hij]
          exact tO i hi
      · by_cases hij : j = kn
        · subst hij
          rw [pk_us]
        · rw [pk_un hij]
          exact hg j (by omega)
  obtain ⟨-, gO, eO, tO⟩ := rm_ro hT hO rfl
  refine rv_run hC.1 hC.2.1 (T := rv_t_X12_copies) rv_k_X12_copies 2 ?_
  exact loop 6466 _ 0 gO f0 _ _ hh hT (fun _ _ => rfl) eO (fun j hj => absurd hj (Nat.not_lt_zero _)) rfl rfl
theorem h_copiesX_1 (a0 aF aO : Nat) : rm_Hm base l cI c1 c2 c3 c4 c5 D ad adV rk_q_X12_copies [.ref a0, .ref aF, .ref aO] (fun G _ f => G a0 = some 12 ∧ G aF = some 30 ∧ G aO = some 24) (fun G _ f v u => v = none ∧ (∀ b, b ≠ aO → u b = f b) ∧ ∃ gF g : Nat → Int32, f aF = .inl (cI, 6466, .inl gF) ∧ u aO = .inl (cI, 6466, .inl g) ∧ ∀ j, j < 6466 → g j = gF j) 0 103 := by
  unfold rm_Hm
  refine rm_start (M := rk_q_X12_copies) (rk_hNw base ad adV) (rk_hNc base ad adV) (by decide +kernel) (mt := rk_mt []) (ml := rk_mlf []) (fl := rk_flf rk_ftX12) (fun s args h hN => rk_MlOk_of (fun _ h => absurd h List.not_mem_nil) (by decide +kernel)) (fun s args h hN => rk_flX12 (fun w hw => List.mem_cons_of_mem _ hw) h hN) (rm_cat1 rfl) (Nat.le_of_ble_eq_true rfl) ?_
  intro p e st m below meth c G X L f0 A hC hh hX0 hXC hT hpre
  have hcs : 0 ≤ 0 ∧ 0 ≤ 0 := ⟨Nat.le_refl 0, Nat.le_refl 0⟩
  obtain ⟨hG, hF, hO⟩ := hpre
  have hne : aF ≠ aO := fun h => by rw [h, hO] at hF; cases hF
  have hT0 := hT
  obtain ⟨hLF, gF, eF, tF⟩ := rm_ro hT hF rfl
  have loop : ∀ (d : Nat) (k : Int32) (kn : Nat) (g : Nat → Int32) (f : Nat → va_E) (H : Heap) (locs : List Loc), rm_h D A st L f H locs → rm_TY cI c1 c2 c3 c4 c5 ad G X L f → (∀ b, b ≠ aO → f b = f0 b) → f aO = .inl (cI, 6466, .inl g) → (∀ j, j < kn → g j = gF j) → k.toInt = (kn : Int) → kn + d = 6466 → rv_G p l e { frames := rk_q_X12_copies.2.2.2.2.1, cells := 0, slots := 0, locals := rk_q_X12_copies.2.2.2.2.2 } st m ([.ref a0, .ref aF, .ref aO] : List Value).toArray below meth c (MQ below (rk_Q (fun v u => rm_TY cI c1 c2 c3 c4 c5 ad G (X + 0) L u ∧ rm_Lv G 103 f0 u ∧ (fun G _ f v u => v = none ∧ (∀ b, b ≠ aO → u b = f b) ∧ ∃ gF g : Nat → Int32, f aF = .inl (cI, 6466, .inl gF) ∧ u aO = .inl (cI, 6466, .inl g) ∧ ∀ j, j < 6466 → g j = gF j) G X f0 v u) (rk_B D (rk_tys cI c1 c2 c3 c4 c5) L A) A) ([.ref a0, .ref aF, .ref aO] : List Value).toArray st 0 0 A) rk_q_X12_copies.2.2.1 0 0 H locs 2 [] [(0, .ref a0), (1, .ref aF), (2, .ref aO), (3, .int k)] := by
    intro d
    induction d with
    | zero =>
      intro k kn g f H locs hh hT hfb hfO hg hk hd
      refine rv_run hC.1 hC.2.1 (T := rv_t_X12_copies) rv_k_X12_copies 3 ?_
      refine ⟨fun _ => ?_, fun h => absurd h (by show ¬ k.toInt < 6466; omega)⟩
      have hL : rm_Lv G 103 f0 f := rm_cp_1 hT0 hG hF hO hfb eF hfO (fun j hj => hg j (by omega))
      refine rm_vret hC hh (by decide +kernel) rfl ⟨by rw [Int.add_zero]; exact hT, hL, rfl, hfb, gF, g, eF, hfO, fun j hj => hg j (by omega)⟩
    | succ d ih =>
      intro k kn g f H locs hh hT hfb hfO hg hk hd
      have e7 := rm_ad (x := k) hk rm_e1 (by omega) (by decide)
      refine rv_run hC.1 hC.2.1 (T := rv_t_X12_copies) rv_k_X12_copies 3 ?_
      refine ⟨fun h => absurd h (by show ¬ 6466 ≤ k.toInt; omega), fun _ => ?_⟩
      obtain ⟨hLO, -⟩ := rm_ro hT hO rfl
      obtain ⟨-, g2, e2, tO⟩ := rm_ro hT hO rfl
      rw [hfO] at e2
      cases e2
      refine rv_run hC.1 hC.2.1 (T := rv_t_X12_copies) rv_k_X12_copies 80 ?_
      refine rm_iald hC hh (by decide +kernel) hLF (by rw [hfb aF hne]; exact eF) rfl (by omega) (by omega) ?_
      refine rm_iast hC hh (by decide +kernel) hLO hfO rfl (by omega) (by omega) (fun H locs hh => ?_)
      rw [rm_clamp hk] at hh
      refine rv_run hC.1 hC.2.1 (T := rv_t_X12_copies) rv_k_X12_copies 2 ?_
      refine ih (k + Int32.ofInt 1) (kn + 1) (upd g kn (gF kn)) _ H locs hh (rk_TY_up hT hO ⟨cI, _, rfl, rfl, fun i hi => ?_⟩) (fun b hb => by rw [va_up_ne _ _ hb]; exact hfb b hb) (va_up_self _ _ _) (fun j hj => ?_) (by rw [e7]; omega) (by omega)
      · by_cases hij : i = kn
        · subst hij
          rw [pk_us]
          exact tF i hi
        · rw [pk_un hij]
          exact tO i hi
      · by_cases hij : j = kn
        · subst hij
          rw [pk_us]
        · rw [pk_un hij]
          exact hg j (by omega)
  obtain ⟨-, gO, eO, tO⟩ := rm_ro hT hO rfl
  refine rv_run hC.1 hC.2.1 (T := rv_t_X12_copies) rv_k_X12_copies 2 ?_
  exact loop 6466 _ 0 gO f0 _ _ hh hT (fun _ _ => rfl) eO (fun j hj => absurd hj (Nat.not_lt_zero _)) rfl rfl
theorem h_copiesX_2 (a0 aF aO : Nat) : rm_Hm base l cI c1 c2 c3 c4 c5 D ad adV rk_q_X12_copies [.ref a0, .ref aF, .ref aO] (fun G _ f => G a0 = some 12 ∧ G aF = some 24 ∧ G aO = some 31) (fun G _ f v u => v = none ∧ (∀ b, b ≠ aO → u b = f b) ∧ ∃ gF g : Nat → Int32, f aF = .inl (cI, 6466, .inl gF) ∧ u aO = .inl (cI, 6466, .inl g) ∧ ∀ j, j < 6466 → g j = gF j) 0 259 := by
  unfold rm_Hm
  refine rm_start (M := rk_q_X12_copies) (rk_hNw base ad adV) (rk_hNc base ad adV) (by decide +kernel) (mt := rk_mt []) (ml := rk_mlf []) (fl := rk_flf rk_ftX12) (fun s args h hN => rk_MlOk_of (fun _ h => absurd h List.not_mem_nil) (by decide +kernel)) (fun s args h hN => rk_flX12 (fun w hw => List.mem_cons_of_mem _ hw) h hN) (rm_cat1 rfl) (Nat.le_of_ble_eq_true rfl) ?_
  intro p e st m below meth c G X L f0 A hC hh hX0 hXC hT hpre
  have hcs : 0 ≤ 0 ∧ 0 ≤ 0 := ⟨Nat.le_refl 0, Nat.le_refl 0⟩
  obtain ⟨hG, hF, hO⟩ := hpre
  have hne : aF ≠ aO := fun h => by rw [h, hO] at hF; cases hF
  have hT0 := hT
  obtain ⟨hLF, gF, eF, tF⟩ := rm_ro hT hF rfl
  have loop : ∀ (d : Nat) (k : Int32) (kn : Nat) (g : Nat → Int32) (f : Nat → va_E) (H : Heap) (locs : List Loc), rm_h D A st L f H locs → rm_TY cI c1 c2 c3 c4 c5 ad G X L f → (∀ b, b ≠ aO → f b = f0 b) → f aO = .inl (cI, 6466, .inl g) → (∀ j, j < kn → g j = gF j) → k.toInt = (kn : Int) → kn + d = 6466 → rv_G p l e { frames := rk_q_X12_copies.2.2.2.2.1, cells := 0, slots := 0, locals := rk_q_X12_copies.2.2.2.2.2 } st m ([.ref a0, .ref aF, .ref aO] : List Value).toArray below meth c (MQ below (rk_Q (fun v u => rm_TY cI c1 c2 c3 c4 c5 ad G (X + 0) L u ∧ rm_Lv G 259 f0 u ∧ (fun G _ f v u => v = none ∧ (∀ b, b ≠ aO → u b = f b) ∧ ∃ gF g : Nat → Int32, f aF = .inl (cI, 6466, .inl gF) ∧ u aO = .inl (cI, 6466, .inl g) ∧ ∀ j, j < 6466 → g j = gF j) G X f0 v u) (rk_B D (rk_tys cI c1 c2 c3 c4 c5) L A) A) ([.ref a0, .ref aF, .ref aO] : List Value).toArray st 0 0 A) rk_q_X12_copies.2.2.1 0 0 H locs 2 [] [(0, .ref a0), (1, .ref aF), (2, .ref aO), (3, .int k)] := by
    intro d
    induction d with
    | zero =>
      intro k kn g f H locs hh hT hfb hfO hg hk hd
      refine rv_run hC.1 hC.2.1 (T := rv_t_X12_copies) rv_k_X12_copies 3 ?_
      refine ⟨fun _ => ?_, fun h => absurd h (by show ¬ k.toInt < 6466; omega)⟩
      have hL : rm_Lv G 259 f0 f := rm_cp_2 hT0 hG hF hO hfb eF hfO (fun j hj => hg j (by omega))
      refine rm_vret hC hh (by decide +kernel) rfl ⟨by rw [Int.add_zero]; exact hT, hL, rfl, hfb, gF, g, eF, hfO, fun j hj => hg j (by omega)⟩
    | succ d ih =>
      intro k kn g f H locs hh hT hfb hfO hg hk hd
      have e7 := rm_ad (x := k) hk rm_e1 (by omega) (by decide)
      refine rv_run hC.1 hC.2.1 (T := rv_t_X12_copies) rv_k_X12_copies 3 ?_
      refine ⟨fun h => absurd h (by show ¬ 6466 ≤ k.toInt; omega), fun _ => ?_⟩
      obtain ⟨hLO, -⟩ := rm_ro hT hO rfl
      obtain ⟨-, g2, e2, tO⟩ := rm_ro hT hO rfl
      rw [hfO] at e2
      cases e2
      refine rv_run hC.1 hC.2.1 (T := rv_t_X12_copies) rv_k_X12_copies 80 ?_
      refine rm_iald hC hh (by decide +kernel) hLF (by rw [hfb aF hne]; exact eF) rfl (by omega) (by omega) ?_
      refine rm_iast hC hh (by decide +kernel) hLO hfO rfl (by omega) (by omega) (fun H locs hh => ?_)
      rw [rm_clamp hk] at hh
      refine rv_run hC.1 hC.2.1 (T := rv_t_X12_copies) rv_k_X12_copies 2 ?_
      refine ih (k + Int32.ofInt 1) (kn + 1) (upd g kn (gF kn)) _ H locs hh (rk_TY_up hT hO ⟨cI, _, rfl, rfl, fun i hi => ?_⟩) (fun b hb => by rw [va_up_ne _ _ hb]; exact hfb b hb) (va_up_self _ _ _) (fun j hj => ?_) (by rw [e7]; omega) (by omega)
      · by_cases hij : i = kn
        · subst hij
          rw [pk_us]
          exact tF i hi
        · rw [pk_un hij]
          exact tO i hi
      · by_cases hij : j = kn
        · subst hij
          rw [pk_us]
        · rw [pk_un hij]
          exact hg j (by omega)
  obtain ⟨-, gO, eO, tO⟩ := rm_ro hT hO rfl
  refine rv_run hC.1 hC.2.1 (T := rv_t_X12_copies) rv_k_X12_copies 2 ?_
  exact loop 6466 _ 0 gO f0 _ _ hh hT (fun _ _ => rfl) eO (fun j hj => absurd hj (Nat.not_lt_zero _)) rfl rfl
theorem h_copiesX_3 (a0 aF aO : Nat) : rm_Hm base l cI c1 c2 c3 c4 c5 D ad adV rk_q_X12_copies [.ref a0, .ref aF, .ref aO] (fun G _ f => G a0 = some 12 ∧ G aF = some 31 ∧ G aO = some 24) (fun G _ f v u => v = none ∧ (∀ b, b ≠ aO → u b = f b) ∧ ∃ gF g : Nat → Int32, f aF = .inl (cI, 6466, .inl gF) ∧ u aO = .inl (cI, 6466, .inl g) ∧ ∀ j, j < 6466 → g j = gF j) 0 103 := by
  unfold rm_Hm
  refine rm_start (M := rk_q_X12_copies) (rk_hNw base ad adV) (rk_hNc base ad adV) (by decide +kernel) (mt := rk_mt []) (ml := rk_mlf []) (fl := rk_flf rk_ftX12) (fun s args h hN => rk_MlOk_of (fun _ h => absurd h List.not_mem_nil) (by decide +kernel)) (fun s args h hN => rk_flX12 (fun w hw => List.mem_cons_of_mem _ hw) h hN) (rm_cat1 rfl) (Nat.le_of_ble_eq_true rfl) ?_
  intro p e st m below meth c G X L f0 A hC hh hX0 hXC hT hpre
  have hcs : 0 ≤ 0 ∧ 0 ≤ 0 := ⟨Nat.le_refl 0, Nat.le_refl 0⟩
  obtain ⟨hG, hF, hO⟩ := hpre
  have hne : aF ≠ aO := fun h => by rw [h, hO] at hF; cases hF
  have hT0 := hT
  obtain ⟨hLF, gF, eF, tF⟩ := rm_ro hT hF rfl
  have loop : ∀ (d : Nat) (k : Int32) (kn : Nat) (g : Nat → Int32) (f : Nat → va_E) (H : Heap) (locs : List Loc), rm_h D A st L f H locs → rm_TY cI c1 c2 c3 c4 c5 ad G X L f → (∀ b, b ≠ aO → f b = f0 b) → f aO = .inl (cI, 6466, .inl g) → (∀ j, j < kn → g j = gF j) → k.toInt = (kn : Int) → kn + d = 6466 → rv_G p l e { frames := rk_q_X12_copies.2.2.2.2.1, cells := 0, slots := 0, locals := rk_q_X12_copies.2.2.2.2.2 } st m ([.ref a0, .ref aF, .ref aO] : List Value).toArray below meth c (MQ below (rk_Q (fun v u => rm_TY cI c1 c2 c3 c4 c5 ad G (X + 0) L u ∧ rm_Lv G 103 f0 u ∧ (fun G _ f v u => v = none ∧ (∀ b, b ≠ aO → u b = f b) ∧ ∃ gF g : Nat → Int32, f aF = .inl (cI, 6466, .inl gF) ∧ u aO = .inl (cI, 6466, .inl g) ∧ ∀ j, j < 6466 → g j = gF j) G X f0 v u) (rk_B D (rk_tys cI c1 c2 c3 c4 c5) L A) A) ([.ref a0, .ref aF, .ref aO] : List Value).toArray st 0 0 A) rk_q_X12_copies.2.2.1 0 0 H locs 2 [] [(0, .ref a0), (1, .ref aF), (2, .ref aO), (3, .int k)] := by
    intro d
    induction d with
    | zero =>
      intro k kn g f H locs hh hT hfb hfO hg hk hd
      refine rv_run hC.1 hC.2.1 (T := rv_t_X12_copies) rv_k_X12_copies 3 ?_
      refine ⟨fun _ => ?_, fun h => absurd h (by show ¬ k.toInt < 6466; omega)⟩
      have hL : rm_Lv G 103 f0 f := rm_cp_3 hT0 hG hF hO hfb eF hfO (fun j hj => hg j (by omega))
      refine rm_vret hC hh (by decide +kernel) rfl ⟨by rw [Int.add_zero]; exact hT, hL, rfl, hfb, gF, g, eF, hfO, fun j hj => hg j (by omega)⟩
    | succ d ih =>
      intro k kn g f H locs hh hT hfb hfO hg hk hd
      have e7 := rm_ad (x := k) hk rm_e1 (by omega) (by decide)
      refine rv_run hC.1 hC.2.1 (T := rv_t_X12_copies) rv_k_X12_copies 3 ?_
      refine ⟨fun h => absurd h (by show ¬ 6466 ≤ k.toInt; omega), fun _ => ?_⟩
      obtain ⟨hLO, -⟩ := rm_ro hT hO rfl
      obtain ⟨-, g2, e2, tO⟩ := rm_ro hT hO rfl
      rw [hfO] at e2
      cases e2
      refine rv_run hC.1 hC.2.1 (T := rv_t_X12_copies) rv_k_X12_copies 80 ?_
      refine rm_iald hC hh (by decide +kernel) hLF (by rw [hfb aF hne]; exact eF) rfl (by omega) (by omega) ?_
      refine rm_iast hC hh (by decide +kernel) hLO hfO rfl (by omega) (by omega) (fun H locs hh => ?_)
      rw [rm_clamp hk] at hh
      refine rv_run hC.1 hC.2.1 (T := rv_t_X12_copies) rv_k_X12_copies 2 ?_
      refine ih (k + Int32.ofInt 1) (kn + 1) (upd g kn (gF kn)) _ H locs hh (rk_TY_up hT hO ⟨cI, _, rfl, rfl, fun i hi => ?_⟩) (fun b hb => by rw [va_up_ne _ _ hb]; exact hfb b hb) (va_up_self _ _ _) (fun j hj => ?_) (by rw [e7]; omega) (by omega)
      · by_cases hij : i = kn
        · subst hij
          rw [pk_us]
          exact tF i hi
        · rw [pk_un hij]
          exact tO i hi
      · by_cases hij : j = kn
        · subst hij
          rw [pk_us]
        · rw [pk_un hij]
          exact hg j (by omega)
  obtain ⟨-, gO, eO, tO⟩ := rm_ro hT hO rfl
  refine rv_run hC.1 hC.2.1 (T := rv_t_X12_copies) rv_k_X12_copies 2 ?_
  exact loop 6466 _ 0 gO f0 _ _ hh hT (fun _ _ => rfl) eO (fun j hj => absurd hj (Nat.not_lt_zero _)) rfl rfl
theorem h_ticks2 (a0 : Nat) : rm_Hm base l cI c1 c2 c3 c4 c5 D ad adV rk_q_X12_ticks [.ref a0] (fun G _ f => G a0 = some 12 ∧ rm_PI G f) (fun G _ f v u => v = none ∧ rm_now G u a0 6457 = rm_now G f a0 6457 + Int32.ofInt 1) 3236 71 := by
  unfold rm_Hm
  refine rm_start (M := rk_q_X12_ticks) (rk_hNw base ad adV) (rk_hNc base ad adV) (by decide +kernel) (mt := rk_mt [rk_q_X12_grows, rk_q_X12_hearsAll, rk_q_X12_isSocket, rk_q_X12_puts, rk_q_X12_routesAll, rk_q_X12_sends, rk_q_X12_takesAtEnd, rk_q_X12_watches]) (ml := rk_mlf [(208, 0, 2, 12), (205, 1, 1, 12), (32, 2, 2, 12), (42, 3, 4, 12), (211, 4, 2, 12), (217, 5, 2, 12), (214, 6, 2, 12), (220, 7, 2, 12)]) (fl := rk_flf rk_ftX12) (fun s args h hN => rk_MlOk_of (List.forall_mem_cons.mpr ⟨rk_mck_ok (fun w hw => List.mem_cons_of_mem _ hw) h hN rk_cm_X12_grows rk_lk_X12_208, List.forall_mem_cons.mpr ⟨rk_mck_ok (fun w hw => List.mem_cons_of_mem _ hw) h hN rk_cm_X12_hearsAll rk_lk_X12_205, List.forall_mem_cons.mpr ⟨rk_mck_ok (fun w hw => List.mem_cons_of_mem _ hw) h hN rk_cm_X12_isSocket rk_lk_X12_32, List.forall_mem_cons.mpr ⟨rk_mck_ok (fun w hw => List.mem_cons_of_mem _ hw) h hN rk_cm_X12_puts rk_lk_X12_42, List.forall_mem_cons.mpr ⟨rk_mck_ok (fun w hw => List.mem_cons_of_mem _ hw) h hN rk_cm_X12_routesAll rk_lk_X12_211, List.forall_mem_cons.mpr ⟨rk_mck_ok (fun w hw => List.mem_cons_of_mem _ hw) h hN rk_cm_X12_sends rk_lk_X12_217, List.forall_mem_cons.mpr ⟨rk_mck_ok (fun w hw => List.mem_cons_of_mem _ hw) h hN rk_cm_X12_takesAtEnd rk_lk_X12_214, List.forall_mem_cons.mpr ⟨rk_mck_ok (fun w hw => List.mem_cons_of_mem _ hw) h hN rk_cm_X12_watches rk_lk_X12_220, fun _ h => absurd h List.not_mem_nil⟩⟩⟩⟩⟩⟩⟩⟩) (by decide +kernel)) (fun s args h hN => rk_flX12 (fun w hw => List.mem_cons_of_mem _ hw) h hN) (rm_cat1 rfl) (Nat.le_of_ble_eq_true rfl) ?_
  intro p e st m below meth c G X L f0 A hC hh hX0 hXC hT hpre
  have hcs : 0 ≤ 0 ∧ 0 ≤ 0 := ⟨Nat.le_refl 0, Nat.le_refl 0⟩
  obtain ⟨hG, hPI⟩ := hpre
  refine rv_run hC.1 hC.2.1 (T := rv_t_X12_ticks) rv_k_X12_ticks 80 ?_
  refine w_gn hC hh hT hG (by omega) (by decide +kernel) rfl (fun fs aN g e1 n1 n2 hLN eN tN eg => ?_)
  refine rv_run hC.1 hC.2.1 (T := rv_t_X12_ticks) rv_k_X12_ticks 80 ?_
  refine rm_get (idx := 7) hC hh (by decide +kernel) rfl (rm_me hT hG).1 e1 n1 ?_
  refine rv_run hC.1 hC.2.1 (T := rv_t_X12_ticks) rv_k_X12_ticks 80 ?_
  refine rm_iald hC hh (by decide +kernel) hLN eN rfl (by decide) (by decide) ?_
  refine rv_run hC.1 hC.2.1 (T := rv_t_X12_ticks) rv_k_X12_ticks 80 ?_
  refine w_nst hC hh hT hG (by omega) 65 6457 (by decide +kernel) e1 n1 n2 hLN eN tN (by decide) (by decide) (rk_full_ok _) rfl (fun f H locs hh hT hL hP => ?_)
  have k1 := hP 6457
  rw [if_pos rfl] at k1
  have hLt := hL
  refine m_ticks_18 base l cI c1 c2 c3 c4 c5 D ad adV hC hcs hX0 hXC hT (rm_PIok rfl _ _ _ hL hPI) hh (fun v u hA hT2 hL2 => ?_) (fun _ => .ref a0) (fun i ty hi _ => ?_) (fun i ty hi => ?_)
  · cases rk_alt_vn hA
    refine ⟨hT2, rm_lv_tr (k := 71) hLt hL2 rfl rfl, rfl, ?_⟩
    rw [rm_row_ti hL2 rfl hG rfl, k1, eg]
    rfl
  · rcases i with _ | i
    · exact List.mem_of_getElem? (i := 0) rfl
    · cases hi
  · rcases i with _ | i
    · cases hi
      exact ⟨a0, rfl, hG⟩
    · cases hi
theorem h_tick2 (a0 : Nat) (n z : Int32) : rm_Hm base l cI c1 c2 c3 c4 c5 D ad adV rk_q_X12_tick [.ref a0, .int n] (fun G _ f => G a0 = some 12 ∧ rm_PI G f ∧ rm_now G f a0 6457 = z ∧ 0 ≤ z.toInt ∧ z.toInt ≤ 99999) (fun G _ f v u => ∃ x : Int32, v = some (.int x) ∧ ((x.toInt = -1 ∧ ¬ (1 ≤ n.toInt ∧ n.toInt ≤ 100 ∧ z.toInt + n.toInt ≤ 99999) ∧ rm_now G u a0 6457 = z) ∨ ((1 ≤ n.toInt ∧ n.toInt ≤ 100 ∧ z.toInt + n.toInt ≤ 99999) ∧ x.toInt = z.toInt + n.toInt ∧ rm_now G u a0 6457 = x))) 323600 71 := by
  unfold rm_Hm
  refine rm_start (M := rk_q_X12_tick) (rk_hNw base ad adV) (rk_hNc base ad adV) (by decide +kernel) (mt := rk_mt [rk_q_X12_isIn, rk_q_X12_ticks]) (ml := rk_mlf [(104, 0, 4, 12), (224, 1, 1, 12)]) (fl := rk_flf rk_ftX12) (fun s args h hN => rk_MlOk_of (List.forall_mem_cons.mpr ⟨rk_mck_ok (fun w hw => List.mem_cons_of_mem _ hw) h hN rk_cm_X12_isIn rk_lk_X12_104, List.forall_mem_cons.mpr ⟨rk_mck_ok (fun w hw => List.mem_cons_of_mem _ hw) h hN rk_cm_X12_ticks rk_lk_X12_224, fun _ h => absurd h List.not_mem_nil⟩⟩) (by decide +kernel)) (fun s args h hN => rk_flX12 (fun w hw => List.mem_cons_of_mem _ hw) h hN) (rm_cat1 rfl) (Nat.le_of_ble_eq_true rfl) ?_
  intro p e st m below meth c G X L f0 A hC hh hX0 hXC hT hpre
  have hcs : 0 ≤ 0 ∧ 0 ≤ 0 := ⟨Nat.le_refl 0, Nat.le_refl 0⟩
  obtain ⟨hG, hPI, hz, z0, z1⟩ := hpre
  have hXt : X + 323600 ≤ 2000000000 := hXC
  have no : ∀ (f : Nat → va_E) (H : Heap) (locs : List Loc), rm_h D A st L f H locs → rm_TY cI c1 c2 c3 c4 c5 ad G X L f → rm_Lv G 71 f0 f → rm_now G f a0 6457 = z → ¬ (1 ≤ n.toInt ∧ n.toInt ≤ 100 ∧ z.toInt + n.toInt ≤ 99999) → rv_G p l e { frames := rk_q_X12_tick.2.2.2.2.1, cells := 0, slots := 0, locals := rk_q_X12_tick.2.2.2.2.2 } st m ([.ref a0, .int n] : List Value).toArray below meth c (MQ below (rk_Q (fun v u => rm_TY cI c1 c2 c3 c4 c5 ad G (X + 323600) L u ∧ rm_Lv G 71 f0 u ∧ (fun G _ f v u => ∃ x : Int32, v = some (.int x) ∧ ((x.toInt = -1 ∧ ¬ (1 ≤ n.toInt ∧ n.toInt ≤ 100 ∧ z.toInt + n.toInt ≤ 99999) ∧ rm_now G u a0 6457 = z) ∨ ((1 ≤ n.toInt ∧ n.toInt ≤ 100 ∧ z.toInt + n.toInt ≤ 99999) ∧ x.toInt = z.toInt + n.toInt ∧ rm_now G u a0 6457 = x))) G X f0 v u) (rk_B D (rk_tys cI c1 c2 c3 c4 c5) L A) A) ([.ref a0, .int n] : List Value).toArray st 0 0 A) rk_q_X12_tick.2.2.1 0 0 H locs 31 [] [(0, .ref a0), (1, .int n)] := by
    intro f H locs hh hT hLt hz9 h
    refine rv_run hC.1 hC.2.1 (T := rv_t_X12_tick) rv_k_X12_tick 1 ?_
    refine rm_iret hC hh (by decide +kernel) rfl ⟨rk_TY_X (by omega) hT, hLt, ⟨_, rfl, Or.inl ⟨rfl, h, hz9⟩⟩⟩
  have loop : ∀ (d : Nat) (k : Int32) (kn : Nat) (f : Nat → va_E) (H : Heap) (locs : List Loc), rm_h D A st L f H locs → rm_TY cI c1 c2 c3 c4 c5 ad G (X + 3236 * (kn : Int)) L f → rm_Lv G 71 f0 f → rm_PI G f → (rm_now G f a0 6457).toInt = z.toInt + (kn : Int) → k.toInt = (kn : Int) → (kn : Int) + (d : Int) = n.toInt → n.toInt ≤ 100 → z.toInt + n.toInt ≤ 99999 → 1 ≤ n.toInt → rv_G p l e { frames := rk_q_X12_tick.2.2.2.2.1, cells := 0, slots := 0, locals := rk_q_X12_tick.2.2.2.2.2 } st m ([.ref a0, .int n] : List Value).toArray below meth c (MQ below (rk_Q (fun v u => rm_TY cI c1 c2 c3 c4 c5 ad G (X + 323600) L u ∧ rm_Lv G 71 f0 u ∧ (fun G _ f v u => ∃ x : Int32, v = some (.int x) ∧ ((x.toInt = -1 ∧ ¬ (1 ≤ n.toInt ∧ n.toInt ≤ 100 ∧ z.toInt + n.toInt ≤ 99999) ∧ rm_now G u a0 6457 = z) ∨ ((1 ≤ n.toInt ∧ n.toInt ≤ 100 ∧ z.toInt + n.toInt ≤ 99999) ∧ x.toInt = z.toInt + n.toInt ∧ rm_now G u a0 6457 = x))) G X f0 v u) (rk_B D (rk_tys cI c1 c2 c3 c4 c5) L A) A) ([.ref a0, .int n] : List Value).toArray st 0 0 A) rk_q_X12_tick.2.2.1 0 0 H locs 35 [] [(0, .ref a0), (1, .int n), (2, .int k)] := by
    intro d
    induction d with
    | zero =>
      intro k kn f H locs hh hT hLt hPI hy hk hd h100 h99 h1
      refine rv_run hC.1 hC.2.1 (T := rv_t_X12_tick) rv_k_X12_tick 3 ?_
      refine ⟨fun _ => ?_, fun h => absurd h (by show ¬ k.toInt < n.toInt; omega)⟩
      refine rv_run hC.1 hC.2.1 (T := rv_t_X12_tick) rv_k_X12_tick 80 ?_
      refine w_gn hC hh hT hG (by omega) (by decide +kernel) rfl (fun fs aN g e1 n1 n2 hLN eN tN eg => ?_)
      refine rv_run hC.1 hC.2.1 (T := rv_t_X12_tick) rv_k_X12_tick 80 ?_
      refine rm_iald hC hh (by decide +kernel) hLN eN rfl (by decide) (by decide) ?_
      have e9 : rm_now G f a0 6457 = g 6457 := by rw [eg]
      rw [e9] at hy
      refine rm_iret hC hh (by decide +kernel) rfl ⟨rk_TY_X (by omega) hT, hLt, ⟨g 6457, rfl, Or.inr ⟨⟨h1, h100, h99⟩, by omega, e9⟩⟩⟩
    | succ d ih =>
      intro k kn f H locs hh hT hLt hPI hy hk hd h100 h99 h1
      refine rv_run hC.1 hC.2.1 (T := rv_t_X12_tick) rv_k_X12_tick 3 ?_
      refine ⟨fun h => absurd h (by show ¬ n.toInt ≤ k.toInt; omega), fun _ => ?_⟩
      refine rv_run hC.1 hC.2.1 (T := rv_t_X12_tick) rv_k_X12_tick 80 ?_
      refine w_h hC hh hT hG (by omega) (by omega) 224 (by decide +kernel) rfl (h_ticks2 base l cI c1 c2 c3 c4 c5 D ad adV a0) ⟨hG, hPI⟩ rfl rfl (Nat.le_of_ble_eq_true rfl) hcs (fun v u H locs hh hT hL hP => ?_)
      obtain ⟨rfl, hu⟩ := hP
      have e4 := rm_ad (x := k) hk rm_e1 (by omega) (by decide)
      have e5 := rm_ad (x := rm_now G f a0 6457) hy rm_e1 (by omega) (by decide)
      refine rv_run hC.1 hC.2.1 (T := rv_t_X12_tick) rv_k_X12_tick 2 ?_
      exact ih _ (kn + 1) u H locs hh (rk_TY_X (by omega) hT) (rm_lv_tr (k := 71) hLt hL rfl rfl) (rm_PIok rfl _ _ _ hL hPI) (by rw [hu, e5]; omega) (by rw [e4]; omega) (by omega) h100 h99 h1
  refine rv_run hC.1 hC.2.1 (T := rv_t_X12_tick) rv_k_X12_tick 80 ?_
  refine w_pf hC hh hT hG (by omega) 1 29 (by decide +kernel) rfl rfl (Or.inl ⟨rfl, _, rfl⟩) ⟨_, rfl, by decide, by decide⟩ rfl (by decide) (fun f H locs hh hT hL hP => ?_)
  have hLt := rm_lv_up (m := 71) hL rfl
  have hPI := rm_PIok rfl _ _ _ hL hPI
  have k6 := (rm_row_ti hL rfl hG (j := 6457) rfl).trans hz
  refine rv_run hC.1 hC.2.1 (T := rv_t_X12_tick) rv_k_X12_tick 80 ?_
  refine w_h hC hh hT hG (by omega) (by omega) 104 (by decide +kernel) rfl (h_isIn base l cI c1 c2 c3 c4 c5 D ad adV a0 n _ _) hG rfl rfl (Nat.le_of_ble_eq_true rfl) hcs (fun v f1 H locs hh hT hL hP => ?_)
  rw [Int.add_zero] at hT
  obtain ⟨⟨y, rfl, hy⟩, hf9⟩ := hP
  rw [hf9] at hh hT
  clear hf9 hL f1
  have a1 : (Int32.ofInt 1).toInt = 1 := rfl
  have a2 : ((Int8.ofInt 100).toInt32).toInt = 100 := rfl
  rw [a1, a2] at hy
  refine rv_run hC.1 hC.2.1 (T := rv_t_X12_tick) rv_k_X12_tick 1 ?_
  refine ⟨fun h => ?_, fun h => ?_⟩
  · have h : y.toInt = 0 := h
    exact no f H locs hh hT hLt k6 (by omega)
  · have h : ¬ y.toInt = 0 := h
    refine rv_run hC.1 hC.2.1 (T := rv_t_X12_tick) rv_k_X12_tick 80 ?_
    refine w_gn hC hh hT hG (by omega) (by decide +kernel) rfl (fun fs aN g e1 n1 n2 hLN eN tN eg => ?_)
    refine rv_run hC.1 hC.2.1 (T := rv_t_X12_tick) rv_k_X12_tick 80 ?_
    refine rm_iald hC hh (by decide +kernel) hLN eN rfl (by decide) (by decide) ?_
    refine rv_run hC.1 hC.2.1 (T := rv_t_X12_tick) rv_k_X12_tick 2 ?_
    refine rm_ldc (i := 223) (v := 99999) hC (by decide +kernel) (rk_tat_ok (i := 1350) (by decide +kernel)) ?_
    have e9 : rm_now G f a0 6457 = g 6457 := by rw [eg]
    have e8 : (99999 : Int32).toInt = 99999 := rfl
    have ez : (g 6457).toInt = z.toInt := by rw [← e9, k6]
    have e7 := rm_ad (x := g 6457) ez (y := n) (b := n.toInt) rfl (by omega) (by omega)
    refine rv_run hC.1 hC.2.1 (T := rv_t_X12_tick) rv_k_X12_tick 1 ?_
    refine ⟨fun h9 => ?_, fun h9 => ?_⟩
    · have h9 : (g 6457 + n).toInt ≤ (99999 : Int32).toInt := h9
      rw [e7, e8] at h9
      refine rv_run hC.1 hC.2.1 (T := rv_t_X12_tick) rv_k_X12_tick 2 ?_
      exact loop n.toInt.toNat _ 0 f H locs hh (by rw [show X + 3236 * ((0 : Nat) : Int) = X by omega]; exact hT) hLt hPI (by rw [k6]; omega) rfl (by omega) (by omega) (by omega) (by omega)
    · have h9 : ¬ (g 6457 + n).toInt ≤ (99999 : Int32).toInt := by
        first | exact h9 | exact Int.not_le.mpr h9
      rw [e7, e8] at h9
      exact no f H locs hh hT hLt k6 (by omega)
theorem h_lasts2 (a0 : Nat) (x y : Int32) : rm_Hm base l cI c1 c2 c3 c4 c5 D ad adV rk_q_X12_lasts [.ref a0, .int x, .int y] (fun G _ f => G a0 = some 12 ∧ rm_PI G f) (fun G _ f v u => (∃ x : Int32, v = some (.int x)) ∧ rm_K3 G f u a0) 1294400 359 := by
  unfold rm_Hm
  refine rm_start (M := rk_q_X12_lasts) (rk_hNw base ad adV) (rk_hNc base ad adV) (by decide +kernel) (mt := rk_mt [rk_q_X12_copies, rk_q_X12_isEnd, rk_q_X12_isIn, rk_q_X12_ofEnd, rk_q_X12_ticks]) (ml := rk_mlf [(292, 0, 3, 12), (127, 1, 2, 12), (104, 2, 4, 12), (50, 3, 3, 12), (224, 4, 1, 12)]) (fl := rk_flf rk_ftX12) (fun s args h hN => rk_MlOk_of (List.forall_mem_cons.mpr ⟨rk_mck_ok (fun w hw => List.mem_cons_of_mem _ hw) h hN rk_cm_X12_copies rk_lk_X12_292, List.forall_mem_cons.mpr ⟨rk_mck_ok (fun w hw => List.mem_cons_of_mem _ hw) h hN rk_cm_X12_isEnd rk_lk_X12_127, List.forall_mem_cons.mpr ⟨rk_mck_ok (fun w hw => List.mem_cons_of_mem _ hw) h hN rk_cm_X12_isIn rk_lk_X12_104, List.forall_mem_cons.mpr ⟨rk_mck_ok (fun w hw => List.mem_cons_of_mem _ hw) h hN rk_cm_X12_ofEnd rk_lk_X12_50, List.forall_mem_cons.mpr ⟨rk_mck_ok (fun w hw => List.mem_cons_of_mem _ hw) h hN rk_cm_X12_ticks rk_lk_X12_224, fun _ h => absurd h List.not_mem_nil⟩⟩⟩⟩⟩) (by decide +kernel)) (fun s args h hN => rk_flX12 (fun w hw => List.mem_cons_of_mem _ hw) h hN) (rm_cat1 rfl) (Nat.le_of_ble_eq_true rfl) ?_
  intro p e st m below meth c G X L f0 A hC hh hX0 hXC hT hpre
  have hcs : 0 ≤ 0 ∧ 0 ≤ 0 := ⟨Nat.le_refl 0, Nat.le_refl 0⟩
  obtain ⟨hG, hPI⟩ := hpre
  have hXt : X + 1294400 ≤ 2000000000 := hXC
  refine m_lasts_0 base l cI c1 c2 c3 c4 c5 D ad adV hC hcs hX0 (by show _ ≤ (2000000000 : Int); omega) hT hPI hh (fun v u hA hT2 hL2 => ?_) (fun i => if i = 0 then .ref a0 else if i = 1 then .int x else .int y) (fun i ty hi _ => ?_) (fun i ty hi => ?_) (fun r1 f H locs p0 p1 p2 hty hT hL hh => ?_)
  · obtain ⟨w, rfl⟩ := rk_alt_i hA rfl
    exact ⟨rk_TY_X (by omega) hT2, rm_lv_up hL2 rfl, ⟨w, rfl⟩, rm_K3_lv hL2 rfl rfl rfl hG⟩
  · rcases i with _ | _ | _ | i
    · exact List.mem_of_getElem? (i := 0) rfl
    · exact List.mem_of_getElem? (i := 1) rfl
    · exact List.mem_of_getElem? (i := 2) rfl
    · cases hi
  · rcases i with _ | _ | _ | i
    · cases hi
      exact ⟨a0, rfl, hG⟩
    · cases hi
      exact rk_full_ok x
    · cases hi
      exact rk_full_ok y
    · cases hi
  · have p0 : r1 0 = .ref a0 := p0
    have p1 : r1 1 = .int x := p1
    have p2 : r1 2 = .int y := p2
    obtain ⟨x9, ex, hx1, hx2⟩ := (hty 1 _ rfl : rk_has G (X + 0) (0, 0, 7) _)
    obtain ⟨y9, ey, hy1, hy2⟩ := (hty 2 _ rfl : rk_has G (X + 0) (0, 1, 20) _)
    rw [p1] at ex
    rw [p2] at ey
    cases ex
    cases ey
    rw [p0, p1, p2]
    rw [Int.add_zero] at hT
    have hLt := rm_lv_up (m := 359) hL rfl
    have hz := rm_K3_lv hL rfl rfl rfl hG
    have hPI := rm_PIok rfl _ _ _ hL hPI
    refine rv_run hC.1 hC.2.1 (T := rv_t_X12_lasts) rv_k_X12_lasts 80 ?_
    obtain ⟨hL0, fs, aN, aA, aT, aH, aI, e1, e2, ⟨n1, n2⟩, ⟨m1, m2⟩, -, -, ⟨i1, i2⟩, -⟩ := rm_me hT hG
    refine rm_get (idx := 7) hC hh (by decide +kernel) rfl hL0 e1 n1 ?_
    refine rv_run hC.1 hC.2.1 (T := rv_t_X12_lasts) rv_k_X12_lasts 80 ?_
    refine rm_get (idx := 13) hC hh (by decide +kernel) rfl hL0 e1 m1 ?_
    refine w_h hC hh hT hG (by omega) (by omega) 292 (by decide +kernel) rfl (h_copiesX_0 base l cI c1 c2 c3 c4 c5 D ad adV a0 aN aA) ⟨hG, n2, m2⟩ rfl rfl (Nat.le_of_ble_eq_true rfl) hcs (fun v f1 H locs hh hT hL hP => ?_)
    rw [Int.add_zero] at hT
    obtain ⟨rfl, y1, gF, g, y2, y3, y4⟩ := hP
    have hLt := rm_lv_tr (k := 359) hLt hL rfl rfl
    have hPI := rm_PIok rfl _ _ _ hL hPI
    have hz := rm_KA_cp0 hG hz e1 n1 n2 m1 m2 i1 i2 y1 y2 y3 y4
    refine m_lasts_38 base l cI c1 c2 c3 c4 c5 D ad adV hC hcs hX0 (by show _ ≤ (2000000000 : Int); omega) hT hPI hh (fun i => if i = 0 then .ref a0 else if i = 1 then .int x else .int y) (fun i ty hi _ => ?_) (fun i ty hi => ?_) (fun r1 f2 H locs p0 hty hT hL hh => ?_)
    · rcases i with _ | _ | _ | i
      · exact List.mem_of_getElem? (i := 0) rfl
      · exact List.mem_of_getElem? (i := 1) rfl
      · exact List.mem_of_getElem? (i := 2) rfl
      · cases hi
    · rcases i with _ | _ | _ | i
      · cases hi
        exact ⟨a0, rfl, hG⟩
      · cases hi
        exact ⟨x, rfl, hx1, hx2⟩
      · cases hi
        exact ⟨y, rfl, hy1, hy2⟩
      · cases hi
    · have p0 : r1 0 = .ref a0 := p0
      obtain ⟨v4, e4, -, -⟩ := (hty 4 _ rfl : rk_has G (X + 1294400) (0, 0, 400) _)
      obtain ⟨v5, e5, -, -⟩ := (hty 5 _ rfl : rk_has G (X + 1294400) (0, 0, 1) _)
      rw [p0, e4, e5]
      have hLt := rm_lv_tr (k := 359) hLt hL rfl rfl
      have q1 := rm_row_im hL rfl hG
      refine rv_run hC.1 hC.2.1 (T := rv_t_X12_lasts) rv_k_X12_lasts 80 ?_
      obtain ⟨hL0, fs, aN, aA, aT, aH, aI, e1, e2, ⟨n1, n2⟩, ⟨m1, m2⟩, -, -, ⟨i1, i2⟩, -⟩ := rm_me hT hG
      refine rm_get (idx := 13) hC hh (by decide +kernel) rfl hL0 e1 m1 ?_
      refine rv_run hC.1 hC.2.1 (T := rv_t_X12_lasts) rv_k_X12_lasts 80 ?_
      refine rm_get (idx := 7) hC hh (by decide +kernel) rfl hL0 e1 n1 ?_
      refine w_h hC hh hT hG (by omega) (by omega) 292 (by decide +kernel) rfl (h_copiesX_1 base l cI c1 c2 c3 c4 c5 D ad adV a0 aA aN) ⟨hG, m2, n2⟩ rfl rfl (Nat.le_of_ble_eq_true rfl) hcs (fun v f3 H locs hh hT hL hP => ?_)
      obtain ⟨rfl, y1, gF, g, y2, y3, y4⟩ := hP
      have hLt := rm_lv_tr (k := 359) hLt hL rfl rfl
      have hz := rm_K3_cp1 hG (f0 := f0) (f := f2) (fun j hj => (q1.2 j).trans (hz.2 j hj)) (fun j => (q1.1 j).trans (hz.1.2 j)) e1 n1 n2 m1 m2 i1 i2 y1 y2 y3 y4
      refine rv_run hC.1 hC.2.1 (T := rv_t_X12_lasts) rv_k_X12_lasts 2 ?_
      refine ⟨fun _ => ?_, fun _ => ?_⟩
      · refine rv_run hC.1 hC.2.1 (T := rv_t_X12_lasts) rv_k_X12_lasts 1 ?_
        refine rm_iret hC hh (by decide +kernel) rfl ⟨rk_TY_X (by omega) hT, hLt, ⟨_, rfl⟩, hz⟩
      · refine rv_run hC.1 hC.2.1 (T := rv_t_X12_lasts) rv_k_X12_lasts 2 ?_
        refine rm_iret hC hh (by decide +kernel) rfl ⟨rk_TY_X (by omega) hT, hLt, ⟨_, rfl⟩, hz⟩
theorem h_text3 (a0 : Nat) : rm_Hm base l cI c1 c2 c3 c4 c5 D ad adV rk_q_X12_text [.ref a0] (fun G _ f => G a0 = some 12 ∧ rm_one G ∧ rm_INV G f a0) (fun G _ f v u => (∃ x : Int32, v = some (.int x)) ∧ rm_K3 G f u a0) 2000 1911 := by
  unfold rm_Hm
  refine rm_start (M := rk_q_X12_text) (rk_hNw base ad adV) (rk_hNc base ad adV) (by decide +kernel) (mt := rk_mt [rk_q_X12_behindBlanks, rk_q_X12_copies, rk_q_X12_errs, rk_q_X12_readCable, rk_q_X12_readTable, rk_q_X12_sign, rk_q_X12_takesWord]) (ml := rk_mlf [(264, 0, 1, 12), (292, 1, 3, 12), (270, 2, 3, 12), (298, 3, 1, 12), (303, 4, 1, 12), (282, 5, 2, 12), (275, 6, 2, 12)]) (fl := rk_flf rk_ftX12) (fun s args h hN => rk_MlOk_of (List.forall_mem_cons.mpr ⟨rk_mck_ok (fun w hw => List.mem_cons_of_mem _ hw) h hN rk_cm_X12_behindBlanks rk_lk_X12_264, List.forall_mem_cons.mpr ⟨rk_mck_ok (fun w hw => List.mem_cons_of_mem _ hw) h hN rk_cm_X12_copies rk_lk_X12_292, List.forall_mem_cons.mpr ⟨rk_mck_ok (fun w hw => List.mem_cons_of_mem _ hw) h hN rk_cm_X12_errs rk_lk_X12_270, List.forall_mem_cons.mpr ⟨rk_mck_ok (fun w hw => List.mem_cons_of_mem _ hw) h hN rk_cm_X12_readCable rk_lk_X12_298, List.forall_mem_cons.mpr ⟨rk_mck_ok (fun w hw => List.mem_cons_of_mem _ hw) h hN rk_cm_X12_readTable rk_lk_X12_303, List.forall_mem_cons.mpr ⟨rk_mck_ok (fun w hw => List.mem_cons_of_mem _ hw) h hN rk_cm_X12_sign rk_lk_X12_282, List.forall_mem_cons.mpr ⟨rk_mck_ok (fun w hw => List.mem_cons_of_mem _ hw) h hN rk_cm_X12_takesWord rk_lk_X12_275, fun _ h => absurd h List.not_mem_nil⟩⟩⟩⟩⟩⟩⟩) (by decide +kernel)) (fun s args h hN => rk_flX12 (fun w hw => List.mem_cons_of_mem _ hw) h hN) (rm_cat1 rfl) (Nat.le_of_ble_eq_true rfl) ?_
  intro p e st m below meth c G X L f0 A hC hh hX0 hXC hT hpre
  have hcs : 0 ≤ 0 ∧ 0 ≤ 0 := ⟨Nat.le_refl 0, Nat.le_refl 0⟩
  obtain ⟨hG, h1, hI⟩ := hpre
  have hXt : X + 2000 ≤ 2000000000 := hXC
  have w1 : ∀ (Y : Int) (f u : Nat → va_E), rm_TY cI c1 c2 c3 c4 c5 ad G Y L u → rm_Lv G 3 f u → rm_fi f a0 9 = 1 → rm_fi u a0 9 = 1 := by
    intro Y f u hT hL h9
    have b9 := rm_fiT hT hG (i := 9) rfl
    have s9 := rm_sp3 hL hG
    omega
  have t124 : ∀ (n : Int32) (nn : Nat) (f : Nat → va_E) (H : Heap) (locs : List Loc), rm_h D A st L f H locs → rm_TY cI c1 c2 c3 c4 c5 ad G (X + 4 * (nn : Int)) L f → rm_Lv G 1911 f0 f → rm_INV G f a0 → rm_KA G f0 f a0 → n.toInt = (nn : Int) → ((rm_fi f a0 9 = 1 ∧ nn ≤ 401) ∨ (nn : Int) ≤ rm_fi f a0 7) → rv_G p l e { frames := rk_q_X12_text.2.2.2.2.1, cells := 0, slots := 0, locals := rk_q_X12_text.2.2.2.2.2 } st m ([.ref a0] : List Value).toArray below meth c (MQ below (rk_Q (fun v u => rm_TY cI c1 c2 c3 c4 c5 ad G (X + 2000) L u ∧ rm_Lv G 1911 f0 u ∧ (fun G _ f v u => (∃ x : Int32, v = some (.int x)) ∧ rm_K3 G f u a0) G X f0 v u) (rk_B D (rk_tys cI c1 c2 c3 c4 c5) L A) A) ([.ref a0] : List Value).toArray st 0 0 A) rk_q_X12_text.2.2.1 0 0 H locs 124 [] [(0, .ref a0), (1, .int n)] := by
    intro n nn f H locs hh hT hLt hI hz hn hj
    have b7 := rm_fiT hT hG (i := 7) rfl
    refine rv_run hC.1 hC.2.1 (T := rv_t_X12_text) rv_k_X12_text 80 ?_
    refine w_gf hC hh hT hG (by omega) 245 (by decide +kernel) rfl rfl (fun x hx hx2 => ?_)
    refine rv_run hC.1 hC.2.1 (T := rv_t_X12_text) rv_k_X12_text 1 ?_
    refine ⟨fun _ => ?_, fun h => ?_⟩
    · refine rv_run hC.1 hC.2.1 (T := rv_t_X12_text) rv_k_X12_text 80 ?_
      obtain ⟨hL0, fs, aN, aA, aT, aH, aI, e1, e2, ⟨n1, n2⟩, ⟨m1, m2⟩, -, -, ⟨i1, i2⟩, -⟩ := rm_me hT hG
      refine rm_get (idx := 13) hC hh (by decide +kernel) rfl hL0 e1 m1 ?_
      refine rv_run hC.1 hC.2.1 (T := rv_t_X12_text) rv_k_X12_text 80 ?_
      refine rm_get (idx := 7) hC hh (by decide +kernel) rfl hL0 e1 n1 ?_
      refine w_h hC hh hT hG (by omega) (by omega) 292 (by decide +kernel) rfl (h_copiesX_1 base l cI c1 c2 c3 c4 c5 D ad adV a0 aA aN) ⟨hG, m2, n2⟩ rfl rfl (Nat.le_of_ble_eq_true rfl) hcs (fun v f9 H locs hh hT hL hP => ?_)
      rw [Int.add_zero] at hT
      obtain ⟨rfl, y1, gF, g, y2, y3, y4⟩ := hP
      have hLt := rm_lv_tr (k := 1911) hLt hL rfl rfl
      have hz := rm_K3_cp1 hG (f0 := f0) (f := f) hz.2 hz.1.2 e1 n1 n2 m1 m2 i1 i2 y1 y2 y3 y4
      refine rv_run hC.1 hC.2.1 (T := rv_t_X12_text) rv_k_X12_text 1 ?_
      refine rm_iret hC hh (by decide +kernel) rfl ⟨rk_TY_X (by omega) hT, hLt, ⟨_, rfl⟩, hz⟩
    · have h : x.toInt = 0 := h
      refine rv_run hC.1 hC.2.1 (T := rv_t_X12_text) rv_k_X12_text 1 ?_
      refine rm_iret hC hh (by decide +kernel) rfl ⟨rk_TY_X (by omega) hT, hLt, ⟨n, rfl⟩, hz.1⟩
  have tW : ∀ (n : Int32) (nn : Nat) (f : Nat → va_E) (H : Heap) (locs : List Loc), rm_h D A st L f H locs → rm_TY cI c1 c2 c3 c4 c5 ad G (X + 4 * (nn : Int)) L f → rm_Lv G 1911 f0 f → rm_INV G f a0 → rm_KA G f0 f a0 → n.toInt = (nn : Int) → rm_fi f a0 9 = 1 → nn ≤ 401 → rv_G p l e { frames := rk_q_X12_text.2.2.2.2.1, cells := 0, slots := 0, locals := rk_q_X12_text.2.2.2.2.2 } st m ([.ref a0] : List Value).toArray below meth c (MQ below (rk_Q (fun v u => rm_TY cI c1 c2 c3 c4 c5 ad G (X + 2000) L u ∧ rm_Lv G 1911 f0 u ∧ (fun G _ f v u => (∃ x : Int32, v = some (.int x)) ∧ rm_K3 G f u a0) G X f0 v u) (rk_B D (rk_tys cI c1 c2 c3 c4 c5) L A) A) ([.ref a0] : List Value).toArray st 0 0 A) rk_q_X12_text.2.2.1 0 0 H locs 52 [] [(0, .ref a0), (1, .int n)] := by
    intro n nn f H locs hh hT hLt hI hz hn h9 h4
    refine rv_run hC.1 hC.2.1 (T := rv_t_X12_text) rv_k_X12_text 80 ?_
    refine w_gf hC hh hT hG (by omega) 245 (by decide +kernel) rfl rfl (fun x hx hx2 => ?_)
    refine rv_run hC.1 hC.2.1 (T := rv_t_X12_text) rv_k_X12_text 1 ?_
    refine ⟨fun _ => t124 n nn f H locs hh hT hLt hI hz hn (Or.inl ⟨h9, h4⟩), fun h => ?_⟩
    have h : x.toInt = 0 := h
    omega
  have step : ∀ d : Int, (0 < d → ∀ (n : Int32) (nn : Nat) (f : Nat → va_E) (H : Heap) (locs : List Loc), rm_h D A st L f H locs → rm_TY cI c1 c2 c3 c4 c5 ad G (X + 4 * (nn : Int)) L f → rm_Lv G 1911 f0 f → rm_INV G f a0 → rm_KA G f0 f a0 → n.toInt = (nn : Int) → (nn : Int) ≤ rm_fi f a0 7 → rm_fi f a0 8 - rm_fi f a0 7 < d → rv_G p l e { frames := rk_q_X12_text.2.2.2.2.1, cells := 0, slots := 0, locals := rk_q_X12_text.2.2.2.2.2 } st m ([.ref a0] : List Value).toArray below meth c (MQ below (rk_Q (fun v u => rm_TY cI c1 c2 c3 c4 c5 ad G (X + 2000) L u ∧ rm_Lv G 1911 f0 u ∧ (fun G _ f v u => (∃ x : Int32, v = some (.int x)) ∧ rm_K3 G f u a0) G X f0 v u) (rk_B D (rk_tys cI c1 c2 c3 c4 c5) L A) A) ([.ref a0] : List Value).toArray st 0 0 A) rk_q_X12_text.2.2.1 0 0 H locs 52 [] [(0, .ref a0), (1, .int n)]) → ∀ (n : Int32) (nn : Nat) (f : Nat → va_E) (H : Heap) (locs : List Loc), rm_h D A st L f H locs → rm_TY cI c1 c2 c3 c4 c5 ad G (X + 4 * (nn : Int)) L f → rm_Lv G 1911 f0 f → rm_INV G f a0 → rm_KA G f0 f a0 → n.toInt = (nn : Int) → (nn : Int) ≤ rm_fi f a0 7 → rm_fi f a0 8 - rm_fi f a0 7 ≤ d → rv_G p l e { frames := rk_q_X12_text.2.2.2.2.1, cells := 0, slots := 0, locals := rk_q_X12_text.2.2.2.2.2 } st m ([.ref a0] : List Value).toArray below meth c (MQ below (rk_Q (fun v u => rm_TY cI c1 c2 c3 c4 c5 ad G (X + 2000) L u ∧ rm_Lv G 1911 f0 u ∧ (fun G _ f v u => (∃ x : Int32, v = some (.int x)) ∧ rm_K3 G f u a0) G X f0 v u) (rk_B D (rk_tys cI c1 c2 c3 c4 c5) L A) A) ([.ref a0] : List Value).toArray st 0 0 A) rk_q_X12_text.2.2.1 0 0 H locs 52 [] [(0, .ref a0), (1, .int n)] := by
    intro d kk n nn f H locs hh hT hLt hI hz hn hj hm
    have b7 := rm_fiT hT hG (i := 7) rfl
    have t111 : ∀ (f : Nat → va_E) (H : Heap) (locs : List Loc), rm_h D A st L f H locs → rm_TY cI c1 c2 c3 c4 c5 ad G (X + 4 * (nn : Int) + 4) L f → rm_Lv G 1911 f0 f → rm_INV G f a0 → rm_KA G f0 f a0 → (rm_fi f a0 9 = 1 ∨ (0 < d ∧ (nn : Int) + 1 ≤ rm_fi f a0 7 ∧ rm_fi f a0 8 - rm_fi f a0 7 < d)) → rv_G p l e { frames := rk_q_X12_text.2.2.2.2.1, cells := 0, slots := 0, locals := rk_q_X12_text.2.2.2.2.2 } st m ([.ref a0] : List Value).toArray below meth c (MQ below (rk_Q (fun v u => rm_TY cI c1 c2 c3 c4 c5 ad G (X + 2000) L u ∧ rm_Lv G 1911 f0 u ∧ (fun G _ f v u => (∃ x : Int32, v = some (.int x)) ∧ rm_K3 G f u a0) G X f0 v u) (rk_B D (rk_tys cI c1 c2 c3 c4 c5) L A) A) ([.ref a0] : List Value).toArray st 0 0 A) rk_q_X12_text.2.2.1 0 0 H locs 111 [] [(0, .ref a0), (1, .int n)] := by
      intro f H locs hh hT hLt hI hz hj
      have en := rm_ad (x := n) hn rm_e1 (by omega) (by decide)
      refine rv_run hC.1 hC.2.1 (T := rv_t_X12_text) rv_k_X12_text 80 ?_
      refine w_h hC hh hT hG (by omega) (by omega) 282 (by decide +kernel) rfl (h_sign base l cI c1 c2 c3 c4 c5 D ad adV a0 _ (by decide)) hG rfl rfl (Nat.le_of_ble_eq_true rfl) hcs (fun v u H locs hh hT hL hP => ?_)
      rw [Int.add_zero] at hT
      have hP : v = none := hP
      subst hP
      have s1 := rm_sp hL hG
      have hLt := rm_lv_tr (k := 1911) hLt hL rfl rfl
      have hz := rm_KA_lv hL rfl rfl rfl hG hz
      have hI := rm_I1 hL hG hI
      have hT : rm_TY cI c1 c2 c3 c4 c5 ad G (X + 4 * ((nn + 1 : Nat) : Int)) L u := rk_TY_X (by omega) hT
      have b9 := rm_fiT hT hG (i := 9) rfl
      refine rv_run hC.1 hC.2.1 (T := rv_t_X12_text) rv_k_X12_text 5 ?_
      by_cases h9 : rm_fi u a0 9 = 1
      · exact tW _ (nn + 1) u H locs hh hT hLt hI hz (by rw [en]; omega) h9 (by omega)
      · obtain ⟨g1, g2, g3⟩ := hj.resolve_left (by omega)
        exact kk g1 _ (nn + 1) u H locs hh hT hLt hI hz (by rw [en]; omega) (by omega) (by omega)
    refine rv_run hC.1 hC.2.1 (T := rv_t_X12_text) rv_k_X12_text 80 ?_
    refine w_gf hC hh hT hG (by omega) 245 (by decide +kernel) rfl rfl (fun x hx hx2 => ?_)
    refine rv_run hC.1 hC.2.1 (T := rv_t_X12_text) rv_k_X12_text 1 ?_
    refine ⟨fun _ => t124 n nn f H locs hh hT hLt hI hz hn (Or.inr hj), fun _ => ?_⟩
    refine rv_run hC.1 hC.2.1 (T := rv_t_X12_text) rv_k_X12_text 80 ?_
    refine w_h hC hh hT hG (by omega) (by omega) 264 (by decide +kernel) rfl (h_behindBlanks base l cI c1 c2 c3 c4 c5 D ad adV a0) hG rfl rfl (Nat.le_of_ble_eq_true rfl) hcs (fun v f1 H locs hh hT hL hP => ?_)
    rw [Int.add_zero] at hT
    obtain ⟨y, rfl, hy1, hy2, hy3, -⟩ := hP
    have s1 := rm_sp hL hG
    have hLt := rm_lv_tr (k := 1911) hLt hL rfl rfl
    have hz := rm_KA_lv hL rfl rfl rfl hG hz
    have hI := rm_I1 hL hG hI
    refine rv_run hC.1 hC.2.1 (T := rv_t_X12_text) rv_k_X12_text 2 ?_
    refine ⟨fun _ => t124 n nn f1 H locs hh hT hLt hI hz hn (Or.inr (by omega)), fun h => ?_⟩
    have h : ¬ y.toInt = -1 := h
    have hlt := hy3.resolve_right h
    refine rv_run hC.1 hC.2.1 (T := rv_t_X12_text) rv_k_X12_text 80 ?_
    refine rj_ldcw (idx := 296) (i := 0) (tx := "cable") hC (by decide +kernel) (by decide) ?_
    refine w_h hC hh hT hG (by omega) (by omega) 275 (by decide +kernel) rfl (h_takesWord base l cI c1 c2 c3 c4 c5 D ad adV a0 0 (by decide)) hG rfl rfl (Nat.le_of_ble_eq_true rfl) hcs (fun v f2 H locs hh hT hL hP => ?_)
    rw [Int.add_zero] at hT
    obtain ⟨w, rfl, hw⟩ := hP
    have s2 := rm_sp hL hG
    have hLt := rm_lv_tr (k := 1911) hLt hL rfl rfl
    have hz := rm_KA_lv hL rfl rfl rfl hG hz
    have hI := rm_I1 hL hG hI
    refine rv_run hC.1 hC.2.1 (T := rv_t_X12_text) rv_k_X12_text 1 ?_
    refine ⟨fun _ => ?_, fun h => ?_⟩
    · refine rv_run hC.1 hC.2.1 (T := rv_t_X12_text) rv_k_X12_text 80 ?_
      refine rj_ldcw (idx := 301) (i := 1) (tx := "table") hC (by decide +kernel) (by decide) ?_
      refine w_h hC hh hT hG (by omega) (by omega) 275 (by decide +kernel) rfl (h_takesWord base l cI c1 c2 c3 c4 c5 D ad adV a0 1 (by decide)) hG rfl rfl (Nat.le_of_ble_eq_true rfl) hcs (fun v f3 H locs hh hT hL hP => ?_)
      rw [Int.add_zero] at hT
      obtain ⟨w, rfl, hw⟩ := hP
      have s3 := rm_sp hL hG
      have hLt := rm_lv_tr (k := 1911) hLt hL rfl rfl
      have hz := rm_KA_lv hL rfl rfl rfl hG hz
      have hI := rm_I1 hL hG hI
      refine rv_run hC.1 hC.2.1 (T := rv_t_X12_text) rv_k_X12_text 1 ?_
      refine ⟨fun _ => ?_, fun h => ?_⟩
      · refine rv_run hC.1 hC.2.1 (T := rv_t_X12_text) rv_k_X12_text 80 ?_
        refine w_gf hC hh hT hG (by omega) 236 (by decide +kernel) rfl rfl (fun z9 hz9 hz8 => ?_)
        refine w_h hC hh hT hG (by omega) (by omega) 270 (by decide +kernel) rfl (h_errs base l cI c1 c2 c3 c4 c5 D ad adV a0 _ _) hG rfl rfl (Nat.le_of_ble_eq_true rfl) hcs (fun v f H locs hh hT hL hP => ?_)
        rw [Int.add_zero] at hT
        obtain ⟨⟨x9, rfl, -⟩, h9, -⟩ := hP
        have hLt := rm_lv_tr (k := 1911) hLt hL rfl rfl
        have hz := rm_KA_lv hL rfl rfl rfl hG hz
        have hI := rm_I1 hL hG hI
        refine rv_run hC.1 hC.2.1 (T := rv_t_X12_text) rv_k_X12_text 1 ?_
        exact t111 f H locs hh (rk_TY_X (by omega) hT) hLt hI hz (Or.inl h9)
      · have h : ¬ w.toInt = 0 := h
        have hw := hw.resolve_left h
        refine rv_run hC.1 hC.2.1 (T := rv_t_X12_text) rv_k_X12_text 80 ?_
        refine w_h hC hh hT hG (by omega) (by omega) 303 (by decide +kernel) rfl (h_readTable base l cI c1 c2 c3 c4 c5 D ad adV a0) hG rfl rfl (Nat.le_of_ble_eq_true rfl) hcs (fun v f4 H locs hh hT hL hP => ?_)
        rw [Int.add_zero] at hT
        have hP : v = none := hP
        subst hP
        have s4 := rm_sp hL hG
        have hLt := rm_lv_tr (k := 1911) hLt hL rfl rfl
        have hz := rm_KA_lv hL rfl rfl rfl hG hz
        have hI := rm_I1 hL hG hI
        refine rv_run hC.1 hC.2.1 (T := rv_t_X12_text) rv_k_X12_text 1 ?_
        exact t111 f4 H locs hh (rk_TY_X (by omega) hT) hLt hI hz (Or.inr ⟨by omega, by omega, by omega⟩)
    · have h : ¬ w.toInt = 0 := h
      have hw := hw.resolve_left h
      refine rv_run hC.1 hC.2.1 (T := rv_t_X12_text) rv_k_X12_text 80 ?_
      refine w_kI hC hh hT hG (by omega) (by omega) 298 (by decide +kernel) rfl (c_X12_readCable base l cI c1 c2 c3 c4 c5 D ad adV) (rk_all_c (rk_aM hG) rk_all_0) (rm_PI_of h1 hG hI) rfl rfl (Nat.le_of_ble_eq_true rfl) hcs (fun v f4 H locs hh hT hL hA => ?_)
      cases rk_alt_vn hA
      have s4 := rm_sp3 hL hG
      have hLt := rm_lv_tr (k := 1911) hLt hL rfl rfl
      have hz := rm_KA_lv hL rfl rfl rfl hG hz
      have hI := rm_I3 hL h1 hG hI
      refine rv_run hC.1 hC.2.1 (T := rv_t_X12_text) rv_k_X12_text 1 ?_
      exact t111 f4 H locs hh hT hLt hI hz (Or.inr ⟨by omega, by omega, by omega⟩)
  have loop : ∀ (d : Nat) (n : Int32) (nn : Nat) (f : Nat → va_E) (H : Heap) (locs : List Loc), rm_h D A st L f H locs → rm_TY cI c1 c2 c3 c4 c5 ad G (X + 4 * (nn : Int)) L f → rm_Lv G 1911 f0 f → rm_INV G f a0 → rm_KA G f0 f a0 → n.toInt = (nn : Int) → (nn : Int) ≤ rm_fi f a0 7 → rm_fi f a0 8 - rm_fi f a0 7 ≤ (d : Int) → rv_G p l e { frames := rk_q_X12_text.2.2.2.2.1, cells := 0, slots := 0, locals := rk_q_X12_text.2.2.2.2.2 } st m ([.ref a0] : List Value).toArray below meth c (MQ below (rk_Q (fun v u => rm_TY cI c1 c2 c3 c4 c5 ad G (X + 2000) L u ∧ rm_Lv G 1911 f0 u ∧ (fun G _ f v u => (∃ x : Int32, v = some (.int x)) ∧ rm_K3 G f u a0) G X f0 v u) (rk_B D (rk_tys cI c1 c2 c3 c4 c5) L A) A) ([.ref a0] : List Value).toArray st 0 0 A) rk_q_X12_text.2.2.1 0 0 H locs 52 [] [(0, .ref a0), (1, .int n)] := by
    intro d
    induction d with
    | zero =>
      intro n nn f H locs hh hT hLt hI hz hn hj hm
      exact step 0 (fun h => absurd h (by decide)) n nn f H locs hh hT hLt hI hz hn hj hm
    | succ d ih =>
      intro n nn f H locs hh hT hLt hI hz hn hj hm
      exact step ((d : Int) + 1) (fun _ n nn f H locs hh hT hLt hI hz hn hj hm => ih n nn f H locs hh hT hLt hI hz hn hj (by omega)) n nn f H locs hh hT hLt hI hz hn hj (by omega)
  refine rv_run hC.1 hC.2.1 (T := rv_t_X12_text) rv_k_X12_text 80 ?_
  refine w_pf hC hh hT hG (by omega) 1 29 (by decide +kernel) rfl rfl (Or.inl ⟨rfl, _, rfl⟩) ⟨_, rfl, by decide, by decide⟩ rfl (by decide) (fun f H locs hh hT hL hP => ?_)
  have hLt := rm_lv_up (m := 1911) hL rfl
  have hz := rm_K3_lv hL rfl rfl rfl hG
  have hI := rm_INV_eq (rm_lvb hL (by decide) rfl : rm_Rb 1 G _ _) (rm_lvb hL (by decide) rfl : rm_Rb 8 G _ _) hG hI
  refine rv_run hC.1 hC.2.1 (T := rv_t_X12_text) rv_k_X12_text 80 ?_
  refine w_pf hC hh hT hG (by omega) 513 236 (by decide +kernel) rfl rfl (Or.inl ⟨rfl, _, rfl⟩) ⟨_, rfl, by decide, by decide⟩ rfl (by decide) (fun f H locs hh hT hL hP => ?_)
  have hLt := rm_lv_tr (k := 1911) hLt hL rfl rfl
  have hz := rm_K3_tr hz (rm_K3_lv hL rfl rfl rfl hG)
  have hI := rm_INV_eq (rm_lvb hL (by decide) rfl : rm_Rb 1 G _ _) (rm_lvb hL (by decide) rfl : rm_Rb 8 G _ _) hG hI
  refine rv_run hC.1 hC.2.1 (T := rv_t_X12_text) rv_k_X12_text 80 ?_
  refine w_gf hC hh hT hG (by omega) 227 (by decide +kernel) rfl rfl (fun x hx hx2 => ?_)
  refine w_pf hC hh hT hG (by omega) 513 239 (by decide +kernel) rfl rfl (Or.inl ⟨rfl, _, rfl⟩) ⟨_, rfl, hx2.1, hx2.2⟩ rfl (by decide) (fun f H locs hh hT hL hP => ?_)
  have hLt := rm_lv_tr (k := 1911) hLt hL rfl rfl
  have hz := rm_K3_tr hz (rm_K3_lv hL rfl rfl rfl hG)
  have hI := rm_INV_eq (rm_lvb hL (by decide) rfl : rm_Rb 1 G _ _) (rm_lvb hL (by decide) rfl : rm_Rb 8 G _ _) hG hI
  refine rv_run hC.1 hC.2.1 (T := rv_t_X12_text) rv_k_X12_text 80 ?_
  refine w_pf hC hh hT hG (by omega) 17 227 (by decide +kernel) rfl rfl (Or.inl ⟨rfl, _, rfl⟩) ⟨_, rfl, by decide, by decide⟩ rfl (by decide) (fun f H locs hh hT hL hP => ?_)
  have hLt := rm_lv_tr (k := 1911) hLt hL rfl rfl
  have hz := rm_K3_tr hz (rm_K3_lv hL rfl rfl rfl hG)
  have hI := rm_INV_eq (rm_lvb hL (by decide) rfl : rm_Rb 1 G _ _) (rm_lvb hL (by decide) rfl : rm_Rb 8 G _ _) hG hI
  refine rv_run hC.1 hC.2.1 (T := rv_t_X12_text) rv_k_X12_text 80 ?_
  refine w_pf hC hh hT hG (by omega) 1025 245 (by decide +kernel) rfl rfl (Or.inr ⟨rfl, Or.inl rfl⟩) ⟨_, rfl, by decide, by decide⟩ rfl (by decide) (fun f H locs hh hT hL hP => ?_)
  have hLt := rm_lv_tr (k := 1911) hLt hL rfl rfl
  have hz := rm_K3_tr hz (rm_K3_lv hL rfl rfl rfl hG)
  have hI := rm_INV_eq (rm_lvb hL (by decide) rfl : rm_Rb 1 G _ _) (rm_lvb hL (by decide) rfl : rm_Rb 8 G _ _) hG hI
  refine rv_run hC.1 hC.2.1 (T := rv_t_X12_text) rv_k_X12_text 80 ?_
  refine w_pf hC hh hT hG (by omega) 1 249 (by decide +kernel) rfl rfl (Or.inl ⟨rfl, _, rfl⟩) (rk_full_ok _) rfl (by decide) (fun f H locs hh hT hL hP => ?_)
  have hLt := rm_lv_tr (k := 1911) hLt hL rfl rfl
  have hz := rm_K3_tr hz (rm_K3_lv hL rfl rfl rfl hG)
  have hI := rm_INV_eq (rm_lvb hL (by decide) rfl : rm_Rb 1 G _ _) (rm_lvb hL (by decide) rfl : rm_Rb 8 G _ _) hG hI
  refine rv_run hC.1 hC.2.1 (T := rv_t_X12_text) rv_k_X12_text 80 ?_
  refine w_pf hC hh hT hG (by omega) 1 19 (by decide +kernel) rfl rfl (Or.inl ⟨rfl, _, rfl⟩) (rk_full_ok _) rfl (by decide) (fun f H locs hh hT hL hP => ?_)
  have hLt := rm_lv_tr (k := 1911) hLt hL rfl rfl
  have hz := rm_K3_tr hz (rm_K3_lv hL rfl rfl rfl hG)
  have hI := rm_INV_eq (rm_lvb hL (by decide) rfl : rm_Rb 1 G _ _) (rm_lvb hL (by decide) rfl : rm_Rb 8 G _ _) hG hI
  refine rv_run hC.1 hC.2.1 (T := rv_t_X12_text) rv_k_X12_text 80 ?_
  obtain ⟨hL0, fs, aN, aA, aT, aH, aI, e1, e2, ⟨n1, n2⟩, ⟨m1, m2⟩, -, -, ⟨i1, i2⟩, -⟩ := rm_me hT hG
  refine rm_get (idx := 7) hC hh (by decide +kernel) rfl hL0 e1 n1 ?_
  refine rv_run hC.1 hC.2.1 (T := rv_t_X12_text) rv_k_X12_text 80 ?_
  refine rm_get (idx := 13) hC hh (by decide +kernel) rfl hL0 e1 m1 ?_
  refine w_h hC hh hT hG (by omega) (by omega) 292 (by decide +kernel) rfl (h_copiesX_0 base l cI c1 c2 c3 c4 c5 D ad adV a0 aN aA) ⟨hG, n2, m2⟩ rfl rfl (Nat.le_of_ble_eq_true rfl) hcs (fun v f9 H locs hh hT hL hP => ?_)
  rw [Int.add_zero] at hT
  obtain ⟨rfl, y1, gF, g, y2, y3, y4⟩ := hP
  have hLt := rm_lv_tr (k := 1911) hLt hL rfl rfl
  have hz := rm_KA_cp0 hG hz e1 n1 n2 m1 m2 i1 i2 y1 y2 y3 y4
  have hI := (rm_lvb hL (by decide) rfl : rm_Rb 3 G _ f9) h1 a0 hG hI
  have b7 := rm_fiT hT hG (i := 7) rfl
  have b8 := rm_fiT hT hG (i := 8) rfl
  refine rv_run hC.1 hC.2.1 (T := rv_t_X12_text) rv_k_X12_text 2 ?_
  exact loop 400 _ 0 f9 H locs hh (rk_TY_X (by omega) hT) hLt hI hz rfl (by omega) (by omega)
theorem h_image3 (a0 : Nat) (t : Int32) : rm_Hm base l cI c1 c2 c3 c4 c5 D ad adV rk_q_X12_image [.ref a0, .int t] (fun G _ f => G a0 = some 12) (fun G _ f v u => ∃ x : Int32, v = some (.int x) ∧ ((t.toInt = 0 ∧ rm_fi f a0 11 = 0 ∧ x.toInt = 0 ∧ rm_fi u a0 11 = 0 ∧ rm_K3 G f u a0) ∨ (x.toInt = 1 ∧ rm_fi u a0 11 = 1 ∧ ((¬ t.toInt = 0 ∧ ∀ j, rm_TH j = true → rm_now G u a0 j = rm_now G f a0 j ∧ rm_img G u a0 j = rm_now G f a0 j) ∨ (t.toInt = 0 ∧ ¬ rm_fi f a0 11 = 0 ∧ ∀ j, rm_TH j = true → rm_now G u a0 j = rm_img G f a0 j ∧ rm_img G u a0 j = rm_img G f a0 j))))) 0 487 := by
  unfold rm_Hm
  refine rm_start (M := rk_q_X12_image) (rk_hNw base ad adV) (rk_hNc base ad adV) (by decide +kernel) (mt := rk_mt [rk_q_X12_copies]) (ml := rk_mlf [(292, 0, 3, 12)]) (fl := rk_flf rk_ftX12) (fun s args h hN => rk_MlOk_of (List.forall_mem_cons.mpr ⟨rk_mck_ok (fun w hw => List.mem_cons_of_mem _ hw) h hN rk_cm_X12_copies rk_lk_X12_292, fun _ h => absurd h List.not_mem_nil⟩) (by decide +kernel)) (fun s args h hN => rk_flX12 (fun w hw => List.mem_cons_of_mem _ hw) h hN) (rm_cat1 rfl) (Nat.le_of_ble_eq_true rfl) ?_
  intro p e st m below meth c G X L f0 A hC hh hX0 hXC hT hpre
  have hcs : 0 ≤ 0 ∧ 0 ≤ 0 := ⟨Nat.le_refl 0, Nat.le_refl 0⟩
  have hG : G a0 = some 12 := hpre
  have t18 : ∀ (f : Nat → va_E) (H : Heap) (locs : List Loc), rm_h D A st L f H locs → rm_TY cI c1 c2 c3 c4 c5 ad G X L f → rm_Lv G 487 f0 f → rm_K3 G f0 f a0 → (¬ t.toInt = 0 ∨ (t.toInt = 0 ∧ ¬ rm_fi f0 a0 11 = 0)) → rv_G p l e { frames := rk_q_X12_image.2.2.2.2.1, cells := 0, slots := 0, locals := rk_q_X12_image.2.2.2.2.2 } st m ([.ref a0, .int t] : List Value).toArray below meth c (MQ below (rk_Q (fun v u => rm_TY cI c1 c2 c3 c4 c5 ad G (X + 0) L u ∧ rm_Lv G 487 f0 u ∧ (fun G _ f v u => ∃ x : Int32, v = some (.int x) ∧ ((t.toInt = 0 ∧ rm_fi f a0 11 = 0 ∧ x.toInt = 0 ∧ rm_fi u a0 11 = 0 ∧ rm_K3 G f u a0) ∨ (x.toInt = 1 ∧ rm_fi u a0 11 = 1 ∧ ((¬ t.toInt = 0 ∧ ∀ j, rm_TH j = true → rm_now G u a0 j = rm_now G f a0 j ∧ rm_img G u a0 j = rm_now G f a0 j) ∨ (t.toInt = 0 ∧ ¬ rm_fi f a0 11 = 0 ∧ ∀ j, rm_TH j = true → rm_now G u a0 j = rm_img G f a0 j ∧ rm_img G u a0 j = rm_img G f a0 j))))) G X f0 v u) (rk_B D (rk_tys cI c1 c2 c3 c4 c5) L A) A) ([.ref a0, .int t] : List Value).toArray st 0 0 A) rk_q_X12_image.2.2.1 0 0 H locs 18 [] [(0, .ref a0), (1, .int t)] := by
    intro f H locs hh hT hLt hz hj
    refine rv_run hC.1 hC.2.1 (T := rv_t_X12_image) rv_k_X12_image 80 ?_
    refine w_pf hC hh hT hG (by omega) 129 330 (by decide +kernel) rfl rfl (Or.inr ⟨rfl, Or.inr rfl⟩) ⟨_, rfl, by decide, by decide⟩ rfl (by decide) (fun f H locs hh hT hL hP => ?_)
    have k7 : rm_fi f a0 11 = 1 := rm_fi_of hP.1
    have hLt := rm_lv_tr (k := 487) hLt hL rfl rfl
    have hz := rm_K3_tr hz (rm_K3_lv hL rfl rfl rfl hG)
    refine rv_run hC.1 hC.2.1 (T := rv_t_X12_image) rv_k_X12_image 2 ?_
    refine ⟨fun h => ?_, fun h => ?_⟩
    · have h : t.toInt = 0 := h
      refine rv_run hC.1 hC.2.1 (T := rv_t_X12_image) rv_k_X12_image 80 ?_
      obtain ⟨hL0, fs, aN, aA, aT, aH, aI, e1, e2, ⟨n1, n2⟩, ⟨m1, m2⟩, -, -, ⟨i1, i2⟩, -⟩ := rm_me hT hG
      refine rm_get (idx := 26) hC hh (by decide +kernel) rfl hL0 e1 i1 ?_
      refine rv_run hC.1 hC.2.1 (T := rv_t_X12_image) rv_k_X12_image 80 ?_
      refine rm_get (idx := 7) hC hh (by decide +kernel) rfl hL0 e1 n1 ?_
      refine w_h hC hh hT hG (by omega) (by omega) 292 (by decide +kernel) rfl (h_copiesX_3 base l cI c1 c2 c3 c4 c5 D ad adV a0 aI aN) ⟨hG, i2, n2⟩ rfl rfl (Nat.le_of_ble_eq_true rfl) hcs (fun v f2 H locs hh hT hL hP => ?_)
      rw [Int.add_zero] at hT
      obtain ⟨rfl, y1, gF, g, y2, y3, y4⟩ := hP
      have k8 := (rm_fi_i hL rfl hG).trans k7
      have q2 : rm_img G f2 a0 = rm_img G f a0 := rm_cpk hG e1 i1 i2 n2 (by decide) (by decide) y1
      have q3 : ∀ j, j < 6466 → rm_now G f2 a0 j = rm_img G f a0 j := rm_cpr hG e1 i1 i2 n1 n2 (by decide) y1 y2 y3 y4
      refine rv_run hC.1 hC.2.1 (T := rv_t_X12_image) rv_k_X12_image 1 ?_
      refine rm_zret hC hh (by decide +kernel) rfl (Or.inr rfl) ⟨by rw [Int.add_zero]; exact hT, rm_lv_tr (k := 487) hLt hL rfl rfl, ⟨_, rfl, Or.inr ⟨rfl, k8, Or.inr ⟨h, (hj.resolve_left (fun h9 => h9 h)).2, fun j hj9 => ⟨(q3 j (rm_TH_lt hj9)).trans (hz.2 j), by rw [q2]; exact hz.2 j⟩⟩⟩⟩⟩
    · have h : ¬ t.toInt = 0 := h
      refine rv_run hC.1 hC.2.1 (T := rv_t_X12_image) rv_k_X12_image 80 ?_
      obtain ⟨hL0, fs, aN, aA, aT, aH, aI, e1, e2, ⟨n1, n2⟩, ⟨m1, m2⟩, -, -, ⟨i1, i2⟩, -⟩ := rm_me hT hG
      refine rm_get (idx := 7) hC hh (by decide +kernel) rfl hL0 e1 n1 ?_
      refine rv_run hC.1 hC.2.1 (T := rv_t_X12_image) rv_k_X12_image 80 ?_
      refine rm_get (idx := 26) hC hh (by decide +kernel) rfl hL0 e1 i1 ?_
      refine w_h hC hh hT hG (by omega) (by omega) 292 (by decide +kernel) rfl (h_copiesX_2 base l cI c1 c2 c3 c4 c5 D ad adV a0 aN aI) ⟨hG, n2, i2⟩ rfl rfl (Nat.le_of_ble_eq_true rfl) hcs (fun v f2 H locs hh hT hL hP => ?_)
      rw [Int.add_zero] at hT
      obtain ⟨rfl, y1, gF, g, y2, y3, y4⟩ := hP
      have k8 := (rm_fi_i hL rfl hG).trans k7
      have q2 : rm_now G f2 a0 = rm_now G f a0 := rm_cpk hG e1 n1 n2 i2 (by decide) (by decide) y1
      have q3 : ∀ j, j < 6466 → rm_img G f2 a0 j = rm_now G f a0 j := rm_cpr hG e1 n1 n2 i1 i2 (by decide) y1 y2 y3 y4
      refine rv_run hC.1 hC.2.1 (T := rv_t_X12_image) rv_k_X12_image 2 ?_
      refine rm_zret hC hh (by decide +kernel) rfl (Or.inr rfl) ⟨by rw [Int.add_zero]; exact hT, rm_lv_tr (k := 487) hLt hL rfl rfl, ⟨_, rfl, Or.inr ⟨rfl, k8, Or.inl ⟨h, fun j hj9 => ⟨by rw [q2]; exact hz.1 j hj9, (q3 j (rm_TH_lt hj9)).trans (hz.1 j hj9)⟩⟩⟩⟩⟩
  refine rv_run hC.1 hC.2.1 (T := rv_t_X12_image) rv_k_X12_image 80 ?_
  refine w_pf hC hh hT hG (by omega) 1 29 (by decide +kernel) rfl rfl (Or.inl ⟨rfl, _, rfl⟩) ⟨_, rfl, by decide, by decide⟩ rfl (by decide) (fun f H locs hh hT hL hP => ?_)
  have hLt := rm_lv_up (m := 487) hL rfl
  have hz := rm_K3_lv hL rfl rfl rfl hG
  have k7 := rm_fi_i hL rfl hG
  refine rv_run hC.1 hC.2.1 (T := rv_t_X12_image) rv_k_X12_image 2 ?_
  refine ⟨fun h => t18 f H locs hh hT hLt hz (Or.inl h), fun h => ?_⟩
  have ht : t.toInt = 0 := by
    first | exact h | exact Classical.not_not.mp h
  refine rv_run hC.1 hC.2.1 (T := rv_t_X12_image) rv_k_X12_image 80 ?_
  refine w_gf hC hh hT hG (by omega) 330 (by decide +kernel) rfl rfl (fun x hx hb => ?_)
  refine rv_run hC.1 hC.2.1 (T := rv_t_X12_image) rv_k_X12_image 1 ?_
  refine ⟨fun h => ?_, fun h => ?_⟩
  · have h : ¬ x.toInt = 0 := h
    exact t18 f H locs hh hT hLt hz (Or.inr ⟨ht, by omega⟩)
  · have h : x.toInt = 0 := by
      first | exact h | exact Classical.not_not.mp h
    refine rv_run hC.1 hC.2.1 (T := rv_t_X12_image) rv_k_X12_image 1 ?_
    refine rm_zret hC hh (by decide +kernel) rfl (Or.inl rfl) ⟨by rw [Int.add_zero]; exact hT, hLt, ⟨_, rfl, Or.inl ⟨ht, by omega, rfl, by omega, hz⟩⟩⟩
end RMX
