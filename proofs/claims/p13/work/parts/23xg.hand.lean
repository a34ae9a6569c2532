def rv_t_X12_onward : rv_T := (.branch 0 (.branch 0 (.branch 0 (.branch 0 (.branch 0 (.branch 0 (.branch 0 (.leaf (0, .iconst 1, 1)) (.leaf (64, .aload_n 0, 1))) (.leaf (32, .bipush (32), 2))) (.leaf (80, .goto (-78), 3))) (.branch 0 (.branch 0 (.branch 0 (.leaf (8, .aload_n 0, 1)) (.leaf (72, .if_icmp .ne (5), 3))) (.leaf (99999, .nop, 1))) (.leaf (24, .iload_n 1, 1)))) (.branch 0 (.branch 0 (.branch 0 (.leaf (68, .iload_n 1, 1)) (.leaf (36, .if_icmp .ne (41), 3))) (.branch 0 (.branch 0 (.leaf (20, .aload_n 0, 1)) (.leaf (84, .ireturn, 1))) (.leaf (99999, .nop, 1)))) (.branch 0 (.branch 0 (.branch 0 (.leaf (12, .imul, 1)) (.leaf (76, .ireturn, 1))) (.leaf (44, .ifCond .lt (33), 3))) (.leaf (60, .bipush (8), 2))))) (.branch 0 (.branch 0 (.branch 0 (.branch 0 (.leaf (2, .iload_n 3, 1)) (.leaf (34, .iload_n 2, 1))) (.leaf (18, .istore 4, 2))) (.branch 0 (.leaf (42, .iload 4, 2)) (.branch 0 (.leaf (26, .iconst 1, 1)) (.leaf (58, .iload 4, 2))))) (.branch 0 (.branch 0 (.leaf (70, .iconst 1, 1)) (.leaf (54, .aload_n 0, 1))) (.branch 0 (.leaf (14, .iadd, 1)) (.branch 0 (.leaf (30, .iload 4, 2)) (.leaf (62, .idiv, 1))))))) (.branch 0 (.branch 0 (.branch 0 (.branch 0 (.branch 0 (.branch 0 (.leaf (1, .istore_n 3, 1)) (.leaf (65, .getfield 23, 3))) (.leaf (99999, .nop, 1))) (.leaf (49, .bipush (32), 2))) (.branch 0 (.leaf (9, .bipush (8), 2)) (.leaf (25, .iaload, 1)))) (.branch 0 (.branch 0 (.branch 0 (.branch 0 (.leaf (5, .if_icmp .ge (78), 3)) (.leaf (69, .iaload, 1))) (.leaf (99999, .nop, 1))) (.leaf (21, .getfield 23, 3))) (.branch 0 (.branch 0 (.branch 0 (.leaf (13, .iload_n 3, 1)) (.leaf (77, .iinc 3 (1), 3))) (.leaf (99999, .nop, 1))) (.leaf (99999, .nop, 1))))) (.branch 0 (.branch 0 (.branch 0 (.branch 0 (.leaf (3, .bipush (8), 2)) (.leaf (35, .iadd, 1))) (.branch 0 (.leaf (83, .iconst (-1), 1)) (.leaf (51, .if_icmp .ge (26), 3)))) (.branch 0 (.branch 0 (.branch 0 (.leaf (11, .iload_n 1, 1)) (.leaf (75, .iload_n 3, 1))) (.leaf (99999, .nop, 1))) (.leaf (27, .if_icmp .ne (15), 3)))) (.branch 0 (.branch 0 (.branch 0 (.leaf (71, .isub, 1)) (.leaf (39, .goto (36), 3))) (.leaf (55, .getfield 23, 3))) (.branch 0 (.branch 0 (.leaf (15, .invokevirtual 97, 3)) (.leaf (47, .iload 4, 2))) (.leaf (63, .iaload, 1)))))))
theorem rv_k_X12_onward : rv_tok cX12_onward rv_t_X12_onward = true := by decide +kernel
section RMX
variable (base : Nat) (l : Launch) (cI c1 c2 c3 c4 c5 : ClassId) (D : va_G) (ad adV : Nat → Nat)
theorem h_onward (a0 : Nat) (x y : Int32) (rn tn : Nat) (hx : x.toInt = (rn : Int)) (hrn : rn < 4) (hy : y.toInt = (tn : Int)) (htn : tn < 8) : rm_Hm base l cI c1 c2 c3 c4 c5 D ad adV rk_q_X12_onward [.ref a0, .int x, .int y] (fun G _ f => G a0 = some 12 ∧ ∃ p, 1 ≤ p ∧ p < 8 ∧ wy_on (rm_now G f a0) tn (rm_rw G f a0 10 33) rn p) (fun G _ f v u => (∃ (z : Int32) (p : Nat), v = some (.int z) ∧ z.toInt = (p : Int) ∧ 1 ≤ p ∧ p < 8 ∧ wy_on (rm_now G f a0) tn (rm_rw G f a0 10 33) rn p) ∧ u = f) 0 0 := by
  unfold rm_Hm
  refine rm_start (M := rk_q_X12_onward) (rk_hNw base ad adV) (rk_hNc base ad adV) (by decide +kernel) (mt := rk_mt [rk_q_X12_otherOf]) (ml := rk_mlf [(97, 0, 2, 12)]) (fl := rk_flf rk_ftX12) (fun s args h hN => rk_MlOk_of (List.forall_mem_cons.mpr ⟨rk_mck_ok (fun w hw => List.mem_cons_of_mem _ hw) h hN rk_cm_X12_otherOf rk_lk_X12_97, fun _ h => absurd h List.not_mem_nil⟩) (by decide +kernel)) (fun s args h hN => rk_flX12 (fun w hw => List.mem_cons_of_mem _ hw) h hN) (rm_cat1 rfl) (Nat.le_of_ble_eq_true rfl) ?_
  intro p e st m below meth c G X L f0 A hC hh hX0 hXC hT hpre
  have hcs : 0 ≤ 0 ∧ 0 ≤ 0 := ⟨Nat.le_refl 0, Nat.le_refl 0⟩
  obtain ⟨hG, pw, pw1, pw2, pw3⟩ := hpre
  have loop : ∀ (d : Nat) (p9 : Int32) (pn : Nat) (H : Heap) (locs : List Loc), rm_h D A st L f0 H locs → p9.toInt = (pn : Int) → 1 ≤ pn → pn + d = 8 → pn ≤ pw → rv_G p l e { frames := rk_q_X12_onward.2.2.2.2.1, cells := 0, slots := 0, locals := rk_q_X12_onward.2.2.2.2.2 } st m ([.ref a0, .int x, .int y] : List Value).toArray below meth c (MQ below (rk_Q (fun v u => rm_TY cI c1 c2 c3 c4 c5 ad G (X + 0) L u ∧ rm_Lv G 0 f0 u ∧ (fun G _ f v u => (∃ (z : Int32) (p : Nat), v = some (.int z) ∧ z.toInt = (p : Int) ∧ 1 ≤ p ∧ p < 8 ∧ wy_on (rm_now G f a0) tn (rm_rw G f a0 10 33) rn p) ∧ u = f) G X f0 v u) (rk_B D (rk_tys cI c1 c2 c3 c4 c5) L A) A) ([.ref a0, .int x, .int y] : List Value).toArray st 0 0 A) rk_q_X12_onward.2.2.1 0 0 H locs 2 [] [(0, .ref a0), (1, .int x), (2, .int y), (3, .int p9)] := by
    intro d
    induction d with
    | zero =>
      intro p9 pn H locs hh hp hp1 hd hpw
      omega
    | succ d ih =>
      intro p9 pn H locs hh hp hp1 hd hpw
      have e8 := rm_mu (x := (Int8.ofInt 8).toInt32) (y := x) (a := 8) (b := 4) rfl (by decide) (by omega) (by decide)
      have e9 := rm_ad (y := p9) e8 hp (by omega) (by omega)
      have hs : ((Int8.ofInt 8).toInt32 * x + p9).toInt = ((8 * rn + pn : Nat) : Int) := by rw [e9]; omega
      have ey := rm_ad (x := (Int8.ofInt 32).toInt32) (y := y) (a := 32) rfl hy (by omega) (by omega)
      have ep := rm_ad (x := p9) hp rm_e1 (by omega) (by decide)
      refine rv_run hC.1 hC.2.1 (T := rv_t_X12_onward) rv_k_X12_onward 3 ?_
      refine ⟨fun h => absurd h (by show ¬ 8 ≤ p9.toInt; omega), fun _ => ?_⟩
      refine rv_run hC.1 hC.2.1 (T := rv_t_X12_onward) rv_k_X12_onward 80 ?_
      refine w_h hC hh hT hG (by omega) (by omega) 97 (by decide +kernel) rfl (h_otherOf base l cI c1 c2 c3 c4 c5 D ad adV a0 _ (8 * rn + pn) hs (by omega)) hG rfl rfl (Nat.le_of_ble_eq_true rfl) hcs (fun v f1 H locs hh1 hT1 hL hP => ?_)
      obtain ⟨⟨o, rfl, ho⟩, hu⟩ := hP
      subst hu
      have hh := hh1
      have hT := hT1
      clear hh1 hT1 hL
      rw [Int.add_zero] at hT
      have ho : o.toInt = wy_o (rm_now G f1 a0) (8 * rn + pn) := ho
      obtain ⟨hL0, fs, aN, aA, aT, aH, aI, e1, e2, ⟨n1, n2⟩, -, -, ⟨t1, t2⟩, -⟩ := rm_me hT hG
      obtain ⟨hLH, h, hf, th⟩ := rm_ro hT t2 rfl
      have hrw : rm_rw G f1 a0 10 33 = h := rm_rw_of e1 t1 t2 hf
      have b9 : ∀ i, i < 4 → 0 ≤ (h i).toInt ∧ (h i).toInt ≤ 99 := by
        intro i hi
        obtain ⟨x9, e9, y1, y2⟩ := (th i hi : rk_has G X (0, 0, 99) _)
        cases e9
        exact ⟨y1, y2⟩
      have hit : wy_on (rm_now G f1 a0) tn (rm_rw G f1 a0 10 33) rn pn → rv_G p l e { frames := rk_q_X12_onward.2.2.2.2.1, cells := 0, slots := 0, locals := rk_q_X12_onward.2.2.2.2.2 } st m ([.ref a0, .int x, .int y] : List Value).toArray below meth c (MQ below (rk_Q (fun v u => rm_TY cI c1 c2 c3 c4 c5 ad G (X + 0) L u ∧ rm_Lv G 0 f1 u ∧ (fun G _ f v u => (∃ (z : Int32) (p : Nat), v = some (.int z) ∧ z.toInt = (p : Int) ∧ 1 ≤ p ∧ p < 8 ∧ wy_on (rm_now G f a0) tn (rm_rw G f a0 10 33) rn p) ∧ u = f) G X f1 v u) (rk_B D (rk_tys cI c1 c2 c3 c4 c5) L A) A) ([.ref a0, .int x, .int y] : List Value).toArray st 0 0 A) rk_q_X12_onward.2.2.1 0 0 H locs 75 [] [(0, .ref a0), (1, .int x), (2, .int y), (3, .int p9), (4, .int o)] := by
        intro hw
        refine rv_run hC.1 hC.2.1 (T := rv_t_X12_onward) rv_k_X12_onward 1 ?_
        refine rm_iret hC hh (by decide +kernel) rfl ⟨by rw [Int.add_zero]; exact hT, rm_lv_rf 0, ⟨p9, pn, rfl, hp, hp1, by omega, hw⟩, rfl⟩
      have miss : ¬ wy_on (rm_now G f1 a0) tn (rm_rw G f1 a0 10 33) rn pn → rv_G p l e { frames := rk_q_X12_onward.2.2.2.2.1, cells := 0, slots := 0, locals := rk_q_X12_onward.2.2.2.2.2 } st m ([.ref a0, .int x, .int y] : List Value).toArray below meth c (MQ below (rk_Q (fun v u => rm_TY cI c1 c2 c3 c4 c5 ad G (X + 0) L u ∧ rm_Lv G 0 f1 u ∧ (fun G _ f v u => (∃ (z : Int32) (p : Nat), v = some (.int z) ∧ z.toInt = (p : Int) ∧ 1 ≤ p ∧ p < 8 ∧ wy_on (rm_now G f a0) tn (rm_rw G f a0 10 33) rn p) ∧ u = f) G X f1 v u) (rk_B D (rk_tys cI c1 c2 c3 c4 c5) L A) A) ([.ref a0, .int x, .int y] : List Value).toArray st 0 0 A) rk_q_X12_onward.2.2.1 0 0 H locs 77 [] [(0, .ref a0), (1, .int x), (2, .int y), (3, .int p9), (4, .int o)] := by
        intro hw
        refine rv_run hC.1 hC.2.1 (T := rv_t_X12_onward) rv_k_X12_onward 2 ?_
        refine rv_take 4 ?_
        exact ih (p9 + Int32.ofInt 1) (pn + 1) H locs hh (by rw [ep]; omega) (by omega) (by omega) (by
          by_cases he : pn = pw
          · subst he
            exact absurd pw3 hw
          · omega)
      rw [hrw] at hit miss
      have br := b9 rn hrn
      refine rv_run hC.1 hC.2.1 (T := rv_t_X12_onward) rv_k_X12_onward 80 ?_
      refine rm_get (idx := 23) hC hh (by decide +kernel) rfl hL0 e1 t1 ?_
      refine rv_run hC.1 hC.2.1 (T := rv_t_X12_onward) rv_k_X12_onward 1 ?_
      refine rm_iald hC hh (by decide +kernel) hLH hf rfl (by omega) (by omega) ?_
      rw [rm_clamp hx]
      refine rv_run hC.1 hC.2.1 (T := rv_t_X12_onward) rv_k_X12_onward 2 ?_
      refine ⟨fun hq => ?_, fun hq => ?_⟩
      · have hq : ¬ (h rn).toInt = 1 := hq
        have m1 : ¬ (0 ≤ wy_o (rm_now G f1 a0) (8 * rn + pn) ∧ wy_o (rm_now G f1 a0) (8 * rn + pn) < 32) → ¬ wy_on (rm_now G f1 a0) tn h rn pn := by
          intro h8 h9
          rcases h9 with h9 | h9
          · exact hq h9.1
          · exact h8 ⟨h9.2.1, h9.2.2.1⟩
        refine rv_run hC.1 hC.2.1 (T := rv_t_X12_onward) rv_k_X12_onward 2 ?_
        refine ⟨fun h9 => ?_, fun h9 => ?_⟩
        · have h9 : o.toInt < 0 := h9
          exact miss (m1 (by omega))
        have h9 : 0 ≤ o.toInt := h9
        refine rv_run hC.1 hC.2.1 (T := rv_t_X12_onward) rv_k_X12_onward 3 ?_
        refine ⟨fun h9 => ?_, fun h10 => ?_⟩
        · have h9 : 32 ≤ o.toInt := h9
          exact miss (m1 (by omega))
        have h10 : o.toInt < 32 := h10
        have ed : (o / (Int8.ofInt 8).toInt32).toInt = (((wy_o (rm_now G f1 a0) (8 * rn + pn)).toNat / 8 : Nat) : Int) := by
          rw [rk_div_e (by omega) (by decide)]
          show o.toInt / 8 = _
          omega
        have hl4 : (wy_o (rm_now G f1 a0) (8 * rn + pn)).toNat / 8 < 4 := by omega
        refine rv_run hC.1 hC.2.1 (T := rv_t_X12_onward) rv_k_X12_onward 80 ?_
        refine rm_get (idx := 23) hC hh (by decide +kernel) rfl hL0 e1 t1 ?_
        refine rv_run hC.1 hC.2.1 (T := rv_t_X12_onward) rv_k_X12_onward 80 ?_
        refine ⟨by decide, ?_⟩
        refine rm_iald hC hh (by decide +kernel) hLH hf rfl (by omega) (by omega) ?_
        rw [rm_clamp ed]
        refine rv_run hC.1 hC.2.1 (T := rv_t_X12_onward) rv_k_X12_onward 80 ?_
        refine rm_get (idx := 23) hC hh (by decide +kernel) rfl hL0 e1 t1 ?_
        refine rv_run hC.1 hC.2.1 (T := rv_t_X12_onward) rv_k_X12_onward 1 ?_
        refine rm_iald hC hh (by decide +kernel) hLH hf rfl (by omega) (by omega) ?_
        rw [rm_clamp hx]
        have es := rm_su (x := h rn) rfl rm_e1 (by omega) (by decide)
        refine rv_run hC.1 hC.2.1 (T := rv_t_X12_onward) rv_k_X12_onward 3 ?_
        refine ⟨fun h11 => ?_, fun h11 => ?_⟩
        · have h11 : ¬ (h ((wy_o (rm_now G f1 a0) (8 * rn + pn)).toNat / 8)).toInt = (h rn - Int32.ofInt 1).toInt := h11
          refine miss (fun h12 => ?_)
          rcases h12 with h12 | h12
          · exact hq h12.1
          · exact h11 (by rw [es]; exact h12.2.2.2)
        · have h11 : (h ((wy_o (rm_now G f1 a0) (8 * rn + pn)).toNat / 8)).toInt = (h rn - Int32.ofInt 1).toInt := h11
          exact hit (Or.inr ⟨hq, by omega, by omega, by rw [h11, es]⟩)
      · have hq : (h rn).toInt = 1 := hq
        refine rv_run hC.1 hC.2.1 (T := rv_t_X12_onward) rv_k_X12_onward 5 ?_
        refine ⟨fun h9 => ?_, fun h9 => ?_⟩
        · have h9 : ¬ o.toInt = ((Int8.ofInt 32).toInt32 + y).toInt := h9
          refine miss (fun h12 => ?_)
          rcases h12 with h12 | h12
          · omega
          · exact h12.1 hq
        · have h9 : o.toInt = ((Int8.ofInt 32).toInt32 + y).toInt := h9
          refine rv_run hC.1 hC.2.1 (T := rv_t_X12_onward) rv_k_X12_onward 1 ?_
          exact hit (Or.inl ⟨hq, by omega⟩)
  refine rv_run hC.1 hC.2.1 (T := rv_t_X12_onward) rv_k_X12_onward 2 ?_
  exact loop 7 _ 1 _ _ hh rfl (by decide) rfl (by omega)
end RMX
