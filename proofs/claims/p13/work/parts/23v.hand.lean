def rv_t_X12_letters : rv_T := (.branch 0 (.branch 0 (.branch 0 (.branch 0 (.branch 0 (.branch 0 (.leaf (0, .iconst 0, 1)) (.leaf (32, .getfield 16, 3))) (.branch 0 (.leaf (16, .getfield 16, 3)) (.leaf (48, .iconst 1, 1)))) (.branch 0 (.branch 0 (.leaf (8, .aload_n 0, 1)) (.leaf (40, .iadd, 1))) (.leaf (24, .iadd, 1)))) (.branch 0 (.branch 0 (.leaf (36, .getfield 236, 3)) (.leaf (20, .getfield 236, 3))) (.branch 0 (.branch 0 (.leaf (12, .if_icmp .ge (42), 3)) (.leaf (44, .if_icmp .gt (10), 3))) (.leaf (28, .if_icmp .lt (26), 3))))) (.branch 0 (.branch 0 (.branch 0 (.leaf (2, .aload_n 0, 1)) (.leaf (50, .istore_n 1, 1))) (.branch 0 (.leaf (42, .bipush (122), 2)) (.leaf (26, .bipush (97), 2)))) (.branch 0 (.branch 0 (.leaf (6, .iload_n 1, 1)) (.leaf (54, .iload_n 1, 1))) (.leaf (99999, .nop, 1))))) (.branch 0 (.branch 0 (.branch 0 (.branch 0 (.leaf (1, .istore_n 1, 1)) (.leaf (49, .iadd, 1))) (.branch 0 (.branch 0 (.leaf (9, .getfield 239, 3)) (.leaf (41, .iaload, 1))) (.leaf (25, .iaload, 1)))) (.leaf (99999, .nop, 1))) (.branch 0 (.branch 0 (.branch 0 (.branch 0 (.leaf (3, .getfield 236, 3)) (.leaf (35, .aload_n 0, 1))) (.branch 0 (.leaf (19, .aload_n 0, 1)) (.leaf (51, .goto (-49), 3)))) (.leaf (99999, .nop, 1))) (.branch 0 (.branch 0 (.branch 0 (.leaf (7, .iadd, 1)) (.leaf (39, .iload_n 1, 1))) (.branch 0 (.leaf (23, .iload_n 1, 1)) (.leaf (55, .ireturn, 1)))) (.branch 0 (.branch 0 (.leaf (15, .aload_n 0, 1)) (.leaf (47, .iload_n 1, 1))) (.leaf (31, .aload_n 0, 1)))))))
theorem rv_k_X12_letters : rv_tok cX12_letters rv_t_X12_letters = true := by decide +kernel
section RMX
variable (base : Nat) (l : Launch) (cI c1 c2 c3 c4 c5 : ClassId) (D : va_G) (ad adV : Nat → Nat)
theorem h_letters (a0 : Nat) : rm_Hm base l cI c1 c2 c3 c4 c5 D ad adV rk_q_X12_letters [.ref a0] (fun G _ f => G a0 = some 12) (fun G _ f v u => (∃ x : Int32, v = some (.int x) ∧ 0 ≤ x.toInt ∧ (x.toInt = 0 ∨ rm_fi f a0 7 + x.toInt ≤ rm_fi f a0 8)) ∧ u = f) 0 0 := by
  unfold rm_Hm
  refine rm_start (M := rk_q_X12_letters) (rk_hNw base ad adV) (rk_hNc base ad adV) (by decide +kernel) (mt := rk_mt []) (ml := rk_mlf []) (fl := rk_flf rk_ftX12) (fun s args h hN => rk_MlOk_of (fun _ h => absurd h List.not_mem_nil) (by decide +kernel)) (fun s args h hN => rk_flX12 (fun w hw => List.mem_cons_of_mem _ hw) h hN) (rm_cat1 rfl) (Nat.le_of_ble_eq_true rfl) ?_
  intro p e st m below meth c G X L f0 A hC hh hX0 hXC hT hpre
  have hcs : 0 ≤ 0 ∧ 0 ≤ 0 := ⟨Nat.le_refl 0, Nat.le_refl 0⟩
  have hG : G a0 = some 12 := hpre
  have b8 := rm_fiT hT hG (i := 8) rfl
  have b7 := rm_fiT hT hG (i := 7) rfl
  obtain ⟨hL0, fs, aN, aA, aT, aH, aI, e1, e2, -, -, ⟨t1, t2⟩, -⟩ := rm_me hT hG
  obtain ⟨hLT, gT, eT, tT⟩ := rm_ro hT t2 rfl
  have t54 : ∀ n : Int32, 0 ≤ n.toInt → (n.toInt = 0 ∨ rm_fi f0 a0 7 + n.toInt ≤ rm_fi f0 a0 8) → rv_G p l e { frames := rk_q_X12_letters.2.2.2.2.1, cells := 0, slots := 0, locals := rk_q_X12_letters.2.2.2.2.2 } st m ([.ref a0] : List Value).toArray below meth c (MQ below (rk_Q (fun v u => rm_TY cI c1 c2 c3 c4 c5 ad G (X + 0) L u ∧ rm_Lv G 0 f0 u ∧ (fun G _ f v u => (∃ x : Int32, v = some (.int x) ∧ 0 ≤ x.toInt ∧ (x.toInt = 0 ∨ rm_fi f a0 7 + x.toInt ≤ rm_fi f a0 8)) ∧ u = f) G X f0 v u) (rk_B D (rk_tys cI c1 c2 c3 c4 c5) L A) A) ([.ref a0] : List Value).toArray st 0 0 A) rk_q_X12_letters.2.2.1 0 0 st.heap [] 54 [] [(0, .ref a0), (1, .int n)] := by
    intro n hn hns
    refine rv_run hC.1 hC.2.1 (T := rv_t_X12_letters) rv_k_X12_letters 1 ?_
    refine rm_iret hC hh (by decide +kernel) rfl ⟨by rw [Int.add_zero]; exact hT, rm_lv_rf 0, ⟨n, rfl, hn, hns⟩, rfl⟩
  have loop : ∀ (d : Nat) (n : Int32), 0 ≤ n.toInt → (n.toInt = 0 ∨ rm_fi f0 a0 7 + n.toInt ≤ rm_fi f0 a0 8) → rm_fi f0 a0 8 - (rm_fi f0 a0 7 + n.toInt) ≤ (d : Int) → rv_G p l e { frames := rk_q_X12_letters.2.2.2.2.1, cells := 0, slots := 0, locals := rk_q_X12_letters.2.2.2.2.2 } st m ([.ref a0] : List Value).toArray below meth c (MQ below (rk_Q (fun v u => rm_TY cI c1 c2 c3 c4 c5 ad G (X + 0) L u ∧ rm_Lv G 0 f0 u ∧ (fun G _ f v u => (∃ x : Int32, v = some (.int x) ∧ 0 ≤ x.toInt ∧ (x.toInt = 0 ∨ rm_fi f a0 7 + x.toInt ≤ rm_fi f a0 8)) ∧ u = f) G X f0 v u) (rk_B D (rk_tys cI c1 c2 c3 c4 c5) L A) A) ([.ref a0] : List Value).toArray st 0 0 A) rk_q_X12_letters.2.2.1 0 0 st.heap [] 2 [] [(0, .ref a0), (1, .int n)] := by
    intro d
    induction d with
    | zero =>
      intro n hn hns hd
      refine rv_run hC.1 hC.2.1 (T := rv_t_X12_letters) rv_k_X12_letters 80 ?_
      refine w_gf hC hh hT hG (by omega) 236 (by decide +kernel) rfl rfl (fun x hx hx2 => ?_)
      refine rv_run hC.1 hC.2.1 (T := rv_t_X12_letters) rv_k_X12_letters 80 ?_
      refine w_gf hC hh hT hG (by omega) 239 (by decide +kernel) rfl rfl (fun y hy hy2 => ?_)
      have e4 := rm_ad (x := x) (y := n) rfl rfl (by omega) (by omega)
      refine rv_run hC.1 hC.2.1 (T := rv_t_X12_letters) rv_k_X12_letters 1 ?_
      refine ⟨fun _ => t54 n hn hns, fun h => ?_⟩
      have h : (x + n).toInt < y.toInt := h
      omega
    | succ d ih =>
      intro n hn hns hd
      refine rv_run hC.1 hC.2.1 (T := rv_t_X12_letters) rv_k_X12_letters 80 ?_
      refine w_gf hC hh hT hG (by omega) 236 (by decide +kernel) rfl rfl (fun x hx hx2 => ?_)
      refine rv_run hC.1 hC.2.1 (T := rv_t_X12_letters) rv_k_X12_letters 80 ?_
      refine w_gf hC hh hT hG (by omega) 239 (by decide +kernel) rfl rfl (fun y hy hy2 => ?_)
      have e4 := rm_ad (x := x) (y := n) rfl rfl (by omega) (by omega)
      refine rv_run hC.1 hC.2.1 (T := rv_t_X12_letters) rv_k_X12_letters 1 ?_
      refine ⟨fun _ => t54 n hn hns, fun h => ?_⟩
      have h : (x + n).toInt < y.toInt := h
      refine rv_run hC.1 hC.2.1 (T := rv_t_X12_letters) rv_k_X12_letters 80 ?_
      refine rm_get (idx := 16) hC hh (by decide +kernel) rfl hL0 e1 t1 ?_
      refine rv_run hC.1 hC.2.1 (T := rv_t_X12_letters) rv_k_X12_letters 80 ?_
      refine w_gf hC hh hT hG (by omega) 236 (by decide +kernel) rfl rfl (fun z hz hz2 => ?_)
      have e5 := rm_ad (x := z) (y := n) rfl rfl (by omega) (by omega)
      refine rv_run hC.1 hC.2.1 (T := rv_t_X12_letters) rv_k_X12_letters 2 ?_
      refine rm_iald hC hh (by decide +kernel) hLT eT rfl (by omega) (by omega) ?_
      refine rv_run hC.1 hC.2.1 (T := rv_t_X12_letters) rv_k_X12_letters 2 ?_
      refine ⟨fun _ => t54 n hn hns, fun _ => ?_⟩
      refine rv_run hC.1 hC.2.1 (T := rv_t_X12_letters) rv_k_X12_letters 80 ?_
      refine rm_get (idx := 16) hC hh (by decide +kernel) rfl hL0 e1 t1 ?_
      refine rv_run hC.1 hC.2.1 (T := rv_t_X12_letters) rv_k_X12_letters 80 ?_
      refine w_gf hC hh hT hG (by omega) 236 (by decide +kernel) rfl rfl (fun z2 hz hz2 => ?_)
      have e6 := rm_ad (x := z2) (y := n) rfl rfl (by omega) (by omega)
      refine rv_run hC.1 hC.2.1 (T := rv_t_X12_letters) rv_k_X12_letters 2 ?_
      refine rm_iald hC hh (by decide +kernel) hLT eT rfl (by omega) (by omega) ?_
      refine rv_run hC.1 hC.2.1 (T := rv_t_X12_letters) rv_k_X12_letters 2 ?_
      refine ⟨fun _ => t54 n hn hns, fun _ => ?_⟩
      have e7 := rm_ad (x := n) rfl rm_e1 (by omega) (by omega)
      refine rv_run hC.1 hC.2.1 (T := rv_t_X12_letters) rv_k_X12_letters 5 ?_
      exact ih _ (by rw [e7]; omega) (Or.inr (by rw [e7]; omega)) (by rw [e7]; omega)
  refine rv_run hC.1 hC.2.1 (T := rv_t_X12_letters) rv_k_X12_letters 2 ?_
  exact loop (rm_fi f0 a0 8 - rm_fi f0 a0 7).toNat _ (by decide) (Or.inl rfl) (by show rm_fi f0 a0 8 - (rm_fi f0 a0 7 + 0) ≤ _; omega)
end RMX
