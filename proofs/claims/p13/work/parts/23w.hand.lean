def rv_t_X12_takesWord : rv_T := (.branch 0 (.branch 0 (.branch 0 (.branch 0 (.branch 0 (.branch 0 (.leaf (0, .aload_n 0, 1)) (.leaf (32, .iaload, 1))) (.leaf (16, .istore_n 3, 1))) (.leaf (56, .putfield 236, 3))) (.branch 0 (.leaf (4, .istore_n 2, 1)) (.leaf (60, .ireturn, 1)))) (.branch 0 (.branch 0 (.branch 0 (.leaf (34, .iload_n 3, 1)) (.branch 0 (.leaf (18, .iload_n 2, 1)) (.leaf (50, .aload_n 0, 1)))) (.branch 0 (.branch 0 (.leaf (10, .if_icmp .eq (5), 3)) (.leaf (42, .ireturn, 1))) (.leaf (26, .aload_n 0, 1)))) (.branch 0 (.branch 0 (.branch 0 (.leaf (6, .aload_n 1, 1)) (.leaf (38, .if_icmp .eq (5), 3))) (.branch 0 (.leaf (22, .aload_n 0, 1)) (.leaf (54, .iload_n 2, 1)))) (.branch 0 (.branch 0 (.leaf (14, .ireturn, 1)) (.leaf (46, .goto (-29), 3))) (.leaf (30, .iload_n 3, 1)))))) (.branch 0 (.branch 0 (.branch 0 (.branch 0 (.branch 0 (.leaf (1, .invokevirtual 252, 3)) (.leaf (33, .aload_n 1, 1))) (.branch 0 (.leaf (17, .iload_n 3, 1)) (.leaf (49, .aload_n 0, 1)))) (.leaf (41, .iconst 0, 1))) (.branch 0 (.leaf (5, .iload_n 2, 1)) (.leaf (13, .iconst 0, 1)))) (.branch 0 (.branch 0 (.branch 0 (.leaf (35, .invokevirtual 260, 3)) (.branch 0 (.leaf (19, .if_icmp .ge (30), 3)) (.leaf (51, .getfield 236, 3)))) (.branch 0 (.leaf (43, .iinc 3 (1), 3)) (.branch 0 (.leaf (27, .getfield 236, 3)) (.leaf (59, .iconst 1, 1))))) (.branch 0 (.branch 0 (.leaf (7, .invokevirtual 255, 3)) (.branch 0 (.leaf (23, .getfield 16, 3)) (.leaf (55, .iadd, 1)))) (.branch 0 (.leaf (15, .iconst 0, 1)) (.leaf (31, .iadd, 1)))))))
theorem rv_k_X12_takesWord : rv_tok cX12_takesWord rv_t_X12_takesWord = true := by decide +kernel
section RMX
variable (base : Nat) (l : Launch) (cI c1 c2 c3 c4 c5 : ClassId) (D : va_G) (ad adV : Nat → Nat)
theorem h_takesWord (a0 i : Nat) (hi : i < 5) : rm_Hm base l cI c1 c2 c3 c4 c5 D ad adV rk_q_X12_takesWord [.ref a0, .ref (ad i)] (fun G _ f => G a0 = some 12) (fun G _ f v u => ∃ y : Int32, v = some (.int y) ∧ (y.toInt = 0 ∨ (y.toInt = 1 ∧ rm_fi f a0 7 < rm_fi u a0 7 ∧ rm_fi u a0 7 ≤ rm_fi u a0 8))) 0 1 := by
  unfold rm_Hm
  refine rm_start (M := rk_q_X12_takesWord) (rk_hNw base ad adV) (rk_hNc base ad adV) (by decide +kernel) (mt := rk_mt [rk_q_X12_letters]) (ml := rk_mlf [(252, 0, 1, 12)]) (fl := rk_flf rk_ftX12) (fun s args h hN => rk_MlOk_of (List.forall_mem_cons.mpr ⟨rk_mck_ok (fun w hw => List.mem_cons_of_mem _ hw) h hN rk_cm_X12_letters rk_lk_X12_252, fun _ h => absurd h List.not_mem_nil⟩) (by decide +kernel)) (fun s args h hN => rk_flX12 (fun w hw => List.mem_cons_of_mem _ hw) h hN) (rm_cat1 rfl) (Nat.le_of_ble_eq_true rfl) ?_
  intro p e st m below meth c G X L f0 A hC hh hX0 hXC hT hpre
  have hcs : 0 ≤ 0 ∧ 0 ≤ 0 := ⟨Nat.le_refl 0, Nat.le_refl 0⟩
  have hG : G a0 = some 12 := hpre
  have hX1 : X ≤ rk_top := by rw [← Int.add_zero X]; exact hXC
  obtain ⟨-, l2, l3, l4⟩ := rj_lens i hi
  refine rv_run hC.1 hC.2.1 (T := rv_t_X12_takesWord) rv_k_X12_takesWord 80 ?_
  refine w_h hC hh hT hG (by omega) (by omega) 252 (by decide +kernel) rfl (h_letters base l cI c1 c2 c3 c4 c5 D ad adV a0) hG rfl rfl (Nat.le_of_ble_eq_true rfl) hcs (fun v f1 H locs hh1 hT1 hL hP => ?_)
  obtain ⟨⟨n, rfl, hn0, hns⟩, hu⟩ := hP
  subst hu
  have hh := hh1
  have hT := hT1
  clear hh1 hT1 hL
  rw [Int.add_zero] at hT
  refine rv_run hC.1 hC.2.1 (T := rv_t_X12_takesWord) rv_k_X12_takesWord 80 ?_
  refine rj_callV hC hh (by decide +kernel) rj_lk_X12_255 rj_i_J0_length rj_s_J0_length ((rj_NU hC hh).1.1 i hi).1 (j_len base l rk_K (rk_E ad) (rk_tys cI c1 c2 c3 c4 c5) D ad adV i hi) hX0 hX1 hT rfl rfl (Nat.le_of_ble_eq_true rfl) hcs (fun v H locs hv hh => ?_)
  subst hv
  refine rv_run hC.1 hC.2.1 (T := rv_t_X12_takesWord) rv_k_X12_takesWord 1 ?_
  refine ⟨fun h => ?_, fun _ => ?_⟩
  · have h : n.toInt = (Int32.ofNat (rk_len.getD i 0)).toInt := h
    have b8 := rm_fiT hT hG (i := 8) rfl
    have b7 := rm_fiT hT hG (i := 7) rfl
    have loop : ∀ (d : Nat) (k : Int32) (kn : Nat) (H : Heap) (locs : List Loc), rm_h D A st L f1 H locs → k.toInt = (kn : Int) → (kn : Int) + (d : Int) = n.toInt → rv_G p l e { frames := rk_q_X12_takesWord.2.2.2.2.1, cells := 0, slots := 0, locals := rk_q_X12_takesWord.2.2.2.2.2 } st m ([.ref a0, .ref (ad i)] : List Value).toArray below meth c (MQ below (rk_Q (fun v u => rm_TY cI c1 c2 c3 c4 c5 ad G (X + 0) L u ∧ rm_Lv G 1 f1 u ∧ (fun G _ f v u => ∃ y : Int32, v = some (.int y) ∧ (y.toInt = 0 ∨ (y.toInt = 1 ∧ rm_fi f a0 7 < rm_fi u a0 7 ∧ rm_fi u a0 7 ≤ rm_fi u a0 8))) G X f1 v u) (rk_B D (rk_tys cI c1 c2 c3 c4 c5) L A) A) ([.ref a0, .ref (ad i)] : List Value).toArray st 0 0 A) rk_q_X12_takesWord.2.2.1 0 0 H locs 17 [] [(0, .ref a0), (1, .ref (ad i)), (2, .int n), (3, .int k)] := by
      intro d
      induction d with
      | zero =>
        intro k kn H locs hh hk hd
        refine rv_run hC.1 hC.2.1 (T := rv_t_X12_takesWord) rv_k_X12_takesWord 3 ?_
        refine ⟨fun _ => ?_, fun h => absurd h (by show ¬ k.toInt < n.toInt; omega)⟩
        refine rv_run hC.1 hC.2.1 (T := rv_t_X12_takesWord) rv_k_X12_takesWord 80 ?_
        refine w_gf hC hh hT hG (by omega) 236 (by decide +kernel) rfl rfl (fun z hz hz2 => ?_)
        have e3 := rm_ad (x := z) (y := n) rfl rfl (by omega) (by omega)
        refine rv_run hC.1 hC.2.1 (T := rv_t_X12_takesWord) rv_k_X12_takesWord 80 ?_
        refine w_pf hC hh hT hG (by omega) 513 236 (by decide +kernel) rfl rfl (Or.inl ⟨rfl, _, rfl⟩) ⟨_, rfl, by rw [e3]; omega, by rw [e3]; omega⟩ rfl (by decide) (fun u H locs hh hT hL hP => ?_)
        have e7 := rm_fi_of hP.1
        have e8 : rm_fi u a0 8 = rm_fi f1 a0 8 := by
          unfold rm_fi
          rw [hP.2.1 8 (by decide)]
        have hL1 := rm_fin9 hL (fun b hb => by
          by_cases hba : b = a0
          · subst hba
            exact ⟨e8, by omega⟩
          · unfold rm_fi
            rw [hP.2.2.1 b hba]
            exact ⟨rfl, Int.le_refl _⟩)
        refine rv_run hC.1 hC.2.1 (T := rv_t_X12_takesWord) rv_k_X12_takesWord 1 ?_
        refine rm_zret hC hh (by decide +kernel) rfl (Or.inr rfl) ⟨by rw [Int.add_zero]; exact hT, hL1, ⟨_, rfl, Or.inr ⟨rfl, by omega, by omega⟩⟩⟩
      | succ d ih =>
        intro k kn H locs hh hk hd
        refine rv_run hC.1 hC.2.1 (T := rv_t_X12_takesWord) rv_k_X12_takesWord 3 ?_
        refine ⟨fun h => absurd h (by show ¬ n.toInt ≤ k.toInt; omega), fun _ => ?_⟩
        refine rv_run hC.1 hC.2.1 (T := rv_t_X12_takesWord) rv_k_X12_takesWord 80 ?_
        obtain ⟨hL0, fs, aN, aA, aT, aH, aI, e1, e2, -, -, ⟨t1, t2⟩, -⟩ := rm_me hT hG
        obtain ⟨hLT, gT, eT, tT⟩ := rm_ro hT t2 rfl
        refine rm_get (idx := 16) hC hh (by decide +kernel) rfl hL0 e1 t1 ?_
        refine rv_run hC.1 hC.2.1 (T := rv_t_X12_takesWord) rv_k_X12_takesWord 80 ?_
        refine w_gf hC hh hT hG (by omega) 236 (by decide +kernel) rfl rfl (fun z hz hz2 => ?_)
        have e5 := rm_ad (x := z) (y := k) rfl rfl (by omega) (by omega)
        refine rv_run hC.1 hC.2.1 (T := rv_t_X12_takesWord) rv_k_X12_takesWord 2 ?_
        refine rm_iald hC hh (by decide +kernel) hLT eT rfl (by omega) (by omega) ?_
        refine rv_run hC.1 hC.2.1 (T := rv_t_X12_takesWord) rv_k_X12_takesWord 2 ?_
        refine rj_callV hC hh (by decide +kernel) rj_lk_X12_260 rj_i_J0_charAt rj_s_J0_charAt ((rj_NU hC hh).1.1 i hi).1 (j_chr base l rk_K (rk_E ad) (rk_tys cI c1 c2 c3 c4 c5) D ad adV i hi k kn hk (by omega)) hX0 hX1 hT rfl rfl (Nat.le_of_ble_eq_true rfl) hcs (fun v H locs hv hh => ?_)
        obtain ⟨x, rfl⟩ := hv
        refine rv_run hC.1 hC.2.1 (T := rv_t_X12_takesWord) rv_k_X12_takesWord 1 ?_
        refine ⟨fun _ => ?_, fun _ => ?_⟩
        · have e7 := rm_ad (x := k) hk rm_e1 (by omega) (by omega)
          refine rv_run hC.1 hC.2.1 (T := rv_t_X12_takesWord) rv_k_X12_takesWord 2 ?_
          exact ih (k + Int32.ofInt 1) (kn + 1) H locs hh (by rw [e7]; omega) (by omega)
        · refine rv_run hC.1 hC.2.1 (T := rv_t_X12_takesWord) rv_k_X12_takesWord 1 ?_
          refine rm_zret hC hh (by decide +kernel) rfl (Or.inl rfl) ⟨by rw [Int.add_zero]; exact hT, rm_lv_rf 1, ⟨_, rfl, Or.inl rfl⟩⟩
    refine rv_run hC.1 hC.2.1 (T := rv_t_X12_takesWord) rv_k_X12_takesWord 2 ?_
    exact loop n.toInt.toNat _ 0 H locs hh rfl (by omega)
  · refine rv_run hC.1 hC.2.1 (T := rv_t_X12_takesWord) rv_k_X12_takesWord 1 ?_
    refine rm_zret hC hh (by decide +kernel) rfl (Or.inl rfl) ⟨by rw [Int.add_zero]; exact hT, rm_lv_rf 1, ⟨_, rfl, Or.inl rfl⟩⟩
end RMX
