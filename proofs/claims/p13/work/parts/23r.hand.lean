def rv_t_X12_behindBlanks : rv_T := (.branch 0 (.branch 0 (.branch 0 (.branch 0 (.branch 0 (.leaf (0, .aload_n 0, 1)) (.leaf (16, .putfield 236, 3))) (.leaf (99999, .nop, 1))) (.leaf (4, .bipush (32), 2))) (.branch 0 (.branch 0 (.leaf (99999, .nop, 1)) (.branch 0 (.leaf (10, .aload_n 0, 1)) (.leaf (26, .ireturn, 1)))) (.branch 0 (.branch 0 (.leaf (6, .if_icmp .ne (16), 3)) (.leaf (22, .aload_n 0, 1))) (.leaf (14, .iconst 1, 1))))) (.branch 0 (.branch 0 (.branch 0 (.leaf (1, .invokevirtual 242, 3)) (.leaf (9, .aload_n 0, 1))) (.leaf (99999, .nop, 1))) (.branch 0 (.branch 0 (.leaf (19, .goto (-19), 3)) (.leaf (11, .getfield 236, 3))) (.branch 0 (.leaf (23, .invokevirtual 242, 3)) (.leaf (15, .iadd, 1))))))
theorem rv_k_X12_behindBlanks : rv_tok cX12_behindBlanks rv_t_X12_behindBlanks = true := by decide +kernel
section RMX
variable (base : Nat) (l : Launch) (cI c1 c2 c3 c4 c5 : ClassId) (D : va_G) (ad adV : Nat → Nat)
theorem h_behindBlanks (a0 : Nat) : rm_Hm base l cI c1 c2 c3 c4 c5 D ad adV rk_q_X12_behindBlanks [.ref a0] (fun G _ f => G a0 = some 12) (fun G _ f v u => (∃ x : Int32, v = some (.int x) ∧ -1 ≤ x.toInt ∧ x.toInt ≤ 255 ∧ (rm_fi u a0 7 < rm_fi u a0 8 ∨ x.toInt = -1) ∧ x.toInt = rm_hv G u a0)) 0 1 := by
  unfold rm_Hm
  refine rm_start (M := rk_q_X12_behindBlanks) (rk_hNw base ad adV) (rk_hNc base ad adV) (by decide +kernel) (mt := rk_mt [rk_q_X12_here]) (ml := rk_mlf [(242, 0, 1, 12)]) (fl := rk_flf rk_ftX12) (fun s args h hN => rk_MlOk_of (List.forall_mem_cons.mpr ⟨rk_mck_ok (fun w hw => List.mem_cons_of_mem _ hw) h hN rk_cm_X12_here rk_lk_X12_242, fun _ h => absurd h List.not_mem_nil⟩) (by decide +kernel)) (fun s args h hN => rk_flX12 (fun w hw => List.mem_cons_of_mem _ hw) h hN) (rm_cat1 rfl) (Nat.le_of_ble_eq_true rfl) ?_
  intro p e st m below meth c G X L f0 A hC hh hX0 hXC hT hpre
  have hcs : 0 ≤ 0 ∧ 0 ≤ 0 := ⟨Nat.le_refl 0, Nat.le_refl 0⟩
  have hG : G a0 = some 12 := hpre
  have t22 : ∀ (f : Nat → va_E) (H : Heap) (locs : List Loc), rm_h D A st L f H locs → rm_TY cI c1 c2 c3 c4 c5 ad G X L f → rm_Lv G 1 f0 f → rv_G p l e { frames := rk_q_X12_behindBlanks.2.2.2.2.1, cells := 0, slots := 0, locals := rk_q_X12_behindBlanks.2.2.2.2.2 } st m ([.ref a0] : List Value).toArray below meth c (MQ below (rk_Q (fun v u => rm_TY cI c1 c2 c3 c4 c5 ad G (X + 0) L u ∧ rm_Lv G 1 f0 u ∧ (fun G _ f v u => (∃ x : Int32, v = some (.int x) ∧ -1 ≤ x.toInt ∧ x.toInt ≤ 255 ∧ (rm_fi u a0 7 < rm_fi u a0 8 ∨ x.toInt = -1) ∧ x.toInt = rm_hv G u a0)) G X f0 v u) (rk_B D (rk_tys cI c1 c2 c3 c4 c5) L A) A) ([.ref a0] : List Value).toArray st 0 0 A) rk_q_X12_behindBlanks.2.2.1 0 0 H locs 22 [] [(0, .ref a0)] := by
    intro f H locs hh hT hLt
    refine rv_run hC.1 hC.2.1 (T := rv_t_X12_behindBlanks) rv_k_X12_behindBlanks 80 ?_
    refine w_h hC hh hT hG (by omega) (by omega) 242 (by decide +kernel) rfl (h_here base l cI c1 c2 c3 c4 c5 D ad adV a0) hG rfl rfl (Nat.le_of_ble_eq_true rfl) hcs (fun v f1 H locs hh1 hT1 hL hP => ?_)
    obtain ⟨⟨y, rfl, hy⟩, hu⟩ := hP
    subst hu
    have hh := hh1
    have hT := hT1
    clear hh1 hT1 hL
    rw [Int.add_zero] at hT
    refine rm_iret hC hh (by decide +kernel) rfl ⟨by rw [Int.add_zero]; exact hT, hLt, ⟨y, rfl, hy⟩⟩
  have loop : ∀ (d : Nat) (f : Nat → va_E) (H : Heap) (locs : List Loc), rm_h D A st L f H locs → rm_TY cI c1 c2 c3 c4 c5 ad G X L f → rm_Lv G 1 f0 f → rm_fi f a0 8 - rm_fi f a0 7 ≤ (d : Int) → rv_G p l e { frames := rk_q_X12_behindBlanks.2.2.2.2.1, cells := 0, slots := 0, locals := rk_q_X12_behindBlanks.2.2.2.2.2 } st m ([.ref a0] : List Value).toArray below meth c (MQ below (rk_Q (fun v u => rm_TY cI c1 c2 c3 c4 c5 ad G (X + 0) L u ∧ rm_Lv G 1 f0 u ∧ (fun G _ f v u => (∃ x : Int32, v = some (.int x) ∧ -1 ≤ x.toInt ∧ x.toInt ≤ 255 ∧ (rm_fi u a0 7 < rm_fi u a0 8 ∨ x.toInt = -1) ∧ x.toInt = rm_hv G u a0)) G X f0 v u) (rk_B D (rk_tys cI c1 c2 c3 c4 c5) L A) A) ([.ref a0] : List Value).toArray st 0 0 A) rk_q_X12_behindBlanks.2.2.1 0 0 H locs 0 [] [(0, .ref a0)] := by
    intro d
    induction d with
    | zero =>
      intro f H locs hh hT hLt hd
      refine rv_run hC.1 hC.2.1 (T := rv_t_X12_behindBlanks) rv_k_X12_behindBlanks 80 ?_
      refine w_h hC hh hT hG (by omega) (by omega) 242 (by decide +kernel) rfl (h_here base l cI c1 c2 c3 c4 c5 D ad adV a0) hG rfl rfl (Nat.le_of_ble_eq_true rfl) hcs (fun v f1 H locs hh1 hT1 hL hP => ?_)
      obtain ⟨⟨y, rfl, hy1, hy2, hy3, -⟩, hu⟩ := hP
      subst hu
      have hh := hh1
      have hT := hT1
      clear hh1 hT1 hL
      rw [Int.add_zero] at hT
      refine rv_run hC.1 hC.2.1 (T := rv_t_X12_behindBlanks) rv_k_X12_behindBlanks 2 ?_
      refine ⟨fun _ => t22 _ H locs hh hT hLt, fun h => ?_⟩
      have h : y.toInt = 32 := h
      omega
    | succ d ih =>
      intro f H locs hh hT hLt hd
      refine rv_run hC.1 hC.2.1 (T := rv_t_X12_behindBlanks) rv_k_X12_behindBlanks 80 ?_
      refine w_h hC hh hT hG (by omega) (by omega) 242 (by decide +kernel) rfl (h_here base l cI c1 c2 c3 c4 c5 D ad adV a0) hG rfl rfl (Nat.le_of_ble_eq_true rfl) hcs (fun v f1 H locs hh1 hT1 hL hP => ?_)
      obtain ⟨⟨y, rfl, hy1, hy2, hy3, -⟩, hu⟩ := hP
      subst hu
      have hh := hh1
      have hT := hT1
      clear hh1 hT1 hL
      rw [Int.add_zero] at hT
      refine rv_run hC.1 hC.2.1 (T := rv_t_X12_behindBlanks) rv_k_X12_behindBlanks 2 ?_
      refine ⟨fun _ => t22 _ H locs hh hT hLt, fun h => ?_⟩
      have h : y.toInt = 32 := h
      have b8 := rm_fiT hT hG (i := 8) rfl
      refine rv_run hC.1 hC.2.1 (T := rv_t_X12_behindBlanks) rv_k_X12_behindBlanks 80 ?_
      refine w_gf hC hh hT hG (by omega) 236 (by decide +kernel) rfl rfl (fun x hx hx2 => ?_)
      have e3 := rm_ad (x := x) rfl rm_e1 (by omega) (by decide)
      refine rv_run hC.1 hC.2.1 (T := rv_t_X12_behindBlanks) rv_k_X12_behindBlanks 80 ?_
      refine w_pf hC hh hT hG (by omega) 513 236 (by decide +kernel) rfl rfl (Or.inl ⟨rfl, _, rfl⟩) ⟨_, rfl, by rw [e3]; omega, by rw [e3]; omega⟩ rfl (by decide) (fun u H locs hh hT hL hP => ?_)
      have e7 := rm_fi_of hP.1
      have e8 : rm_fi u a0 8 = rm_fi f1 a0 8 := by
        unfold rm_fi
        rw [hP.2.1 8 (by decide)]
      have hL1 := rm_fin9 hL (fun b hb => by
        by_cases hba : b = a0
        · subst hba
          exact ⟨e8, by omega⟩
        · unfold rm_fi
          rw [hP.2.2.1 b hba]
          exact ⟨rfl, Int.le_refl _⟩)
      refine rv_run hC.1 hC.2.1 (T := rv_t_X12_behindBlanks) rv_k_X12_behindBlanks 1 ?_
      exact ih u H locs hh hT (rm_lv_tr (k := 1) hLt hL1 rfl rfl) (by omega)
  exact loop (rm_fi f0 a0 8 - rm_fi f0 a0 7).toNat f0 _ _ hh hT (rm_lv_rf 1) (by omega)
end RMX
