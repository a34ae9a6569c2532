def rv_t_X12_broken : rv_T := (.branch 0 (.branch 0 (.branch 0 (.branch 0 (.branch 0 (.branch 0 (.branch 0 (.leaf (0, .aload_n 0, 1)) (.leaf (64, .iconst 1, 1))) (.leaf (32, .iconst 1, 1))) (.leaf (16, .invokevirtual 36, 3))) (.leaf (24, .iconst 1, 1))) (.branch 0 (.leaf (36, .iconst 0, 1)) (.branch 0 (.leaf (44, .iload_n 1, 1)) (.branch 0 (.leaf (28, .iconst 1, 1)) (.leaf (60, .iload_n 1, 1)))))) (.branch 0 (.branch 0 (.branch 0 (.branch 0 (.branch 0 (.leaf (2, .putfield 29, 3)) (.leaf (66, .ifCond .eq (7), 3))) (.leaf (99999, .nop, 1))) (.leaf (50, .iconst 1, 1))) (.branch 0 (.branch 0 (.branch 0 (.leaf (10, .ifCond .eq (31), 3)) (.leaf (74, .invokevirtual 42, 3))) (.leaf (42, .ireturn, 1))) (.leaf (58, .aload_n 0, 1)))) (.branch 0 (.branch 0 (.branch 0 (.branch 0 (.leaf (6, .iload_n 1, 1)) (.leaf (70, .goto (4), 3))) (.leaf (38, .if_icmp .ne (5), 3))) (.branch 0 (.leaf (22, .aload_n 0, 1)) (.leaf (54, .iconst 0, 1)))) (.branch 0 (.branch 0 (.branch 0 (.leaf (14, .iload_n 1, 1)) (.leaf (78, .ireturn, 1))) (.leaf (46, .iload_n 2, 1))) (.leaf (99999, .nop, 1)))))) (.branch 0 (.branch 0 (.branch 0 (.branch 0 (.branch 0 (.branch 0 (.leaf (1, .iconst 0, 1)) (.leaf (65, .iload_n 2, 1))) (.leaf (33, .goto (4), 3))) (.leaf (99999, .nop, 1))) (.branch 0 (.branch 0 (.leaf (73, .iconst 0, 1)) (.leaf (41, .iconst 0, 1))) (.leaf (25, .invokevirtual 36, 3)))) (.branch 0 (.branch 0 (.branch 0 (.branch 0 (.leaf (5, .aload_n 0, 1)) (.leaf (69, .iconst 1, 1))) (.leaf (37, .iload_n 2, 1))) (.leaf (99999, .nop, 1))) (.branch 0 (.branch 0 (.branch 0 (.leaf (13, .aload_n 0, 1)) (.leaf (77, .iconst 1, 1))) (.leaf (45, .iconst 1, 1))) (.branch 0 (.leaf (29, .if_icmp .ne (7), 3)) (.leaf (61, .invokevirtual 97, 3)))))) (.branch 0 (.branch 0 (.branch 0 (.leaf (99999, .nop, 1)) (.branch 0 (.leaf (19, .ifCond .eq (22), 3)) (.leaf (51, .goto (4), 3)))) (.branch 0 (.leaf (43, .aload_n 0, 1)) (.leaf (59, .aload_n 0, 1)))) (.branch 0 (.branch 0 (.leaf (7, .invokevirtual 32, 3)) (.branch 0 (.leaf (23, .iload_n 1, 1)) (.leaf (55, .invokevirtual 42, 3)))) (.branch 0 (.branch 0 (.leaf (15, .iconst 0, 1)) (.leaf (47, .ifCond .eq (7), 3))) (.leaf (99999, .nop, 1)))))))
theorem rv_k_X12_broken : rv_tok cX12_broken rv_t_X12_broken = true := by decide +kernel
section RMX
variable (base : Nat) (l : Launch) (cI c1 c2 c3 c4 c5 : ClassId) (D : va_G) (ad adV : Nat → Nat)
theorem h_broken (a0 : Nat) (s : Int32) (b : Int32) : rm_Hm base l cI c1 c2 c3 c4 c5 D ad adV rk_q_X12_broken [.ref a0, .int s, .int b] (fun G _ f => G a0 = some 12) (fun G _ f v u => ∃ x : Int32, v = some (.int x) ∧ 0 ≤ x.toInt ∧ x.toInt ≤ 1) 0 1 := by
  unfold rm_Hm
  refine rm_start (M := rk_q_X12_broken) (rk_hNw base ad adV) (rk_hNc base ad adV) (by decide +kernel) (mt := rk_mt [rk_q_X12_at, rk_q_X12_isSocket, rk_q_X12_otherOf, rk_q_X12_puts]) (ml := rk_mlf [(36, 0, 3, 12), (32, 1, 2, 12), (97, 2, 2, 12), (42, 3, 4, 12)]) (fl := rk_flf rk_ftX12) (fun s args h hN => rk_MlOk_of (List.forall_mem_cons.mpr ⟨rk_mck_ok (fun w hw => List.mem_cons_of_mem _ hw) h hN rk_cm_X12_at rk_lk_X12_36, List.forall_mem_cons.mpr ⟨rk_mck_ok (fun w hw => List.mem_cons_of_mem _ hw) h hN rk_cm_X12_isSocket rk_lk_X12_32, List.forall_mem_cons.mpr ⟨rk_mck_ok (fun w hw => List.mem_cons_of_mem _ hw) h hN rk_cm_X12_otherOf rk_lk_X12_97, List.forall_mem_cons.mpr ⟨rk_mck_ok (fun w hw => List.mem_cons_of_mem _ hw) h hN rk_cm_X12_puts rk_lk_X12_42, fun _ h => absurd h List.not_mem_nil⟩⟩⟩⟩) (by decide +kernel)) (fun s args h hN => rk_flX12 (fun w hw => List.mem_cons_of_mem _ hw) h hN) (rm_cat1 rfl) (Nat.le_of_ble_eq_true rfl) ?_
  intro p e st m below meth c G X L f0 A hC hh hX0 hXC hT hpre
  have hcs : 0 ≤ 0 ∧ 0 ≤ 0 := ⟨Nat.le_refl 0, Nat.le_refl 0⟩
  have hG : G a0 = some 12 := hpre
  have no : ∀ (f : Nat → va_E) (H : Heap) (locs : List Loc), rm_h D A st L f H locs → rm_TY cI c1 c2 c3 c4 c5 ad G X L f → rm_Lv G 1 f0 f → rv_G p l e { frames := rk_q_X12_broken.2.2.2.2.1, cells := 0, slots := 0, locals := rk_q_X12_broken.2.2.2.2.2 } st m ([.ref a0, .int s, .int b] : List Value).toArray below meth c (MQ below (rk_Q (fun v u => rm_TY cI c1 c2 c3 c4 c5 ad G (X + 0) L u ∧ rm_Lv G 1 f0 u ∧ (fun G _ f v u => ∃ x : Int32, v = some (.int x) ∧ 0 ≤ x.toInt ∧ x.toInt ≤ 1) G X f0 v u) (rk_B D (rk_tys cI c1 c2 c3 c4 c5) L A) A) ([.ref a0, .int s, .int b] : List Value).toArray st 0 0 A) rk_q_X12_broken.2.2.1 0 0 H locs 41 [] [(0, .ref a0), (1, .int s), (2, .int b)] := by
    intro f H locs hh hT hL
    refine rv_run hC.1 hC.2.1 (T := rv_t_X12_broken) rv_k_X12_broken 1 ?_
    refine rm_zret hC hh (by decide +kernel) rfl (Or.inl rfl) ⟨by rw [Int.add_zero]; exact hT, hL, ⟨_, rfl, by decide, by decide⟩⟩
  refine rv_run hC.1 hC.2.1 (T := rv_t_X12_broken) rv_k_X12_broken 80 ?_
  refine w_pf hC hh hT hG (by omega) 1 29 (by decide +kernel) rfl rfl (Or.inl ⟨rfl, _, rfl⟩) ⟨_, rfl, by decide, by decide⟩ rfl (by decide) (fun f H locs hh hT hL hP => ?_)
  have hLt := hL
  refine rv_run hC.1 hC.2.1 (T := rv_t_X12_broken) rv_k_X12_broken 80 ?_
  refine w_k hC hh hT hG (by omega) (by omega) 32 (by decide +kernel) rfl (c_X12_isSocket base l cI c1 c2 c3 c4 c5 D ad adV) (rk_all_c (rk_aM hG) (rk_all_c rk_aF rk_all_0)) rfl rfl (Nat.le_of_ble_eq_true rfl) hcs (fun v f H locs hh hT hL hA => ?_)
  rw [Int.add_zero] at hT
  have hLt := rm_lv_tr (k := 1) hLt hL rfl rfl
  obtain ⟨x, rfl, hx⟩ := rk_alt_2 hA
  refine rv_run hC.1 hC.2.1 (T := rv_t_X12_broken) rv_k_X12_broken 1 ?_
  refine ⟨fun _ => no f H locs hh hT hLt, fun h => ?_⟩
  obtain ⟨sn, hs, hsn⟩ : ∃ n : Nat, s.toInt = (n : Int) ∧ n < 40 := by
    rcases hx with ⟨-, hx⟩ | hx
    · obtain ⟨w9, e9, x9, e10, y1, y2⟩ := hx _ List.mem_cons_self
      cases e9
      cases e10
      exact ⟨s.toInt.toNat, by omega, by omega⟩
    · exact absurd hx h
  refine rv_run hC.1 hC.2.1 (T := rv_t_X12_broken) rv_k_X12_broken 80 ?_
  refine w_at hC hh hT hG (by omega) (by omega) 36 (by decide +kernel) rfl rfl hs hsn 0 (by decide) (by decide) (Nat.le_of_ble_eq_true rfl) hcs (fun y H locs hh hy => ?_)
  have ey : y.toInt = rm_sc (rm_now G f a0) sn 0 := by rw [hy]; rfl
  have by1 := rm_scT hT hG (w := 0) hsn (by decide) rfl
  refine rv_run hC.1 hC.2.1 (T := rv_t_X12_broken) rv_k_X12_broken 1 ?_
  refine ⟨fun _ => no f H locs hh hT hLt, fun h => ?_⟩
  have hy0 : ¬ y.toInt = 0 := h
  -- the other one's
  have t74 : ∀ (k w : Int32) (wn : Nat) (f : Nat → va_E) (H : Heap) (locs : List Loc), rm_h D A st L f H locs → rm_TY cI c1 c2 c3 c4 c5 ad G X L f → rm_Lv G 1 f0 f → 0 ≤ k.toInt ∧ k.toInt ≤ 1 → w.toInt = (wn : Int) → wn < 40 → rv_G p l e { frames := rk_q_X12_broken.2.2.2.2.1, cells := 0, slots := 0, locals := rk_q_X12_broken.2.2.2.2.2 } st m ([.ref a0, .int s, .int b] : List Value).toArray below meth c (MQ below (rk_Q (fun v u => rm_TY cI c1 c2 c3 c4 c5 ad G (X + 0) L u ∧ rm_Lv G 1 f0 u ∧ (fun G _ f v u => ∃ x : Int32, v = some (.int x) ∧ 0 ≤ x.toInt ∧ x.toInt ≤ 1) G X f0 v u) (rk_B D (rk_tys cI c1 c2 c3 c4 c5) L A) A) ([.ref a0, .int s, .int b] : List Value).toArray st 0 0 A) rk_q_X12_broken.2.2.1 0 0 H locs 74 [.int k, .int (Int32.ofInt 1), .int w, .ref a0] [(0, .ref a0), (1, .int s), (2, .int b)] := by
    intro k w wn f H locs hh hT hLt hk hw hwn
    refine w_puts hC hh hT hG (by omega) (by omega) 1 42 (by decide +kernel) rfl rfl hw hwn 1 (by decide) (by decide) rfl (rm_hI (a := 0) (b := 1) rfl hk.1 hk.2) (Nat.le_of_ble_eq_true rfl) hcs (fun f H locs hh hT hL hP => ?_)
    have hLt := rm_lv_tr (k := 1) hLt hL rfl rfl
    refine rv_run hC.1 hC.2.1 (T := rv_t_X12_broken) rv_k_X12_broken 1 ?_
    refine rm_zret hC hh (by decide +kernel) rfl (Or.inr rfl) ⟨by rw [Int.add_zero]; exact hT, hLt, ⟨_, rfl, by decide, by decide⟩⟩
  have t55 : ∀ (k : Int32) (H : Heap) (locs : List Loc), rm_h D A st L f H locs → 0 ≤ k.toInt ∧ k.toInt ≤ 1 → rv_G p l e { frames := rk_q_X12_broken.2.2.2.2.1, cells := 0, slots := 0, locals := rk_q_X12_broken.2.2.2.2.2 } st m ([.ref a0, .int s, .int b] : List Value).toArray below meth c (MQ below (rk_Q (fun v u => rm_TY cI c1 c2 c3 c4 c5 ad G (X + 0) L u ∧ rm_Lv G 1 f0 u ∧ (fun G _ f v u => ∃ x : Int32, v = some (.int x) ∧ 0 ≤ x.toInt ∧ x.toInt ≤ 1) G X f0 v u) (rk_B D (rk_tys cI c1 c2 c3 c4 c5) L A) A) ([.ref a0, .int s, .int b] : List Value).toArray st 0 0 A) rk_q_X12_broken.2.2.1 0 0 H locs 55 [.int k, .int (Int32.ofInt 1), .int s, .ref a0] [(0, .ref a0), (1, .int s), (2, .int b)] := by
    intro k H locs hh hk
    refine w_puts hC hh hT hG (by omega) (by omega) 1 42 (by decide +kernel) rfl rfl hs hsn 1 (by decide) (by decide) rfl (rm_hI (a := 0) (b := 1) rfl hk.1 hk.2) (Nat.le_of_ble_eq_true rfl) hcs (fun f H locs hh hT hL hP => ?_)
    have hLt := rm_lv_tr (k := 1) hLt hL rfl rfl
    have hO := rm_RCE_sc (w := 0) (rm_lvb hL (by decide) rfl : rm_Rb 1 G _ f) hG hsn rfl
    refine rv_run hC.1 hC.2.1 (T := rv_t_X12_broken) rv_k_X12_broken 80 ?_
    refine w_h hC hh hT hG (by omega) (by omega) 97 (by decide +kernel) rfl (h_otherOf base l cI c1 c2 c3 c4 c5 D ad adV a0 s sn hs hsn) hG rfl rfl (Nat.le_of_ble_eq_true rfl) hcs (fun v f1 H locs hh1 hT1 hL hP => ?_)
    obtain ⟨⟨w, rfl, hw⟩, hu⟩ := hP
    subst hu
    have hh := hh1
    have hT := hT1
    clear hh1 hT1 hL
    rw [Int.add_zero] at hT
    obtain ⟨wn, hwn⟩ : ∃ n : Nat, w.toInt = (n : Int) := ⟨w.toInt.toNat, by omega⟩
    refine rv_run hC.1 hC.2.1 (T := rv_t_X12_broken) rv_k_X12_broken 3 ?_
    refine ⟨fun _ => ?_, fun _ => ?_⟩
    · refine rv_run hC.1 hC.2.1 (T := rv_t_X12_broken) rv_k_X12_broken 1 ?_
      exact t74 _ w wn _ H locs hh hT hLt (by decide) hwn (by omega)
    · refine rv_run hC.1 hC.2.1 (T := rv_t_X12_broken) rv_k_X12_broken 2 ?_
      exact t74 _ w wn _ H locs hh hT hLt (by decide) hwn (by omega)
  have t43 : ∀ (H : Heap) (locs : List Loc), rm_h D A st L f H locs → rv_G p l e { frames := rk_q_X12_broken.2.2.2.2.1, cells := 0, slots := 0, locals := rk_q_X12_broken.2.2.2.2.2 } st m ([.ref a0, .int s, .int b] : List Value).toArray below meth c (MQ below (rk_Q (fun v u => rm_TY cI c1 c2 c3 c4 c5 ad G (X + 0) L u ∧ rm_Lv G 1 f0 u ∧ (fun G _ f v u => ∃ x : Int32, v = some (.int x) ∧ 0 ≤ x.toInt ∧ x.toInt ≤ 1) G X f0 v u) (rk_B D (rk_tys cI c1 c2 c3 c4 c5) L A) A) ([.ref a0, .int s, .int b] : List Value).toArray st 0 0 A) rk_q_X12_broken.2.2.1 0 0 H locs 43 [] [(0, .ref a0), (1, .int s), (2, .int b)] := by
    intro H locs hh
    refine rv_run hC.1 hC.2.1 (T := rv_t_X12_broken) rv_k_X12_broken 5 ?_
    refine ⟨fun _ => ?_, fun _ => ?_⟩
    · refine rv_run hC.1 hC.2.1 (T := rv_t_X12_broken) rv_k_X12_broken 1 ?_
      exact t55 _ H locs hh (by decide)
    · refine rv_run hC.1 hC.2.1 (T := rv_t_X12_broken) rv_k_X12_broken 2 ?_
      exact t55 _ H locs hh (by decide)
  have t37 : ∀ (k : Int32) (H : Heap) (locs : List Loc), rm_h D A st L f H locs → rv_G p l e { frames := rk_q_X12_broken.2.2.2.2.1, cells := 0, slots := 0, locals := rk_q_X12_broken.2.2.2.2.2 } st m ([.ref a0, .int s, .int b] : List Value).toArray below meth c (MQ below (rk_Q (fun v u => rm_TY cI c1 c2 c3 c4 c5 ad G (X + 0) L u ∧ rm_Lv G 1 f0 u ∧ (fun G _ f v u => ∃ x : Int32, v = some (.int x) ∧ 0 ≤ x.toInt ∧ x.toInt ≤ 1) G X f0 v u) (rk_B D (rk_tys cI c1 c2 c3 c4 c5) L A) A) ([.ref a0, .int s, .int b] : List Value).toArray st 0 0 A) rk_q_X12_broken.2.2.1 0 0 H locs 37 [.int k] [(0, .ref a0), (1, .int s), (2, .int b)] := by
    intro k H locs hh
    refine rv_run hC.1 hC.2.1 (T := rv_t_X12_broken) rv_k_X12_broken 2 ?_
    refine ⟨fun _ => t43 H locs hh, fun _ => no f H locs hh hT hLt⟩
  refine rv_run hC.1 hC.2.1 (T := rv_t_X12_broken) rv_k_X12_broken 80 ?_
  refine w_at hC hh hT hG (by omega) (by omega) 36 (by decide +kernel) rfl rfl hs hsn 1 (by decide) (by decide) (Nat.le_of_ble_eq_true rfl) hcs (fun z H locs hh hz => ?_)
  refine rv_run hC.1 hC.2.1 (T := rv_t_X12_broken) rv_k_X12_broken 2 ?_
  refine ⟨fun _ => ?_, fun _ => ?_⟩
  · refine rv_run hC.1 hC.2.1 (T := rv_t_X12_broken) rv_k_X12_broken 1 ?_
    exact t37 _ H locs hh
  · refine rv_run hC.1 hC.2.1 (T := rv_t_X12_broken) rv_k_X12_broken 2 ?_
    exact t37 _ H locs hh
end RMX
