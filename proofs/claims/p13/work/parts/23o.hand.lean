def rv_t_X12_send : rv_T := (.branch 0 (.branch 0 (.branch 0 (.branch 0 (.branch 0 (.leaf (0, .aload_n 0, 1)) (.branch 0 (.leaf (16, .iload_n 1, 1)) (.leaf (48, .iload_n 2, 1)))) (.branch 0 (.leaf (40, .if_icmp .le (5), 3)) (.leaf (24, .ifCond .eq (19), 3)))) (.branch 0 (.branch 0 (.leaf (36, .iconst 1, 1)) (.branch 0 (.branch 0 (.leaf (20, .ifCond .eq (23), 3)) (.leaf (84, .ireturn, 1))) (.leaf (52, .aload_n 0, 1)))) (.branch 0 (.branch 0 (.leaf (12, .putfield 227, 3)) (.leaf (44, .ireturn, 1))) (.branch 0 (.leaf (28, .iload_n 1, 1)) (.leaf (60, .invokevirtual 233, 3)))))) (.branch 0 (.branch 0 (.branch 0 (.branch 0 (.branch 0 (.leaf (2, .putfield 29, 3)) (.leaf (66, .goto (-19), 3))) (.leaf (34, .iload_n 2, 1))) (.leaf (99999, .nop, 1))) (.branch 0 (.branch 0 (.branch 0 (.leaf (10, .aload_n 0, 1)) (.leaf (74, .invokevirtual 233, 3))) (.leaf (99999, .nop, 1))) (.leaf (58, .iload_n 3, 1)))) (.branch 0 (.branch 0 (.branch 0 (.branch 0 (.leaf (6, .getfield 227, 3)) (.leaf (70, .iload_n 1, 1))) (.leaf (38, .bipush (120), 2))) (.leaf (54, .aload_n 0, 1))) (.branch 0 (.branch 0 (.leaf (78, .iload_n 1, 1)) (.leaf (46, .istore_n 3, 1))) (.leaf (99999, .nop, 1)))))) (.branch 0 (.branch 0 (.branch 0 (.branch 0 (.leaf (1, .iconst 0, 1)) (.branch 0 (.branch 0 (.leaf (17, .invokevirtual 127, 3)) (.leaf (81, .invokevirtual 50, 3))) (.leaf (49, .if_icmp .ge (20), 3)))) (.leaf (9, .istore_n 2, 1))) (.branch 0 (.branch 0 (.branch 0 (.branch 0 (.leaf (5, .aload_n 0, 1)) (.leaf (69, .aload_n 0, 1))) (.leaf (37, .iadd, 1))) (.leaf (53, .iload_n 1, 1))) (.branch 0 (.branch 0 (.leaf (77, .aload_n 0, 1)) (.leaf (45, .iconst 0, 1))) (.leaf (29, .bipush (8), 2))))) (.branch 0 (.branch 0 (.leaf (35, .iadd, 1)) (.branch 0 (.branch 0 (.leaf (11, .iconst 0, 1)) (.leaf (43, .iconst (-1), 1))) (.branch 0 (.leaf (27, .aload_n 0, 1)) (.leaf (59, .iaload, 1))))) (.branch 0 (.branch 0 (.leaf (71, .sipush (256), 3)) (.branch 0 (.leaf (23, .iload_n 2, 1)) (.leaf (55, .getfield 16, 3)))) (.branch 0 (.branch 0 (.branch 0 (.leaf (15, .aload_n 0, 1)) (.leaf (79, .bipush (8), 2))) (.leaf (47, .iload_n 3, 1))) (.branch 0 (.leaf (31, .invokevirtual 50, 3)) (.leaf (63, .iinc 3 (1), 3))))))))
theorem rv_k_X12_send : rv_tok cX12_send rv_t_X12_send = true := by decide +kernel
section RMX
variable (base : Nat) (l : Launch) (cI c1 c2 c3 c4 c5 : ClassId) (D : va_G) (ad adV : Nat → Nat)
theorem h_send (a0 : Nat) (s : Int32) : rm_Hm base l cI c1 c2 c3 c4 c5 D ad adV rk_q_X12_send [.ref a0, .int s] (fun G _ f => G a0 = some 12) (fun G _ f v u => ∃ x : Int32, v = some (.int x) ∧ -1 ≤ x.toInt ∧ x.toInt ≤ 120) 0 19 := by
  unfold rm_Hm
  refine rm_start (M := rk_q_X12_send) (rk_hNw base ad adV) (rk_hNc base ad adV) (by decide +kernel) (mt := rk_mt [rk_q_X12_isEnd, rk_q_X12_ofEnd, rk_q_X12_queues]) (ml := rk_mlf [(127, 0, 2, 12), (50, 1, 3, 12), (233, 2, 3, 12)]) (fl := rk_flf rk_ftX12) (fun s args h hN => rk_MlOk_of (List.forall_mem_cons.mpr ⟨rk_mck_ok (fun w hw => List.mem_cons_of_mem _ hw) h hN rk_cm_X12_isEnd rk_lk_X12_127, List.forall_mem_cons.mpr ⟨rk_mck_ok (fun w hw => List.mem_cons_of_mem _ hw) h hN rk_cm_X12_ofEnd rk_lk_X12_50, List.forall_mem_cons.mpr ⟨rk_mck_ok (fun w hw => List.mem_cons_of_mem _ hw) h hN rk_cm_X12_queues rk_lk_X12_233, fun _ h => absurd h List.not_mem_nil⟩⟩⟩) (by decide +kernel)) (fun s args h hN => rk_flX12 (fun w hw => List.mem_cons_of_mem _ hw) h hN) (rm_cat1 rfl) (Nat.le_of_ble_eq_true rfl) ?_
  intro p e st m below meth c G X L f0 A hC hh hX0 hXC hT hpre
  have hcs : 0 ≤ 0 ∧ 0 ≤ 0 := ⟨Nat.le_refl 0, Nat.le_refl 0⟩
  have hG : G a0 = some 12 := hpre
  refine rv_run hC.1 hC.2.1 (T := rv_t_X12_send) rv_k_X12_send 80 ?_
  refine w_pf hC hh hT hG (by omega) 1 29 (by decide +kernel) rfl rfl (Or.inl ⟨rfl, _, rfl⟩) ⟨_, rfl, by decide, by decide⟩ rfl (by decide) (fun f H locs hh hT hL hP => ?_)
  have hLt := hL
  refine rv_run hC.1 hC.2.1 (T := rv_t_X12_send) rv_k_X12_send 80 ?_
  refine w_gf hC hh hT hG (by omega) 227 (by decide +kernel) rfl rfl (fun n hn hb => ?_)
  refine rv_run hC.1 hC.2.1 (T := rv_t_X12_send) rv_k_X12_send 80 ?_
  refine w_pf hC hh hT hG (by omega) 17 227 (by decide +kernel) rfl rfl (Or.inl ⟨rfl, _, rfl⟩) ⟨_, rfl, by decide, by decide⟩ rfl (by decide) (fun f H locs hh hT hL hP => ?_)
  have hLt := rm_lv_tr (k := 17) hLt hL rfl rfl
  have no : ∀ (f : Nat → va_E) (H : Heap) (locs : List Loc), rm_h D A st L f H locs → rm_TY cI c1 c2 c3 c4 c5 ad G X L f → rm_Lv G 17 f0 f → rv_G p l e { frames := rk_q_X12_send.2.2.2.2.1, cells := 0, slots := 0, locals := rk_q_X12_send.2.2.2.2.2 } st m ([.ref a0, .int s] : List Value).toArray below meth c (MQ below (rk_Q (fun v u => rm_TY cI c1 c2 c3 c4 c5 ad G (X + 0) L u ∧ rm_Lv G 19 f0 u ∧ (fun G _ f v u => ∃ x : Int32, v = some (.int x) ∧ -1 ≤ x.toInt ∧ x.toInt ≤ 120) G X f0 v u) (rk_B D (rk_tys cI c1 c2 c3 c4 c5) L A) A) ([.ref a0, .int s] : List Value).toArray st 0 0 A) rk_q_X12_send.2.2.1 0 0 H locs 43 [] [(0, .ref a0), (1, .int s), (2, .int n)] := by
    intro f H locs hh hT hL
    refine rv_run hC.1 hC.2.1 (T := rv_t_X12_send) rv_k_X12_send 1 ?_
    refine rm_iret hC hh (by decide +kernel) rfl ⟨by rw [Int.add_zero]; exact hT, rm_lv_up hL rfl, ⟨_, rfl, by decide, by decide⟩⟩
  refine rv_run hC.1 hC.2.1 (T := rv_t_X12_send) rv_k_X12_send 80 ?_
  refine w_k hC hh hT hG (by omega) (by omega) 127 (by decide +kernel) rfl (c_X12_isEnd base l cI c1 c2 c3 c4 c5 D ad adV) (rk_all_c (rk_aM hG) (rk_all_c rk_aF rk_all_0)) rfl rfl (Nat.le_of_ble_eq_true rfl) hcs (fun v f H locs hh hT hL hA => ?_)
  rw [Int.add_zero] at hT
  have hLt := rm_lv_tr (k := 17) hLt hL rfl rfl
  obtain ⟨x, rfl, hx⟩ := rk_alt_2 hA
  refine rv_run hC.1 hC.2.1 (T := rv_t_X12_send) rv_k_X12_send 1 ?_
  refine ⟨fun _ => no f H locs hh hT hLt, fun h => ?_⟩
  obtain ⟨sn, hs, hsn⟩ : ∃ n : Nat, s.toInt = (n : Int) ∧ n < 8 := by
    rcases hx with ⟨-, hx⟩ | hx
    · obtain ⟨w9, e9, x9, e10, y1, y2⟩ := hx _ List.mem_cons_self
      cases e9
      cases e10
      exact ⟨s.toInt.toNat, by omega, by omega⟩
    · exact absurd hx h
  refine rv_run hC.1 hC.2.1 (T := rv_t_X12_send) rv_k_X12_send 2 ?_
  refine ⟨fun _ => no f H locs hh hT hLt, fun h => ?_⟩
  refine rv_run hC.1 hC.2.1 (T := rv_t_X12_send) rv_k_X12_send 80 ?_
  refine w_ofEnd hC hh hT hG (by omega) (by omega) 50 (by decide +kernel) rfl rfl hs hsn 8 (by decide) (by decide) (Nat.le_of_ble_eq_true rfl) hcs (fun q H locs hh hq => ?_)
  have bq := rm_ecT hT hG (w := 8) hsn (by decide) rfl
  have eq : q.toInt = rm_ec (rm_now G f a0) sn 8 := by rw [hq]; rfl
  have e2 := rm_ad (x := q) (y := n) eq rfl (by omega) (by omega)
  have e3 := rm_ad e2 rm_e1 (by omega) (by decide)
  refine rv_run hC.1 hC.2.1 (T := rv_t_X12_send) rv_k_X12_send 6 ?_
  refine ⟨fun h => ?_, fun _ => no f H locs hh hT hLt⟩
  have h120 : (q + n + Int32.ofInt 1).toInt ≤ 120 := h
  rw [e3] at h120
  generalize hQ : rm_ec (rm_now G f a0) sn 8 = Q at *
  have loop : ∀ (d : Nat) (k : Int32) (kn : Nat) (u : Nat → va_E) (H : Heap) (locs : List Loc), rm_h D A st L u H locs → rm_TY cI c1 c2 c3 c4 c5 ad G X L u → rm_qs G f u a0 sn (Q + (kn : Int)) → k.toInt = (kn : Int) → (kn : Int) + (d : Int) = n.toInt → rv_G p l e { frames := rk_q_X12_send.2.2.2.2.1, cells := 0, slots := 0, locals := rk_q_X12_send.2.2.2.2.2 } st m ([.ref a0, .int s] : List Value).toArray below meth c (MQ below (rk_Q (fun v u => rm_TY cI c1 c2 c3 c4 c5 ad G (X + 0) L u ∧ rm_Lv G 19 f0 u ∧ (fun G _ f v u => ∃ x : Int32, v = some (.int x) ∧ -1 ≤ x.toInt ∧ x.toInt ≤ 120) G X f0 v u) (rk_B D (rk_tys cI c1 c2 c3 c4 c5) L A) A) ([.ref a0, .int s] : List Value).toArray st 0 0 A) rk_q_X12_send.2.2.1 0 0 H locs 47 [] [(0, .ref a0), (1, .int s), (2, .int n), (3, .int k)] := by
    intro d
    induction d with
    | zero =>
      intro k kn u H locs hh hT hqs hk hd
      refine rv_run hC.1 hC.2.1 (T := rv_t_X12_send) rv_k_X12_send 3 ?_
      refine ⟨fun _ => ?_, fun h => absurd h (by show ¬ k.toInt < n.toInt; omega)⟩
      refine rv_run hC.1 hC.2.1 (T := rv_t_X12_send) rv_k_X12_send 80 ?_
      refine w_h hC hh hT hG (by omega) (by omega) 233 (by decide +kernel) rfl (h_queues base l cI c1 c2 c3 c4 c5 D ad adV a0 s _ sn hs hsn (Q + (kn : Int)) (by omega) (by decide)) ⟨hG, hqs.2.2⟩ rfl rfl (Nat.le_of_ble_eq_true rfl) hcs (fun v f H locs hh hT hL hP => ?_)
      rw [Int.add_zero] at hT
      obtain ⟨rfl, hq2⟩ := hP
      have hqs := rm_qs_c hqs hq2
      refine rv_run hC.1 hC.2.1 (T := rv_t_X12_send) rv_k_X12_send 80 ?_
      refine w_ofEnd hC hh hT hG (by omega) (by omega) 50 (by decide +kernel) rfl rfl hs hsn 8 (by decide) (by decide) (Nat.le_of_ble_eq_true rfl) hcs (fun z H locs hh hz => ?_)
      have bz := rm_ecT hT hG (w := 8) hsn (by decide) rfl
      have ez : z.toInt = rm_ec (rm_now G f a0) sn 8 := by rw [hz]; rfl
      refine rm_iret hC hh (by decide +kernel) rfl ⟨by rw [Int.add_zero]; exact hT, rm_lv_tr (k := 19) hLt (rm_sE_3 hqs.1 hqs.2.1 hG) rfl rfl, ⟨z, rfl, by omega, by omega⟩⟩
    | succ d ih =>
      intro k kn u H locs hh hT hqs hk hd
      have e7 := rm_ad (x := k) hk rm_e1 (by omega) (by decide)
      refine rv_run hC.1 hC.2.1 (T := rv_t_X12_send) rv_k_X12_send 3 ?_
      refine ⟨fun h => absurd h (by show ¬ n.toInt ≤ k.toInt; omega), fun _ => ?_⟩
      refine rv_run hC.1 hC.2.1 (T := rv_t_X12_send) rv_k_X12_send 80 ?_
      obtain ⟨hL0, fs, aN, aA, aT, aH, aI, e1, e2, -, -, ⟨t1, t2⟩, -⟩ := rm_me hT hG
      obtain ⟨hLT, gT, eT, tT⟩ := rm_ro hT t2 rfl
      refine rm_get (idx := 16) hC hh (by decide +kernel) rfl hL0 e1 t1 ?_
      refine rv_run hC.1 hC.2.1 (T := rv_t_X12_send) rv_k_X12_send 80 ?_
      refine rm_iald hC hh (by decide +kernel) hLT eT rfl (by omega) (by omega) ?_
      obtain ⟨x9, e9, y1, y2⟩ := (tT k.toNatClampNeg (by rw [rm_clamp hk]; omega) : rk_has G X (0, 0, 255) _)
      cases e9
      refine w_h hC hh hT hG (by omega) (by omega) 233 (by decide +kernel) rfl (h_queues base l cI c1 c2 c3 c4 c5 D ad adV a0 s _ sn hs hsn (Q + (kn : Int)) (by omega) ⟨y1, by omega⟩) ⟨hG, hqs.2.2⟩ rfl rfl (Nat.le_of_ble_eq_true rfl) hcs (fun v f H locs hh hT hL hP => ?_)
      rw [Int.add_zero] at hT
      obtain ⟨rfl, hq2⟩ := hP
      have hqs := rm_qs_c hqs hq2
      refine rv_run hC.1 hC.2.1 (T := rv_t_X12_send) rv_k_X12_send 2 ?_
      exact ih (k + Int32.ofInt 1) (kn + 1) f H locs hh hT (by rw [show Q + ((kn + 1 : Nat) : Int) = Q + (kn : Int) + 1 by omega]; exact hqs) (by rw [e7]; omega) (by omega)
  refine rv_run hC.1 hC.2.1 (T := rv_t_X12_send) rv_k_X12_send 2 ?_
  exact loop n.toInt.toNat _ 0 f H locs hh hT (rm_qs_rf (by rw [hQ]; omega)) rfl (by omega)
end RMX
