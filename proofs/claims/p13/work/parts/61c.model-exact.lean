theorem rm_fi_k {G : Nat → Option Nat} {lv : Nat} {f u : Nat → va_E} {a0 : Nat} (hL : rm_Lv G lv f u) (b4 : Nat.testBit lv 4 = false) (hG : G a0 = some 12) : rm_fi u a0 4 = rm_fi f a0 4 := rm_fi_eq ((rm_lvb hL (by decide) b4 : rm_Rb 4 G f u) a0 hG)
theorem rm_fi_i {G : Nat → Option Nat} {lv : Nat} {f u : Nat → va_E} {a0 : Nat} (hL : rm_Lv G lv f u) (b7 : Nat.testBit lv 7 = false) (hG : G a0 = some 12) : rm_fi u a0 11 = rm_fi f a0 11 := rm_fi_eq ((rm_lvb hL (by decide) b7 : rm_Rb 7 G f u) a0 hG)
def rv_t_X12_image : rv_T := (.branch 0 (.branch 0 (.branch 0 (.branch 0 (.branch 0 (.branch 0 (.leaf (0, .aload_n 0, 1)) (.leaf (32, .aload_n 0, 1))) (.branch 0 (.leaf (16, .iconst 0, 1)) (.leaf (48, .getfield 7, 3)))) (.leaf (24, .ifCond .eq (18), 3))) (.branch 0 (.branch 0 (.leaf (36, .invokevirtual 292, 3)) (.leaf (20, .putfield 330, 3))) (.branch 0 (.leaf (44, .getfield 26, 3)) (.leaf (28, .aload_n 0, 1))))) (.branch 0 (.branch 0 (.branch 0 (.leaf (2, .putfield 29, 3)) (.leaf (18, .aload_n 0, 1))) (.branch 0 (.branch 0 (.leaf (10, .getfield 330, 3)) (.leaf (42, .aload_n 0, 1))) (.leaf (99999, .nop, 1)))) (.branch 0 (.branch 0 (.leaf (6, .ifCond .ne (12), 3)) (.leaf (54, .iconst 1, 1))) (.leaf (99999, .nop, 1))))) (.branch 0 (.branch 0 (.branch 0 (.branch 0 (.branch 0 (.leaf (1, .iconst 0, 1)) (.leaf (33, .getfield 26, 3))) (.leaf (17, .ireturn, 1))) (.leaf (9, .aload_n 0, 1))) (.branch 0 (.leaf (5, .iload_n 1, 1)) (.branch 0 (.leaf (13, .ifCond .ne (5), 3)) (.leaf (29, .getfield 7, 3))))) (.branch 0 (.branch 0 (.branch 0 (.leaf (99999, .nop, 1)) (.branch 0 (.leaf (19, .iconst 1, 1)) (.leaf (51, .invokevirtual 292, 3)))) (.branch 0 (.leaf (43, .aload_n 0, 1)) (.leaf (27, .aload_n 0, 1)))) (.branch 0 (.branch 0 (.leaf (39, .goto (15), 3)) (.branch 0 (.leaf (23, .iload_n 1, 1)) (.leaf (55, .ireturn, 1)))) (.leaf (47, .aload_n 0, 1))))))
theorem rv_k_X12_image : rv_tok cX12_image rv_t_X12_image = true := by decide +kernel
def rv_t_X12_end : rv_T := (.branch 0 (.branch 0 (.branch 0 (.branch 0 (.leaf (0, .aload_n 0, 1)) (.leaf (8, .aload_n 0, 1))) (.branch 0 (.leaf (20, .aload_n 0, 1)) (.leaf (12, .invokevirtual 104, 3)))) (.branch 0 (.branch 0 (.branch 0 (.leaf (2, .putfield 29, 3)) (.leaf (18, .iconst 0, 1))) (.leaf (26, .ireturn, 1))) (.branch 0 (.branch 0 (.leaf (6, .iload_n 1, 1)) (.leaf (22, .putfield 227, 3))) (.leaf (99999, .nop, 1))))) (.branch 0 (.branch 0 (.branch 0 (.leaf (1, .iconst 0, 1)) (.branch 0 (.leaf (9, .getfield 227, 3)) (.leaf (25, .iconst 1, 1)))) (.branch 0 (.branch 0 (.leaf (5, .aload_n 0, 1)) (.leaf (21, .iload_n 1, 1))) (.leaf (99999, .nop, 1)))) (.branch 0 (.leaf (19, .ireturn, 1)) (.branch 0 (.leaf (7, .iconst 0, 1)) (.leaf (15, .ifCond .ne (5), 3))))))
theorem rv_k_X12_end : rv_tok cX12_end rv_t_X12_end = true := by decide +kernel
section RMX
variable (base : Nat) (l : Launch) (cI c1 c2 c3 c4 c5 : ClassId) (D : va_G) (ad adV : Nat → Nat)
theorem h_send2 (a0 : Nat) (s : Int32) : rm_Hm base l cI c1 c2 c3 c4 c5 D ad adV rk_q_X12_send [.ref a0, .int s] (fun G _ f => G a0 = some 12) (fun G _ f v u => ∃ x : Int32, v = some (.int x) ∧ (-1 ≤ x.toInt ∧ x.toInt ≤ 120) ∧ rm_fi u a0 4 = 0) 0 19 := by
  unfold rm_Hm
  refine rm_start (M := rk_q_X12_send) (rk_hNw base ad adV) (rk_hNc base ad adV) (by decide +kernel) (mt := rk_mt [rk_q_X12_isEnd, rk_q_X12_ofEnd, rk_q_X12_queues]) (ml := rk_mlf [(127, 0, 2, 12), (50, 1, 3, 12), (233, 2, 3, 12)]) (fl := rk_flf rk_ftX12) (fun s args h hN => rk_MlOk_of (List.forall_mem_cons.mpr ⟨rk_mck_ok (fun w hw => List.mem_cons_of_mem _ hw) h hN rk_cm_X12_isEnd rk_lk_X12_127, List.forall_mem_cons.mpr ⟨rk_mck_ok (fun w hw => List.mem_cons_of_mem _ hw) h hN rk_cm_X12_ofEnd rk_lk_X12_50, List.forall_mem_cons.mpr ⟨rk_mck_ok (fun w hw => List.mem_cons_of_mem _ hw) h hN rk_cm_X12_queues rk_lk_X12_233, fun _ h => absurd h List.not_mem_nil⟩⟩⟩) (by decide +kernel)) (fun s args h hN => rk_flX12 (fun w hw => List.mem_cons_of_mem _ hw) h hN) (rm_cat1 rfl) (Nat.le_of_ble_eq_true rfl) ?_
  intro p e st m below meth c G X L f0 A hC hh hX0 hXC hT hpre
  have hcs : 0 ≤ 0 ∧ 0 ≤ 0 := ⟨Nat.le_refl 0, Nat.le_refl 0⟩
  have hG : G a0 = some 12 := hpre
  refine rv_run hC.1 hC.2.1 (T := rv_t_X12_send) rv_k_X12_send 80 ?_
  refine w_pf hC hh hT hG (by omega) 1 29 (by decide +kernel) rfl rfl (Or.inl ⟨rfl, _, rfl⟩) ⟨_, rfl, by decide, by decide⟩ rfl (by decide) (fun f H locs hh hT hL hP => ?_)
  have hLt := hL
  refine rv_run hC.1 hC.2.1 (T := rv_t_X12_send) rv_k_X12_send 80 ?_
  refine w_gf hC hh hT hG (by omega) 227 (by decide +kernel) rfl rfl (fun n hn hb => ?_)
  refine rv_run hC.1 hC.2.1 (T := rv_t_X12_send) rv_k_X12_send 80 ?_
  refine w_pf hC hh hT hG (by omega) 17 227 (by decide +kernel) rfl rfl (Or.inl ⟨rfl, _, rfl⟩) ⟨_, rfl, by decide, by decide⟩ rfl (by decide) (fun f H locs hh hT hL hP => ?_)
  have hLt := rm_lv_tr (k := 17) hLt hL rfl rfl
  have hz4 : rm_fi f a0 4 = 0 := rm_fi_of hP.1
  have no : ∀ (f : Nat → va_E) (H : Heap) (locs : List Loc), rm_h D A st L f H locs → rm_TY cI c1 c2 c3 c4 c5 ad G X L f → rm_Lv G 17 f0 f → rm_fi f a0 4 = 0 → rv_G p l e { frames := rk_q_X12_send.2.2.2.2.1, cells := 0, slots := 0, locals := rk_q_X12_send.2.2.2.2.2 } st m ([.ref a0, .int s] : List Value).toArray below meth c (MQ below (rk_Q (fun v u => rm_TY cI c1 c2 c3 c4 c5 ad G (X + 0) L u ∧ rm_Lv G 19 f0 u ∧ (fun G _ f v u => ∃ x : Int32, v = some (.int x) ∧ (-1 ≤ x.toInt ∧ x.toInt ≤ 120) ∧ rm_fi u a0 4 = 0) G X f0 v u) (rk_B D (rk_tys cI c1 c2 c3 c4 c5) L A) A) ([.ref a0, .int s] : List Value).toArray st 0 0 A) rk_q_X12_send.2.2.1 0 0 H locs 43 [] [(0, .ref a0), (1, .int s), (2, .int n)] := by
    intro f H locs hh hT hL hz4
    refine rv_run hC.1 hC.2.1 (T := rv_t_X12_send) rv_k_X12_send 1 ?_
    refine rm_iret hC hh (by decide +kernel) rfl ⟨by rw [Int.add_zero]; exact hT, rm_lv_up hL rfl, ⟨_, rfl, ⟨by decide, by decide⟩, hz4⟩⟩
  refine rv_run hC.1 hC.2.1 (T := rv_t_X12_send) rv_k_X12_send 80 ?_
  refine w_k hC hh hT hG (by omega) (by omega) 127 (by decide +kernel) rfl (c_X12_isEnd base l cI c1 c2 c3 c4 c5 D ad adV) (rk_all_c (rk_aM hG) (rk_all_c rk_aF rk_all_0)) rfl rfl (Nat.le_of_ble_eq_true rfl) hcs (fun v f H locs hh hT hL hA => ?_)
  rw [Int.add_zero] at hT
  have hLt := rm_lv_tr (k := 17) hLt hL rfl rfl
  have hz4 := (rm_fi_k hL rfl hG).trans hz4
  obtain ⟨x, rfl, hx⟩ := rk_alt_2 hA
  refine rv_run hC.1 hC.2.1 (T := rv_t_X12_send) rv_k_X12_send 1 ?_
  refine ⟨fun _ => no f H locs hh hT hLt hz4, fun h => ?_⟩
  obtain ⟨sn, hs, hsn⟩ : ∃ n : Nat, s.toInt = (n : Int) ∧ n < 8 := by
    rcases hx with ⟨-, hx⟩ | hx
    · obtain ⟨w9, e9, x9, e10, y1, y2⟩ := hx _ List.mem_cons_self
      cases e9
      cases e10
      exact ⟨s.toInt.toNat, by omega, by omega⟩
    · exact absurd hx h
  refine rv_run hC.1 hC.2.1 (T := rv_t_X12_send) rv_k_X12_send 2 ?_
  refine ⟨fun _ => no f H locs hh hT hLt hz4, fun h => ?_⟩
  refine rv_run hC.1 hC.2.1 (T := rv_t_X12_send) rv_k_X12_send 80 ?_
  refine w_ofEnd hC hh hT hG (by omega) (by omega) 50 (by decide +kernel) rfl rfl hs hsn 8 (by decide) (by decide) (Nat.le_of_ble_eq_true rfl) hcs (fun q H locs hh hq => ?_)
  have bq := rm_ecT hT hG (w := 8) hsn (by decide) rfl
  have eq : q.toInt = rm_ec (rm_now G f a0) sn 8 := by rw [hq]; rfl
  have e2 := rm_ad (x := q) (y := n) eq rfl (by omega) (by omega)
  have e3 := rm_ad e2 rm_e1 (by omega) (by decide)
  refine rv_run hC.1 hC.2.1 (T := rv_t_X12_send) rv_k_X12_send 6 ?_
  refine ⟨fun h => ?_, fun _ => no f H locs hh hT hLt hz4⟩
  have h120 : (q + n + Int32.ofInt 1).toInt ≤ 120 := h
  rw [e3] at h120
  generalize hQ : rm_ec (rm_now G f a0) sn 8 = Q at *
  have loop : ∀ (d : Nat) (k : Int32) (kn : Nat) (u : Nat → va_E) (H : Heap) (locs : List Loc), rm_h D A st L u H locs → rm_TY cI c1 c2 c3 c4 c5 ad G X L u → rm_qs G f u a0 sn (Q + (kn : Int)) → k.toInt = (kn : Int) → (kn : Int) + (d : Int) = n.toInt → rv_G p l e { frames := rk_q_X12_send.2.2.2.2.1, cells := 0, slots := 0, locals := rk_q_X12_send.2.2.2.2.2 } st m ([.ref a0, .int s] : List Value).toArray below meth c (MQ below (rk_Q (fun v u => rm_TY cI c1 c2 c3 c4 c5 ad G (X + 0) L u ∧ rm_Lv G 19 f0 u ∧ (fun G _ f v u => ∃ x : Int32, v = some (.int x) ∧ (-1 ≤ x.toInt ∧ x.toInt ≤ 120) ∧ rm_fi u a0 4 = 0) G X f0 v u) (rk_B D (rk_tys cI c1 c2 c3 c4 c5) L A) A) ([.ref a0, .int s] : List Value).toArray st 0 0 A) rk_q_X12_send.2.2.1 0 0 H locs 47 [] [(0, .ref a0), (1, .int s), (2, .int n), (3, .int k)] := by
    intro d
    induction d with
    | zero =>
      intro k kn u H locs hh hT hqs hk hd
      refine rv_run hC.1 hC.2.1 (T := rv_t_X12_send) rv_k_X12_send 3 ?_
      refine ⟨fun _ => ?_, fun h => absurd h (by show ¬ k.toInt < n.toInt; omega)⟩
      refine rv_run hC.1 hC.2.1 (T := rv_t_X12_send) rv_k_X12_send 80 ?_
      refine w_h hC hh hT hG (by omega) (by omega) 233 (by decide +kernel) rfl (h_queues base l cI c1 c2 c3 c4 c5 D ad adV a0 s _ sn hs hsn (Q + (kn : Int)) (by omega) (by decide)) ⟨hG, hqs.2.2⟩ rfl rfl (Nat.le_of_ble_eq_true rfl) hcs (fun v f H locs hh hT hL hP => ?_)
      rw [Int.add_zero] at hT
      obtain ⟨rfl, hq2⟩ := hP
      have hqs := rm_qs_c hqs hq2
      refine rv_run hC.1 hC.2.1 (T := rv_t_X12_send) rv_k_X12_send 80 ?_
      refine w_ofEnd hC hh hT hG (by omega) (by omega) 50 (by decide +kernel) rfl rfl hs hsn 8 (by decide) (by decide) (Nat.le_of_ble_eq_true rfl) hcs (fun z H locs hh hz => ?_)
      have bz := rm_ecT hT hG (w := 8) hsn (by decide) rfl
      have ez : z.toInt = rm_ec (rm_now G f a0) sn 8 := by rw [hz]; rfl
      refine rm_iret hC hh (by decide +kernel) rfl ⟨by rw [Int.add_zero]; exact hT, rm_lv_tr (k := 19) hLt (rm_sE_3 hqs.1 hqs.2.1 hG) rfl rfl, ⟨z, rfl, ⟨by omega, by omega⟩, (rm_fi_k (rm_sE_3 hqs.1 hqs.2.1 hG) rfl hG).trans hz4⟩⟩
    | succ d ih =>
      intro k kn u H locs hh hT hqs hk hd
      have e7 := rm_ad (x := k) hk rm_e1 (by omega) (by decide)
      refine rv_run hC.1 hC.2.1 (T := rv_t_X12_send) rv_k_X12_send 3 ?_
      refine ⟨fun h => absurd h (by show ¬ n.toInt ≤ k.toInt; omega), fun _ => ?_⟩
      refine rv_run hC.1 hC.2.1 (T := rv_t_X12_send) rv_k_X12_send 80 ?_
      obtain ⟨hL0, fs, aN, aA, aT, aH, aI, e1, e2, -, -, ⟨t1, t2⟩, -⟩ := rm_me hT hG
      obtain ⟨hLT, gT, eT, tT⟩ := rm_ro hT t2 rfl
      refine rm_get (idx := 16) hC hh (by decide +kernel) rfl hL0 e1 t1 ?_
      refine rv_run hC.1 hC.2.1 (T := rv_t_X12_send) rv_k_X12_send 80 ?_
      refine rm_iald hC hh (by decide +kernel) hLT eT rfl (by omega) (by omega) ?_
      obtain ⟨x9, e9, y1, y2⟩ := (tT k.toNatClampNeg (by rw [rm_clamp hk]; omega) : rk_has G X (0, 0, 255) _)
      cases e9
      refine w_h hC hh hT hG (by omega) (by omega) 233 (by decide +kernel) rfl (h_queues base l cI c1 c2 c3 c4 c5 D ad adV a0 s _ sn hs hsn (Q + (kn : Int)) (by omega) ⟨y1, by omega⟩) ⟨hG, hqs.2.2⟩ rfl rfl (Nat.le_of_ble_eq_true rfl) hcs (fun v f H locs hh hT hL hP => ?_)
      rw [Int.add_zero] at hT
      obtain ⟨rfl, hq2⟩ := hP
      have hqs := rm_qs_c hqs hq2
      refine rv_run hC.1 hC.2.1 (T := rv_t_X12_send) rv_k_X12_send 2 ?_
      exact ih (k + Int32.ofInt 1) (kn + 1) f H locs hh hT (by rw [show Q + ((kn + 1 : Nat) : Int) = Q + (kn : Int) + 1 by omega]; exact hqs) (by rw [e7]; omega) (by omega)
  refine rv_run hC.1 hC.2.1 (T := rv_t_X12_send) rv_k_X12_send 2 ?_
  exact loop n.toInt.toNat _ 0 f H locs hh hT (rm_qs_rf (by rw [hQ]; omega)) rfl (by omega)
theorem h_text2 (a0 : Nat) : rm_Hm base l cI c1 c2 c3 c4 c5 D ad adV rk_q_X12_text [.ref a0] (fun G _ f => G a0 = some 12 ∧ rm_one G ∧ rm_INV G f a0) (fun G _ f v u => ∃ x : Int32, v = some (.int x) ∧ (-1 ≤ x.toInt ∧ x.toInt ≤ 400) ∧ rm_fi u a0 4 = 0) 2000 1911 := by
  unfold rm_Hm
  refine rm_start (M := rk_q_X12_text) (rk_hNw base ad adV) (rk_hNc base ad adV) (by decide +kernel) (mt := rk_mt [rk_q_X12_behindBlanks, rk_q_X12_copies, rk_q_X12_errs, rk_q_X12_readCable, rk_q_X12_readTable, rk_q_X12_sign, rk_q_X12_takesWord]) (ml := rk_mlf [(264, 0, 1, 12), (292, 1, 3, 12), (270, 2, 3, 12), (298, 3, 1, 12), (303, 4, 1, 12), (282, 5, 2, 12), (275, 6, 2, 12)]) (fl := rk_flf rk_ftX12) (fun s args h hN => rk_MlOk_of (List.forall_mem_cons.mpr ⟨rk_mck_ok (fun w hw => List.mem_cons_of_mem _ hw) h hN rk_cm_X12_behindBlanks rk_lk_X12_264, List.forall_mem_cons.mpr ⟨rk_mck_ok (fun w hw => List.mem_cons_of_mem _ hw) h hN rk_cm_X12_copies rk_lk_X12_292, List.forall_mem_cons.mpr ⟨rk_mck_ok (fun w hw => List.mem_cons_of_mem _ hw) h hN rk_cm_X12_errs rk_lk_X12_270, List.forall_mem_cons.mpr ⟨rk_mck_ok (fun w hw => List.mem_cons_of_mem _ hw) h hN rk_cm_X12_readCable rk_lk_X12_298, List.forall_mem_cons.mpr ⟨rk_mck_ok (fun w hw => List.mem_cons_of_mem _ hw) h hN rk_cm_X12_readTable rk_lk_X12_303, List.forall_mem_cons.mpr ⟨rk_mck_ok (fun w hw => List.mem_cons_of_mem _ hw) h hN rk_cm_X12_sign rk_lk_X12_282, List.forall_mem_cons.mpr ⟨rk_mck_ok (fun w hw => List.mem_cons_of_mem _ hw) h hN rk_cm_X12_takesWord rk_lk_X12_275, fun _ h => absurd h List.not_mem_nil⟩⟩⟩⟩⟩⟩⟩) (by decide +kernel)) (fun s args h hN => rk_flX12 (fun w hw => List.mem_cons_of_mem _ hw) h hN) (rm_cat1 rfl) (Nat.le_of_ble_eq_true rfl) ?_
  intro p e st m below meth c G X L f0 A hC hh hX0 hXC hT hpre
  have hcs : 0 ≤ 0 ∧ 0 ≤ 0 := ⟨Nat.le_refl 0, Nat.le_refl 0⟩
  obtain ⟨hG, h1, hI⟩ := hpre
  have hXt : X + 2000 ≤ 2000000000 := hXC
  have w1 : ∀ (Y : Int) (f u : Nat → va_E), rm_TY cI c1 c2 c3 c4 c5 ad G Y L u → rm_Lv G 3 f u → rm_fi f a0 9 = 1 → rm_fi u a0 9 = 1 := by
    intro Y f u hT hL h9
    have b9 := rm_fiT hT hG (i := 9) rfl
    have s9 := rm_sp3 hL hG
    omega
  have t124 : ∀ (n : Int32) (nn : Nat) (f : Nat → va_E) (H : Heap) (locs : List Loc), rm_h D A st L f H locs → rm_TY cI c1 c2 c3 c4 c5 ad G (X + 4 * (nn : Int)) L f → rm_Lv G 1911 f0 f → rm_INV G f a0 → rm_fi f a0 4 = 0 → n.toInt = (nn : Int) → ((rm_fi f a0 9 = 1 ∧ nn ≤ 401) ∨ (nn : Int) ≤ rm_fi f a0 7) → rv_G p l e { frames := rk_q_X12_text.2.2.2.2.1, cells := 0, slots := 0, locals := rk_q_X12_text.2.2.2.2.2 } st m ([.ref a0] : List Value).toArray below meth c (MQ below (rk_Q (fun v u => rm_TY cI c1 c2 c3 c4 c5 ad G (X + 2000) L u ∧ rm_Lv G 1911 f0 u ∧ (fun G _ f v u => ∃ x : Int32, v = some (.int x) ∧ (-1 ≤ x.toInt ∧ x.toInt ≤ 400) ∧ rm_fi u a0 4 = 0) G X f0 v u) (rk_B D (rk_tys cI c1 c2 c3 c4 c5) L A) A) ([.ref a0] : List Value).toArray st 0 0 A) rk_q_X12_text.2.2.1 0 0 H locs 124 [] [(0, .ref a0), (1, .int n)] := by
    intro n nn f H locs hh hT hLt hI hz4 hn hj
    have b7 := rm_fiT hT hG (i := 7) rfl
    refine rv_run hC.1 hC.2.1 (T := rv_t_X12_text) rv_k_X12_text 80 ?_
    refine w_gf hC hh hT hG (by omega) 245 (by decide +kernel) rfl rfl (fun x hx hx2 => ?_)
    refine rv_run hC.1 hC.2.1 (T := rv_t_X12_text) rv_k_X12_text 1 ?_
    refine ⟨fun _ => ?_, fun h => ?_⟩
    · refine rv_run hC.1 hC.2.1 (T := rv_t_X12_text) rv_k_X12_text 80 ?_
      obtain ⟨hL0, fs, aN, aA, aT, aH, aI, e1, e2, ⟨n1, n2⟩, ⟨m1, m2⟩, -⟩ := rm_me hT hG
      refine rm_get (idx := 13) hC hh (by decide +kernel) rfl hL0 e1 m1 ?_
      refine rv_run hC.1 hC.2.1 (T := rv_t_X12_text) rv_k_X12_text 80 ?_
      refine rm_get (idx := 7) hC hh (by decide +kernel) rfl hL0 e1 n1 ?_
      refine w_h hC hh hT hG (by omega) (by omega) 292 (by decide +kernel) rfl (h_copies_1 base l cI c1 c2 c3 c4 c5 D ad adV a0 aA aN) ⟨hG, m2, n2⟩ rfl rfl (Nat.le_of_ble_eq_true rfl) hcs (fun v f H locs hh hT hL hP => ?_)
      rw [Int.add_zero] at hT
      have hP : v = none := hP
      subst hP
      have hLt := rm_lv_tr (k := 1911) hLt hL rfl rfl
      have hz4 := (rm_fi_k hL rfl hG).trans hz4
      refine rv_run hC.1 hC.2.1 (T := rv_t_X12_text) rv_k_X12_text 1 ?_
      refine rm_iret hC hh (by decide +kernel) rfl ⟨rk_TY_X (by omega) hT, hLt, ⟨_, rfl, ⟨by decide, by decide⟩, hz4⟩⟩
    · have h : x.toInt = 0 := h
      refine rv_run hC.1 hC.2.1 (T := rv_t_X12_text) rv_k_X12_text 1 ?_
      refine rm_iret hC hh (by decide +kernel) rfl ⟨rk_TY_X (by omega) hT, hLt, ⟨n, rfl, ⟨by omega, by omega⟩, hz4⟩⟩
  have tW : ∀ (n : Int32) (nn : Nat) (f : Nat → va_E) (H : Heap) (locs : List Loc), rm_h D A st L f H locs → rm_TY cI c1 c2 c3 c4 c5 ad G (X + 4 * (nn : Int)) L f → rm_Lv G 1911 f0 f → rm_INV G f a0 → rm_fi f a0 4 = 0 → n.toInt = (nn : Int) → rm_fi f a0 9 = 1 → nn ≤ 401 → rv_G p l e { frames := rk_q_X12_text.2.2.2.2.1, cells := 0, slots := 0, locals := rk_q_X12_text.2.2.2.2.2 } st m ([.ref a0] : List Value).toArray below meth c (MQ below (rk_Q (fun v u => rm_TY cI c1 c2 c3 c4 c5 ad G (X + 2000) L u ∧ rm_Lv G 1911 f0 u ∧ (fun G _ f v u => ∃ x : Int32, v = some (.int x) ∧ (-1 ≤ x.toInt ∧ x.toInt ≤ 400) ∧ rm_fi u a0 4 = 0) G X f0 v u) (rk_B D (rk_tys cI c1 c2 c3 c4 c5) L A) A) ([.ref a0] : List Value).toArray st 0 0 A) rk_q_X12_text.2.2.1 0 0 H locs 52 [] [(0, .ref a0), (1, .int n)] := by
    intro n nn f H locs hh hT hLt hI hz4 hn h9 h4
    refine rv_run hC.1 hC.2.1 (T := rv_t_X12_text) rv_k_X12_text 80 ?_
    refine w_gf hC hh hT hG (by omega) 245 (by decide +kernel) rfl rfl (fun x hx hx2 => ?_)
    refine rv_run hC.1 hC.2.1 (T := rv_t_X12_text) rv_k_X12_text 1 ?_
    refine ⟨fun _ => t124 n nn f H locs hh hT hLt hI hz4 hn (Or.inl ⟨h9, h4⟩), fun h => ?_⟩
    have h : x.toInt = 0 := h
    omega
  have step : ∀ d : Int, (0 < d → ∀ (n : Int32) (nn : Nat) (f : Nat → va_E) (H : Heap) (locs : List Loc), rm_h D A st L f H locs → rm_TY cI c1 c2 c3 c4 c5 ad G (X + 4 * (nn : Int)) L f → rm_Lv G 1911 f0 f → rm_INV G f a0 → rm_fi f a0 4 = 0 → n.toInt = (nn : Int) → (nn : Int) ≤ rm_fi f a0 7 → rm_fi f a0 8 - rm_fi f a0 7 < d → rv_G p l e { frames := rk_q_X12_text.2.2.2.2.1, cells := 0, slots := 0, locals := rk_q_X12_text.2.2.2.2.2 } st m ([.ref a0] : List Value).toArray below meth c (MQ below (rk_Q (fun v u => rm_TY cI c1 c2 c3 c4 c5 ad G (X + 2000) L u ∧ rm_Lv G 1911 f0 u ∧ (fun G _ f v u => ∃ x : Int32, v = some (.int x) ∧ (-1 ≤ x.toInt ∧ x.toInt ≤ 400) ∧ rm_fi u a0 4 = 0) G X f0 v u) (rk_B D (rk_tys cI c1 c2 c3 c4 c5) L A) A) ([.ref a0] : List Value).toArray st 0 0 A) rk_q_X12_text.2.2.1 0 0 H locs 52 [] [(0, .ref a0), (1, .int n)]) → ∀ (n : Int32) (nn : Nat) (f : Nat → va_E) (H : Heap) (locs : List Loc), rm_h D A st L f H locs → rm_TY cI c1 c2 c3 c4 c5 ad G (X + 4 * (nn : Int)) L f → rm_Lv G 1911 f0 f → rm_INV G f a0 → rm_fi f a0 4 = 0 → n.toInt = (nn : Int) → (nn : Int) ≤ rm_fi f a0 7 → rm_fi f a0 8 - rm_fi f a0 7 ≤ d → rv_G p l e { frames := rk_q_X12_text.2.2.2.2.1, cells := 0, slots := 0, locals := rk_q_X12_text.2.2.2.2.2 } st m ([.ref a0] : List Value).toArray below meth c (MQ below (rk_Q (fun v u => rm_TY cI c1 c2 c3 c4 c5 ad G (X + 2000) L u ∧ rm_Lv G 1911 f0 u ∧ (fun G _ f v u => ∃ x : Int32, v = some (.int x) ∧ (-1 ≤ x.toInt ∧ x.toInt ≤ 400) ∧ rm_fi u a0 4 = 0) G X f0 v u) (rk_B D (rk_tys cI c1 c2 c3 c4 c5) L A) A) ([.ref a0] : List Value).toArray st 0 0 A) rk_q_X12_text.2.2.1 0 0 H locs 52 [] [(0, .ref a0), (1, .int n)] := by
    intro d kk n nn f H locs hh hT hLt hI hz4 hn hj hm
    have b7 := rm_fiT hT hG (i := 7) rfl
    have t111 : ∀ (f : Nat → va_E) (H : Heap) (locs : List Loc), rm_h D A st L f H locs → rm_TY cI c1 c2 c3 c4 c5 ad G (X + 4 * (nn : Int) + 4) L f → rm_Lv G 1911 f0 f → rm_INV G f a0 → rm_fi f a0 4 = 0 → (rm_fi f a0 9 = 1 ∨ (0 < d ∧ (nn : Int) + 1 ≤ rm_fi f a0 7 ∧ rm_fi f a0 8 - rm_fi f a0 7 < d)) → rv_G p l e { frames := rk_q_X12_text.2.2.2.2.1, cells := 0, slots := 0, locals := rk_q_X12_text.2.2.2.2.2 } st m ([.ref a0] : List Value).toArray below meth c (MQ below (rk_Q (fun v u => rm_TY cI c1 c2 c3 c4 c5 ad G (X + 2000) L u ∧ rm_Lv G 1911 f0 u ∧ (fun G _ f v u => ∃ x : Int32, v = some (.int x) ∧ (-1 ≤ x.toInt ∧ x.toInt ≤ 400) ∧ rm_fi u a0 4 = 0) G X f0 v u) (rk_B D (rk_tys cI c1 c2 c3 c4 c5) L A) A) ([.ref a0] : List Value).toArray st 0 0 A) rk_q_X12_text.2.2.1 0 0 H locs 111 [] [(0, .ref a0), (1, .int n)] := by
      intro f H locs hh hT hLt hI hz4 hj
      have en := rm_ad (x := n) hn rm_e1 (by omega) (by decide)
      refine rv_run hC.1 hC.2.1 (T := rv_t_X12_text) rv_k_X12_text 80 ?_
      refine w_h hC hh hT hG (by omega) (by omega) 282 (by decide +kernel) rfl (h_sign base l cI c1 c2 c3 c4 c5 D ad adV a0 _ (by decide)) hG rfl rfl (Nat.le_of_ble_eq_true rfl) hcs (fun v u H locs hh hT hL hP => ?_)
      rw [Int.add_zero] at hT
      have hP : v = none := hP
      subst hP
      have s1 := rm_sp hL hG
      have hLt := rm_lv_tr (k := 1911) hLt hL rfl rfl
      have hz4 := (rm_fi_k hL rfl hG).trans hz4
      have hI := rm_I1 hL hG hI
      have hT : rm_TY cI c1 c2 c3 c4 c5 ad G (X + 4 * ((nn + 1 : Nat) : Int)) L u := rk_TY_X (by omega) hT
      have b9 := rm_fiT hT hG (i := 9) rfl
      refine rv_run hC.1 hC.2.1 (T := rv_t_X12_text) rv_k_X12_text 5 ?_
      by_cases h9 : rm_fi u a0 9 = 1
      · exact tW _ (nn + 1) u H locs hh hT hLt hI hz4 (by rw [en]; omega) h9 (by omega)
      · obtain ⟨g1, g2, g3⟩ := hj.resolve_left (by omega)
        exact kk g1 _ (nn + 1) u H locs hh hT hLt hI hz4 (by rw [en]; omega) (by omega) (by omega)
    refine rv_run hC.1 hC.2.1 (T := rv_t_X12_text) rv_k_X12_text 80 ?_
    refine w_gf hC hh hT hG (by omega) 245 (by decide +kernel) rfl rfl (fun x hx hx2 => ?_)
    refine rv_run hC.1 hC.2.1 (T := rv_t_X12_text) rv_k_X12_text 1 ?_
    refine ⟨fun _ => t124 n nn f H locs hh hT hLt hI hz4 hn (Or.inr hj), fun _ => ?_⟩
    refine rv_run hC.1 hC.2.1 (T := rv_t_X12_text) rv_k_X12_text 80 ?_
    refine w_h hC hh hT hG (by omega) (by omega) 264 (by decide +kernel) rfl (h_behindBlanks base l cI c1 c2 c3 c4 c5 D ad adV a0) hG rfl rfl (Nat.le_of_ble_eq_true rfl) hcs (fun v f1 H locs hh hT hL hP => ?_)
    rw [Int.add_zero] at hT
    obtain ⟨y, rfl, hy1, hy2, hy3, -⟩ := hP
    have s1 := rm_sp hL hG
    have hLt := rm_lv_tr (k := 1911) hLt hL rfl rfl
    have hz4 := (rm_fi_k hL rfl hG).trans hz4
    have hI := rm_I1 hL hG hI
    refine rv_run hC.1 hC.2.1 (T := rv_t_X12_text) rv_k_X12_text 2 ?_
    refine ⟨fun _ => t124 n nn f1 H locs hh hT hLt hI hz4 hn (Or.inr (by omega)), fun h => ?_⟩
    have h : ¬ y.toInt = -1 := h
    have hlt := hy3.resolve_right h
    refine rv_run hC.1 hC.2.1 (T := rv_t_X12_text) rv_k_X12_text 80 ?_
    refine rj_ldcw (idx := 296) (i := 0) (tx := "cable") hC (by decide +kernel) (by decide) ?_
    refine w_h hC hh hT hG (by omega) (by omega) 275 (by decide +kernel) rfl (h_takesWord base l cI c1 c2 c3 c4 c5 D ad adV a0 0 (by decide)) hG rfl rfl (Nat.le_of_ble_eq_true rfl) hcs (fun v f2 H locs hh hT hL hP => ?_)
    rw [Int.add_zero] at hT
    obtain ⟨w, rfl, hw⟩ := hP
    have s2 := rm_sp hL hG
    have hLt := rm_lv_tr (k := 1911) hLt hL rfl rfl
    have hz4 := (rm_fi_k hL rfl hG).trans hz4
    have hI := rm_I1 hL hG hI
    refine rv_run hC.1 hC.2.1 (T := rv_t_X12_text) rv_k_X12_text 1 ?_
    refine ⟨fun _ => ?_, fun h => ?_⟩
    · refine rv_run hC.1 hC.2.1 (T := rv_t_X12_text) rv_k_X12_text 80 ?_
      refine rj_ldcw (idx := 301) (i := 1) (tx := "table") hC (by decide +kernel) (by decide) ?_
      refine w_h hC hh hT hG (by omega) (by omega) 275 (by decide +kernel) rfl (h_takesWord base l cI c1 c2 c3 c4 c5 D ad adV a0 1 (by decide)) hG rfl rfl (Nat.le_of_ble_eq_true rfl) hcs (fun v f3 H locs hh hT hL hP => ?_)
      rw [Int.add_zero] at hT
      obtain ⟨w, rfl, hw⟩ := hP
      have s3 := rm_sp hL hG
      have hLt := rm_lv_tr (k := 1911) hLt hL rfl rfl
      have hz4 := (rm_fi_k hL rfl hG).trans hz4
      have hI := rm_I1 hL hG hI
      refine rv_run hC.1 hC.2.1 (T := rv_t_X12_text) rv_k_X12_text 1 ?_
      refine ⟨fun _ => ?_, fun h => ?_⟩
      · refine rv_run hC.1 hC.2.1 (T := rv_t_X12_text) rv_k_X12_text 80 ?_
        refine w_gf hC hh hT hG (by omega) 236 (by decide +kernel) rfl rfl (fun z hz hz2 => ?_)
        refine w_h hC hh hT hG (by omega) (by omega) 270 (by decide +kernel) rfl (h_errs base l cI c1 c2 c3 c4 c5 D ad adV a0 _ _) hG rfl rfl (Nat.le_of_ble_eq_true rfl) hcs (fun v f H locs hh hT hL hP => ?_)
        rw [Int.add_zero] at hT
        obtain ⟨⟨x9, rfl, -⟩, h9, -⟩ := hP
        have hLt := rm_lv_tr (k := 1911) hLt hL rfl rfl
        have hz4 := (rm_fi_k hL rfl hG).trans hz4
        have hI := rm_I1 hL hG hI
        refine rv_run hC.1 hC.2.1 (T := rv_t_X12_text) rv_k_X12_text 1 ?_
        exact t111 f H locs hh (rk_TY_X (by omega) hT) hLt hI hz4 (Or.inl h9)
      · have h : ¬ w.toInt = 0 := h
        have hw := hw.resolve_left h
        refine rv_run hC.1 hC.2.1 (T := rv_t_X12_text) rv_k_X12_text 80 ?_
        refine w_h hC hh hT hG (by omega) (by omega) 303 (by decide +kernel) rfl (h_readTable base l cI c1 c2 c3 c4 c5 D ad adV a0) hG rfl rfl (Nat.le_of_ble_eq_true rfl) hcs (fun v f4 H locs hh hT hL hP => ?_)
        rw [Int.add_zero] at hT
        have hP : v = none := hP
        subst hP
        have s4 := rm_sp hL hG
        have hLt := rm_lv_tr (k := 1911) hLt hL rfl rfl
        have hz4 := (rm_fi_k hL rfl hG).trans hz4
        have hI := rm_I1 hL hG hI
        refine rv_run hC.1 hC.2.1 (T := rv_t_X12_text) rv_k_X12_text 1 ?_
        exact t111 f4 H locs hh (rk_TY_X (by omega) hT) hLt hI hz4 (Or.inr ⟨by omega, by omega, by omega⟩)
    · have h : ¬ w.toInt = 0 := h
      have hw := hw.resolve_left h
      refine rv_run hC.1 hC.2.1 (T := rv_t_X12_text) rv_k_X12_text 80 ?_
      refine w_kI hC hh hT hG (by omega) (by omega) 298 (by decide +kernel) rfl (c_X12_readCable base l cI c1 c2 c3 c4 c5 D ad adV) (rk_all_c (rk_aM hG) rk_all_0) (rm_PI_of h1 hG hI) rfl rfl (Nat.le_of_ble_eq_true rfl) hcs (fun v f4 H locs hh hT hL hA => ?_)
      cases rk_alt_vn hA
      have s4 := rm_sp3 hL hG
      have hLt := rm_lv_tr (k := 1911) hLt hL rfl rfl
      have hz4 := (rm_fi_k hL rfl hG).trans hz4
      have hI := rm_I3 hL h1 hG hI
      refine rv_run hC.1 hC.2.1 (T := rv_t_X12_text) rv_k_X12_text 1 ?_
      exact t111 f4 H locs hh hT hLt hI hz4 (Or.inr ⟨by omega, by omega, by omega⟩)
  have loop : ∀ (d : Nat) (n : Int32) (nn : Nat) (f : Nat → va_E) (H : Heap) (locs : List Loc), rm_h D A st L f H locs → rm_TY cI c1 c2 c3 c4 c5 ad G (X + 4 * (nn : Int)) L f → rm_Lv G 1911 f0 f → rm_INV G f a0 → rm_fi f a0 4 = 0 → n.toInt = (nn : Int) → (nn : Int) ≤ rm_fi f a0 7 → rm_fi f a0 8 - rm_fi f a0 7 ≤ (d : Int) → rv_G p l e { frames := rk_q_X12_text.2.2.2.2.1, cells := 0, slots := 0, locals := rk_q_X12_text.2.2.2.2.2 } st m ([.ref a0] : List Value).toArray below meth c (MQ below (rk_Q (fun v u => rm_TY cI c1 c2 c3 c4 c5 ad G (X + 2000) L u ∧ rm_Lv G 1911 f0 u ∧ (fun G _ f v u => ∃ x : Int32, v = some (.int x) ∧ (-1 ≤ x.toInt ∧ x.toInt ≤ 400) ∧ rm_fi u a0 4 = 0) G X f0 v u) (rk_B D (rk_tys cI c1 c2 c3 c4 c5) L A) A) ([.ref a0] : List Value).toArray st 0 0 A) rk_q_X12_text.2.2.1 0 0 H locs 52 [] [(0, .ref a0), (1, .int n)] := by
    intro d
    induction d with
    | zero =>
      intro n nn f H locs hh hT hLt hI hz4 hn hj hm
      exact step 0 (fun h => absurd h (by decide)) n nn f H locs hh hT hLt hI hz4 hn hj hm
    | succ d ih =>
      intro n nn f H locs hh hT hLt hI hz4 hn hj hm
      exact step ((d : Int) + 1) (fun _ n nn f H locs hh hT hLt hI hz4 hn hj hm => ih n nn f H locs hh hT hLt hI hz4 hn hj (by omega)) n nn f H locs hh hT hLt hI hz4 hn hj (by omega)
  refine rv_run hC.1 hC.2.1 (T := rv_t_X12_text) rv_k_X12_text 80 ?_
  refine w_pf hC hh hT hG (by omega) 1 29 (by decide +kernel) rfl rfl (Or.inl ⟨rfl, _, rfl⟩) ⟨_, rfl, by decide, by decide⟩ rfl (by decide) (fun f H locs hh hT hL hP => ?_)
  have hLt := rm_lv_up (m := 1911) hL rfl
  have hI := rm_INV_eq (rm_lvb hL (by decide) rfl : rm_Rb 1 G _ _) (rm_lvb hL (by decide) rfl : rm_Rb 8 G _ _) hG hI
  refine rv_run hC.1 hC.2.1 (T := rv_t_X12_text) rv_k_X12_text 80 ?_
  refine w_pf hC hh hT hG (by omega) 513 236 (by decide +kernel) rfl rfl (Or.inl ⟨rfl, _, rfl⟩) ⟨_, rfl, by decide, by decide⟩ rfl (by decide) (fun f H locs hh hT hL hP => ?_)
  have hLt := rm_lv_tr (k := 1911) hLt hL rfl rfl
  have hI := rm_INV_eq (rm_lvb hL (by decide) rfl : rm_Rb 1 G _ _) (rm_lvb hL (by decide) rfl : rm_Rb 8 G _ _) hG hI
  refine rv_run hC.1 hC.2.1 (T := rv_t_X12_text) rv_k_X12_text 80 ?_
  refine w_gf hC hh hT hG (by omega) 227 (by decide +kernel) rfl rfl (fun x hx hx2 => ?_)
  refine w_pf hC hh hT hG (by omega) 513 239 (by decide +kernel) rfl rfl (Or.inl ⟨rfl, _, rfl⟩) ⟨_, rfl, hx2.1, hx2.2⟩ rfl (by decide) (fun f H locs hh hT hL hP => ?_)
  have hLt := rm_lv_tr (k := 1911) hLt hL rfl rfl
  have hI := rm_INV_eq (rm_lvb hL (by decide) rfl : rm_Rb 1 G _ _) (rm_lvb hL (by decide) rfl : rm_Rb 8 G _ _) hG hI
  refine rv_run hC.1 hC.2.1 (T := rv_t_X12_text) rv_k_X12_text 80 ?_
  refine w_pf hC hh hT hG (by omega) 17 227 (by decide +kernel) rfl rfl (Or.inl ⟨rfl, _, rfl⟩) ⟨_, rfl, by decide, by decide⟩ rfl (by decide) (fun f H locs hh hT hL hP => ?_)
  have hLt := rm_lv_tr (k := 1911) hLt hL rfl rfl
  have hz4 : rm_fi f a0 4 = 0 := rm_fi_of hP.1
  have hI := rm_INV_eq (rm_lvb hL (by decide) rfl : rm_Rb 1 G _ _) (rm_lvb hL (by decide) rfl : rm_Rb 8 G _ _) hG hI
  refine rv_run hC.1 hC.2.1 (T := rv_t_X12_text) rv_k_X12_text 80 ?_
  refine w_pf hC hh hT hG (by omega) 1025 245 (by decide +kernel) rfl rfl (Or.inr ⟨rfl, Or.inl rfl⟩) ⟨_, rfl, by decide, by decide⟩ rfl (by decide) (fun f H locs hh hT hL hP => ?_)
  have hLt := rm_lv_tr (k := 1911) hLt hL rfl rfl
  have hz4 := (rm_fi_k hL rfl hG).trans hz4
  have hI := rm_INV_eq (rm_lvb hL (by decide) rfl : rm_Rb 1 G _ _) (rm_lvb hL (by decide) rfl : rm_Rb 8 G _ _) hG hI
  refine rv_run hC.1 hC.2.1 (T := rv_t_X12_text) rv_k_X12_text 80 ?_
  refine w_pf hC hh hT hG (by omega) 1 249 (by decide +kernel) rfl rfl (Or.inl ⟨rfl, _, rfl⟩) (rk_full_ok _) rfl (by decide) (fun f H locs hh hT hL hP => ?_)
  have hLt := rm_lv_tr (k := 1911) hLt hL rfl rfl
  have hz4 := (rm_fi_k hL rfl hG).trans hz4
  have hI := rm_INV_eq (rm_lvb hL (by decide) rfl : rm_Rb 1 G _ _) (rm_lvb hL (by decide) rfl : rm_Rb 8 G _ _) hG hI
  refine rv_run hC.1 hC.2.1 (T := rv_t_X12_text) rv_k_X12_text 80 ?_
  refine w_pf hC hh hT hG (by omega) 1 19 (by decide +kernel) rfl rfl (Or.inl ⟨rfl, _, rfl⟩) (rk_full_ok _) rfl (by decide) (fun f H locs hh hT hL hP => ?_)
  have hLt := rm_lv_tr (k := 1911) hLt hL rfl rfl
  have hz4 := (rm_fi_k hL rfl hG).trans hz4
  have hI := rm_INV_eq (rm_lvb hL (by decide) rfl : rm_Rb 1 G _ _) (rm_lvb hL (by decide) rfl : rm_Rb 8 G _ _) hG hI
  refine rv_run hC.1 hC.2.1 (T := rv_t_X12_text) rv_k_X12_text 80 ?_
  obtain ⟨hL0, fs, aN, aA, aT, aH, aI, e1, e2, ⟨n1, n2⟩, ⟨m1, m2⟩, -⟩ := rm_me hT hG
  refine rm_get (idx := 7) hC hh (by decide +kernel) rfl hL0 e1 n1 ?_
  refine rv_run hC.1 hC.2.1 (T := rv_t_X12_text) rv_k_X12_text 80 ?_
  refine rm_get (idx := 13) hC hh (by decide +kernel) rfl hL0 e1 m1 ?_
  refine w_h hC hh hT hG (by omega) (by omega) 292 (by decide +kernel) rfl (h_copies_0 base l cI c1 c2 c3 c4 c5 D ad adV a0 aN aA) ⟨hG, n2, m2⟩ rfl rfl (Nat.le_of_ble_eq_true rfl) hcs (fun v f H locs hh hT hL hP => ?_)
  rw [Int.add_zero] at hT
  have hP : v = none := hP
  subst hP
  have hLt := rm_lv_tr (k := 1911) hLt hL rfl rfl
  have hz4 := (rm_fi_k hL rfl hG).trans hz4
  have hI := (rm_lvb hL (by decide) rfl : rm_Rb 3 G _ f) h1 a0 hG hI
  have b7 := rm_fiT hT hG (i := 7) rfl
  have b8 := rm_fiT hT hG (i := 8) rfl
  refine rv_run hC.1 hC.2.1 (T := rv_t_X12_text) rv_k_X12_text 2 ?_
  exact loop 400 _ 0 f H locs hh (rk_TY_X (by omega) hT) hLt hI hz4 rfl (by omega) (by omega)
theorem h_image2 (a0 : Nat) (t : Int32) : rm_Hm base l cI c1 c2 c3 c4 c5 D ad adV rk_q_X12_image [.ref a0, .int t] (fun G _ f => G a0 = some 12) (fun G _ f v u => ∃ x : Int32, v = some (.int x) ∧ ((t.toInt = 0 ∧ rm_fi f a0 11 = 0 ∧ x.toInt = 0 ∧ rm_fi u a0 11 = 0) ∨ (x.toInt = 1 ∧ rm_fi u a0 11 = 1 ∧ (¬ t.toInt = 0 ∨ ¬ rm_fi f a0 11 = 0)))) 0 487 := by
  unfold rm_Hm
  refine rm_start (M := rk_q_X12_image) (rk_hNw base ad adV) (rk_hNc base ad adV) (by decide +kernel) (mt := rk_mt [rk_q_X12_copies]) (ml := rk_mlf [(292, 0, 3, 12)]) (fl := rk_flf rk_ftX12) (fun s args h hN => rk_MlOk_of (List.forall_mem_cons.mpr ⟨rk_mck_ok (fun w hw => List.mem_cons_of_mem _ hw) h hN rk_cm_X12_copies rk_lk_X12_292, fun _ h => absurd h List.not_mem_nil⟩) (by decide +kernel)) (fun s args h hN => rk_flX12 (fun w hw => List.mem_cons_of_mem _ hw) h hN) (rm_cat1 rfl) (Nat.le_of_ble_eq_true rfl) ?_
  intro p e st m below meth c G X L f0 A hC hh hX0 hXC hT hpre
  have hcs : 0 ≤ 0 ∧ 0 ≤ 0 := ⟨Nat.le_refl 0, Nat.le_refl 0⟩
  have hG : G a0 = some 12 := hpre
  have t18 : ∀ (f : Nat → va_E) (H : Heap) (locs : List Loc), rm_h D A st L f H locs → rm_TY cI c1 c2 c3 c4 c5 ad G X L f → rm_Lv G 487 f0 f → (¬ t.toInt = 0 ∨ ¬ rm_fi f0 a0 11 = 0) → rv_G p l e { frames := rk_q_X12_image.2.2.2.2.1, cells := 0, slots := 0, locals := rk_q_X12_image.2.2.2.2.2 } st m ([.ref a0, .int t] : List Value).toArray below meth c (MQ below (rk_Q (fun v u => rm_TY cI c1 c2 c3 c4 c5 ad G (X + 0) L u ∧ rm_Lv G 487 f0 u ∧ (fun G _ f v u => ∃ x : Int32, v = some (.int x) ∧ ((t.toInt = 0 ∧ rm_fi f a0 11 = 0 ∧ x.toInt = 0 ∧ rm_fi u a0 11 = 0) ∨ (x.toInt = 1 ∧ rm_fi u a0 11 = 1 ∧ (¬ t.toInt = 0 ∨ ¬ rm_fi f a0 11 = 0)))) G X f0 v u) (rk_B D (rk_tys cI c1 c2 c3 c4 c5) L A) A) ([.ref a0, .int t] : List Value).toArray st 0 0 A) rk_q_X12_image.2.2.1 0 0 H locs 18 [] [(0, .ref a0), (1, .int t)] := by
    intro f H locs hh hT hLt hj
    refine rv_run hC.1 hC.2.1 (T := rv_t_X12_image) rv_k_X12_image 80 ?_
    refine w_pf hC hh hT hG (by omega) 129 330 (by decide +kernel) rfl rfl (Or.inr ⟨rfl, Or.inr rfl⟩) ⟨_, rfl, by decide, by decide⟩ rfl (by decide) (fun f H locs hh hT hL hP => ?_)
    have k7 : rm_fi f a0 11 = 1 := rm_fi_of hP.1
    have hLt := rm_lv_tr (k := 487) hLt hL rfl rfl
    refine rv_run hC.1 hC.2.1 (T := rv_t_X12_image) rv_k_X12_image 2 ?_
    refine ⟨fun h => ?_, fun h => ?_⟩
    · refine rv_run hC.1 hC.2.1 (T := rv_t_X12_image) rv_k_X12_image 80 ?_
      obtain ⟨hL0, fs, aN, aA, aT, aH, aI, e1, e2, ⟨n1, n2⟩, ⟨m1, m2⟩, -, -, ⟨i1, i2⟩, -⟩ := rm_me hT hG
      refine rm_get (idx := 26) hC hh (by decide +kernel) rfl hL0 e1 i1 ?_
      refine rv_run hC.1 hC.2.1 (T := rv_t_X12_image) rv_k_X12_image 80 ?_
      refine rm_get (idx := 7) hC hh (by decide +kernel) rfl hL0 e1 n1 ?_
      refine w_h hC hh hT hG (by omega) (by omega) 292 (by decide +kernel) rfl (h_copies_3 base l cI c1 c2 c3 c4 c5 D ad adV a0 aI aN) ⟨hG, i2, n2⟩ rfl rfl (Nat.le_of_ble_eq_true rfl) hcs (fun v f2 H locs hh hT hL hP => ?_)
      rw [Int.add_zero] at hT
      have hP : v = none := hP
      subst hP
      have k8 := (rm_fi_i hL rfl hG).trans k7
      refine rv_run hC.1 hC.2.1 (T := rv_t_X12_image) rv_k_X12_image 1 ?_
      refine rm_zret hC hh (by decide +kernel) rfl (Or.inr rfl) ⟨by rw [Int.add_zero]; exact hT, rm_lv_tr (k := 487) hLt hL rfl rfl, ⟨_, rfl, Or.inr ⟨rfl, k8, hj⟩⟩⟩
    · refine rv_run hC.1 hC.2.1 (T := rv_t_X12_image) rv_k_X12_image 80 ?_
      obtain ⟨hL0, fs, aN, aA, aT, aH, aI, e1, e2, ⟨n1, n2⟩, ⟨m1, m2⟩, -, -, ⟨i1, i2⟩, -⟩ := rm_me hT hG
      refine rm_get (idx := 7) hC hh (by decide +kernel) rfl hL0 e1 n1 ?_
      refine rv_run hC.1 hC.2.1 (T := rv_t_X12_image) rv_k_X12_image 80 ?_
      refine rm_get (idx := 26) hC hh (by decide +kernel) rfl hL0 e1 i1 ?_
      refine w_h hC hh hT hG (by omega) (by omega) 292 (by decide +kernel) rfl (h_copies_2 base l cI c1 c2 c3 c4 c5 D ad adV a0 aN aI) ⟨hG, n2, i2⟩ rfl rfl (Nat.le_of_ble_eq_true rfl) hcs (fun v f2 H locs hh hT hL hP => ?_)
      rw [Int.add_zero] at hT
      have hP : v = none := hP
      subst hP
      have k8 := (rm_fi_i hL rfl hG).trans k7
      refine rv_run hC.1 hC.2.1 (T := rv_t_X12_image) rv_k_X12_image 2 ?_
      refine rm_zret hC hh (by decide +kernel) rfl (Or.inr rfl) ⟨by rw [Int.add_zero]; exact hT, rm_lv_tr (k := 487) hLt hL rfl rfl, ⟨_, rfl, Or.inr ⟨rfl, k8, hj⟩⟩⟩
  refine rv_run hC.1 hC.2.1 (T := rv_t_X12_image) rv_k_X12_image 80 ?_
  refine w_pf hC hh hT hG (by omega) 1 29 (by decide +kernel) rfl rfl (Or.inl ⟨rfl, _, rfl⟩) ⟨_, rfl, by decide, by decide⟩ rfl (by decide) (fun f H locs hh hT hL hP => ?_)
  have hLt := rm_lv_up (m := 487) hL rfl
  have k7 := rm_fi_i hL rfl hG
  refine rv_run hC.1 hC.2.1 (T := rv_t_X12_image) rv_k_X12_image 2 ?_
  refine ⟨fun h => t18 f H locs hh hT hLt (Or.inl h), fun h => ?_⟩
  have ht : t.toInt = 0 := by
    first | exact h | exact Classical.not_not.mp h
  refine rv_run hC.1 hC.2.1 (T := rv_t_X12_image) rv_k_X12_image 80 ?_
  refine w_gf hC hh hT hG (by omega) 330 (by decide +kernel) rfl rfl (fun x hx hb => ?_)
  refine rv_run hC.1 hC.2.1 (T := rv_t_X12_image) rv_k_X12_image 1 ?_
  refine ⟨fun h => ?_, fun h => ?_⟩
  · have h : ¬ x.toInt = 0 := h
    exact t18 f H locs hh hT hLt (Or.inr (by omega))
  · have h : x.toInt = 0 := by
      first | exact h | exact Classical.not_not.mp h
    refine rv_run hC.1 hC.2.1 (T := rv_t_X12_image) rv_k_X12_image 1 ?_
    refine rm_zret hC hh (by decide +kernel) rfl (Or.inl rfl) ⟨by rw [Int.add_zero]; exact hT, hLt, ⟨_, rfl, Or.inl ⟨ht, by omega, rfl, by omega⟩⟩⟩
theorem h_end2 (a0 : Nat) (n : Int32) : rm_Hm base l cI c1 c2 c3 c4 c5 D ad adV rk_q_X12_end [.ref a0, .int n] (fun G _ f => G a0 = some 12) (fun G _ f v u => ∃ x : Int32, v = some (.int x) ∧ ((x.toInt = 0 ∧ (n.toInt < 0 ∨ rm_fi f a0 4 < n.toInt) ∧ rm_fi u a0 4 = rm_fi f a0 4) ∨ (x.toInt = 1 ∧ (0 ≤ n.toInt ∧ n.toInt ≤ rm_fi f a0 4) ∧ rm_fi u a0 4 = n.toInt))) 0 17 := by
  unfold rm_Hm
  refine rm_start (M := rk_q_X12_end) (rk_hNw base ad adV) (rk_hNc base ad adV) (by decide +kernel) (mt := rk_mt [rk_q_X12_isIn]) (ml := rk_mlf [(104, 0, 4, 12)]) (fl := rk_flf rk_ftX12) (fun s args h hN => rk_MlOk_of (List.forall_mem_cons.mpr ⟨rk_mck_ok (fun w hw => List.mem_cons_of_mem _ hw) h hN rk_cm_X12_isIn rk_lk_X12_104, fun _ h => absurd h List.not_mem_nil⟩) (by decide +kernel)) (fun s args h hN => rk_flX12 (fun w hw => List.mem_cons_of_mem _ hw) h hN) (rm_cat1 rfl) (Nat.le_of_ble_eq_true rfl) ?_
  intro p e st m below meth c G X L f0 A hC hh hX0 hXC hT hpre
  have hcs : 0 ≤ 0 ∧ 0 ≤ 0 := ⟨Nat.le_refl 0, Nat.le_refl 0⟩
  have hG : G a0 = some 12 := hpre
  refine rv_run hC.1 hC.2.1 (T := rv_t_X12_end) rv_k_X12_end 80 ?_
  refine w_pf hC hh hT hG (by omega) 1 29 (by decide +kernel) rfl rfl (Or.inl ⟨rfl, _, rfl⟩) ⟨_, rfl, by decide, by decide⟩ rfl (by decide) (fun f H locs hh hT hL hP => ?_)
  have hLt := hL
  have k4 := rm_fi_k hL rfl hG
  refine rv_run hC.1 hC.2.1 (T := rv_t_X12_end) rv_k_X12_end 80 ?_
  refine w_gf hC hh hT hG (by omega) 227 (by decide +kernel) rfl rfl (fun x hx hb => ?_)
  refine w_h hC hh hT hG (by omega) (by omega) 104 (by decide +kernel) rfl (h_isIn base l cI c1 c2 c3 c4 c5 D ad adV a0 n _ x) hG rfl rfl (Nat.le_of_ble_eq_true rfl) hcs (fun v f1 H locs hh hT hL hP => ?_)
  rw [Int.add_zero] at hT
  obtain ⟨⟨y, rfl, hy⟩, -⟩ := hP
  have e0 : (Int32.ofInt 0).toInt = 0 := rfl
  rw [e0] at hy
  have k5 := rm_fi_k hL rfl hG
  have hLt := rm_lv_tr (k := 1) hLt hL rfl rfl
  refine rv_run hC.1 hC.2.1 (T := rv_t_X12_end) rv_k_X12_end 1 ?_
  refine ⟨fun h => ?_, fun h => ?_⟩
  · have h : ¬ y.toInt = 0 := h
    refine rv_run hC.1 hC.2.1 (T := rv_t_X12_end) rv_k_X12_end 80 ?_
    refine w_pf hC hh hT hG (by omega) 17 227 (by decide +kernel) rfl rfl (Or.inl ⟨rfl, _, rfl⟩) ⟨_, rfl, by omega, by omega⟩ rfl (by decide) (fun f2 H locs hh hT hL hP => ?_)
    have k6 := rm_fi_of hP.1
    refine rv_run hC.1 hC.2.1 (T := rv_t_X12_end) rv_k_X12_end 1 ?_
    refine rm_zret hC hh (by decide +kernel) rfl (Or.inr rfl) ⟨by rw [Int.add_zero]; exact hT, rm_lv_tr (k := 17) hLt hL rfl rfl, ⟨_, rfl, Or.inr ⟨rfl, ⟨by omega, by omega⟩, k6⟩⟩⟩
  · have h : y.toInt = 0 := by
      first | exact h | exact Classical.not_not.mp h
    refine rv_run hC.1 hC.2.1 (T := rv_t_X12_end) rv_k_X12_end 1 ?_
    refine rm_zret hC hh (by decide +kernel) rfl (Or.inl rfl) ⟨by rw [Int.add_zero]; exact hT, rm_lv_up hLt rfl, ⟨_, rfl, Or.inl ⟨rfl, by omega, by omega⟩⟩⟩
end RMX
