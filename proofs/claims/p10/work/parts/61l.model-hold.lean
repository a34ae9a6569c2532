theorem rm_lv0 {G : Nat → Option Nat} {f u : Nat → va_E} (h : rm_Lv G 0 f u) : u = f := (h 0 (by decide) (Nat.zero_testBit 0) : rm_Rb 0 G f u)
def rv_t_X12_hold : rv_T := (.branch 0 (.branch 0 (.branch 0 (.branch 0 (.branch 0 (.branch 0 (.leaf (0, .aload_n 0, 1)) (.leaf (32, .iconst 0, 1))) (.leaf (16, .invokevirtual 50, 3))) (.leaf (24, .goto (4), 3))) (.branch 0 (.branch 0 (.leaf (36, .iconst 0, 1)) (.leaf (20, .if_icmp .ne (7), 3))) (.leaf (28, .iload_n 2, 1)))) (.branch 0 (.branch 0 (.branch 0 (.branch 0 (.leaf (2, .putfield 29, 3)) (.leaf (34, .aload_n 0, 1))) (.leaf (50, .ireturn, 1))) (.branch 0 (.branch 0 (.leaf (10, .ifCond .eq (22), 3)) (.leaf (42, .goto (4), 3))) (.leaf (99999, .nop, 1)))) (.branch 0 (.branch 0 (.branch 0 (.leaf (6, .iload_n 1, 1)) (.leaf (38, .ifCond .eq (7), 3))) (.leaf (99999, .nop, 1))) (.branch 0 (.branch 0 (.leaf (14, .iload_n 1, 1)) (.leaf (46, .invokevirtual 53, 3))) (.leaf (99999, .nop, 1)))))) (.branch 0 (.branch 0 (.branch 0 (.branch 0 (.branch 0 (.leaf (1, .iconst 0, 1)) (.leaf (33, .ireturn, 1))) (.leaf (49, .iconst 1, 1))) (.leaf (41, .iconst 1, 1))) (.branch 0 (.branch 0 (.branch 0 (.leaf (5, .aload_n 0, 1)) (.leaf (37, .iload_n 2, 1))) (.leaf (99999, .nop, 1))) (.branch 0 (.branch 0 (.leaf (13, .aload_n 0, 1)) (.leaf (45, .iconst 0, 1))) (.leaf (29, .if_icmp .ne (5), 3))))) (.branch 0 (.branch 0 (.branch 0 (.leaf (35, .iload_n 1, 1)) (.leaf (19, .iconst 1, 1))) (.leaf (27, .iconst 0, 1))) (.branch 0 (.branch 0 (.leaf (7, .invokevirtual 127, 3)) (.leaf (23, .iconst 1, 1))) (.leaf (15, .iconst 0, 1))))))
theorem rv_k_X12_hold : rv_tok cX12_hold rv_t_X12_hold = true := by decide +kernel
section RMX
variable (base : Nat) (l : Launch) (cI c1 c2 c3 c4 c5 : ClassId) (D : va_G) (ad adV : Nat → Nat)
theorem h_hold2 (a0 : Nat) (x y : Int32) : rm_Hm base l cI c1 c2 c3 c4 c5 D ad adV rk_q_X12_hold [.ref a0, .int x, .int y] (fun G _ f => G a0 = some 12 ∧ 0 ≤ y.toInt ∧ y.toInt ≤ 1) (fun G _ f v u => ∃ r : Int32, v = some (.int r) ∧ ((r.toInt = 0 ∧ (∀ j, rm_now G u a0 j = rm_now G f a0 j) ∧ (¬ (0 ≤ x.toInt ∧ x.toInt ≤ 7) ∨ (rm_now G f a0 (2860 + 427 * x.toInt.toNat + 0)).toInt = y.toInt)) ∨ (r.toInt = 1 ∧ (0 ≤ x.toInt ∧ x.toInt ≤ 7) ∧ ¬ (rm_now G f a0 (2860 + 427 * x.toInt.toNat + 0)).toInt = y.toInt ∧ ∀ j, rm_now G u a0 j = if j = 2860 + 427 * x.toInt.toNat + 0 then y else rm_now G f a0 j))) 0 33 := by
  unfold rm_Hm
  refine rm_start (M := rk_q_X12_hold) (rk_hNw base ad adV) (rk_hNc base ad adV) (by decide +kernel) (mt := rk_mt [rk_q_X12_isEnd, rk_q_X12_ofEnd, rk_q_X12_putsEnd]) (ml := rk_mlf [(127, 0, 2, 12), (50, 1, 3, 12), (53, 2, 4, 12)]) (fl := rk_flf rk_ftX12) (fun s args h hN => rk_MlOk_of (List.forall_mem_cons.mpr ⟨rk_mck_ok (fun w hw => List.mem_cons_of_mem _ hw) h hN rk_cm_X12_isEnd rk_lk_X12_127, List.forall_mem_cons.mpr ⟨rk_mck_ok (fun w hw => List.mem_cons_of_mem _ hw) h hN rk_cm_X12_ofEnd rk_lk_X12_50, List.forall_mem_cons.mpr ⟨rk_mck_ok (fun w hw => List.mem_cons_of_mem _ hw) h hN rk_cm_X12_putsEnd rk_lk_X12_53, fun _ h => absurd h List.not_mem_nil⟩⟩⟩) (by decide +kernel)) (fun s args h hN => rk_flX12 (fun w hw => List.mem_cons_of_mem _ hw) h hN) (rm_cat1 rfl) (Nat.le_of_ble_eq_true rfl) ?_
  intro p e st m below meth c G X L f0 A hC hh hX0 hXC hT hpre
  have hcs : 0 ≤ 0 ∧ 0 ≤ 0 := ⟨Nat.le_refl 0, Nat.le_refl 0⟩
  obtain ⟨hG, hy⟩ := hpre
  have no : ∀ (f : Nat → va_E) (H : Heap) (locs : List Loc), rm_h D A st L f H locs → rm_TY cI c1 c2 c3 c4 c5 ad G X L f → rm_Lv G 33 f0 f → (∀ j, rm_now G f a0 j = rm_now G f0 a0 j) → (¬ (0 ≤ x.toInt ∧ x.toInt ≤ 7) ∨ (rm_now G f0 a0 (2860 + 427 * x.toInt.toNat + 0)).toInt = y.toInt) → rv_G p l e { frames := rk_q_X12_hold.2.2.2.2.1, cells := 0, slots := 0, locals := rk_q_X12_hold.2.2.2.2.2 } st m ([.ref a0, .int x, .int y] : List Value).toArray below meth c (MQ below (rk_Q (fun v u => rm_TY cI c1 c2 c3 c4 c5 ad G (X + 0) L u ∧ rm_Lv G 33 f0 u ∧ (fun G _ f v u => ∃ r : Int32, v = some (.int r) ∧ ((r.toInt = 0 ∧ (∀ j, rm_now G u a0 j = rm_now G f a0 j) ∧ (¬ (0 ≤ x.toInt ∧ x.toInt ≤ 7) ∨ (rm_now G f a0 (2860 + 427 * x.toInt.toNat + 0)).toInt = y.toInt)) ∨ (r.toInt = 1 ∧ (0 ≤ x.toInt ∧ x.toInt ≤ 7) ∧ ¬ (rm_now G f a0 (2860 + 427 * x.toInt.toNat + 0)).toInt = y.toInt ∧ ∀ j, rm_now G u a0 j = if j = 2860 + 427 * x.toInt.toNat + 0 then y else rm_now G f a0 j))) G X f0 v u) (rk_B D (rk_tys cI c1 c2 c3 c4 c5) L A) A) ([.ref a0, .int x, .int y] : List Value).toArray st 0 0 A) rk_q_X12_hold.2.2.1 0 0 H locs 32 [] [(0, .ref a0), (1, .int x), (2, .int y)] := by
    intro f H locs hh hT hLt hz h
    refine rv_run hC.1 hC.2.1 (T := rv_t_X12_hold) rv_k_X12_hold 1 ?_
    refine rm_zret hC hh (by decide +kernel) rfl (Or.inl rfl) ⟨by rw [Int.add_zero]; exact hT, hLt, ⟨_, rfl, Or.inl ⟨rfl, hz, h⟩⟩⟩
  have yes : ∀ (f : Nat → va_E) (H : Heap) (locs : List Loc), rm_h D A st L f H locs → rm_TY cI c1 c2 c3 c4 c5 ad G X L f → rm_Lv G 33 f0 f → (∀ j, rm_now G f a0 j = rm_now G f0 a0 j) → 0 ≤ x.toInt ∧ x.toInt ≤ 7 → ¬ (rm_now G f0 a0 (2860 + 427 * x.toInt.toNat + 0)).toInt = y.toInt → rv_G p l e { frames := rk_q_X12_hold.2.2.2.2.1, cells := 0, slots := 0, locals := rk_q_X12_hold.2.2.2.2.2 } st m ([.ref a0, .int x, .int y] : List Value).toArray below meth c (MQ below (rk_Q (fun v u => rm_TY cI c1 c2 c3 c4 c5 ad G (X + 0) L u ∧ rm_Lv G 33 f0 u ∧ (fun G _ f v u => ∃ r : Int32, v = some (.int r) ∧ ((r.toInt = 0 ∧ (∀ j, rm_now G u a0 j = rm_now G f a0 j) ∧ (¬ (0 ≤ x.toInt ∧ x.toInt ≤ 7) ∨ (rm_now G f a0 (2860 + 427 * x.toInt.toNat + 0)).toInt = y.toInt)) ∨ (r.toInt = 1 ∧ (0 ≤ x.toInt ∧ x.toInt ≤ 7) ∧ ¬ (rm_now G f a0 (2860 + 427 * x.toInt.toNat + 0)).toInt = y.toInt ∧ ∀ j, rm_now G u a0 j = if j = 2860 + 427 * x.toInt.toNat + 0 then y else rm_now G f a0 j))) G X f0 v u) (rk_B D (rk_tys cI c1 c2 c3 c4 c5) L A) A) ([.ref a0, .int x, .int y] : List Value).toArray st 0 0 A) rk_q_X12_hold.2.2.1 0 0 H locs 34 [] [(0, .ref a0), (1, .int x), (2, .int y)] := by
    intro f H locs hh hT hLt hz hr h
    have hs : x.toInt = ((x.toInt.toNat : Nat) : Int) := by omega
    have hsn : x.toInt.toNat < 8 := by omega
    refine rv_run hC.1 hC.2.1 (T := rv_t_X12_hold) rv_k_X12_hold 5 ?_
    refine ⟨fun h9 => ?_, fun h9 => ?_⟩
    · have h9 : y.toInt = 0 := h9
      have ey : y = Int32.ofInt 0 := Int32.toInt_inj.mp h9
      refine rv_run hC.1 hC.2.1 (T := rv_t_X12_hold) rv_k_X12_hold 1 ?_
      refine w_putsEnd hC hh hT hG (by omega) (by omega) 33 53 (by decide +kernel) rfl rfl hs hsn 0 (by decide) (by decide) rfl ⟨_, rfl, by decide, by decide⟩ (Nat.le_of_ble_eq_true rfl) hcs (fun f H locs hh hT hL hP => ?_)
      refine rv_run hC.1 hC.2.1 (T := rv_t_X12_hold) rv_k_X12_hold 1 ?_
      refine rm_zret hC hh (by decide +kernel) rfl (Or.inr rfl) ⟨by rw [Int.add_zero]; exact hT, rm_lv_tr (k := 33) hLt hL rfl rfl, ⟨_, rfl, Or.inr ⟨rfl, hr, h, fun j => by rw [hP j, hz j, ey]⟩⟩⟩
    · have h9 : ¬ y.toInt = 0 := h9
      have ey : y = Int32.ofInt 1 := Int32.toInt_inj.mp (by show y.toInt = 1; omega)
      refine rv_run hC.1 hC.2.1 (T := rv_t_X12_hold) rv_k_X12_hold 2 ?_
      refine w_putsEnd hC hh hT hG (by omega) (by omega) 33 53 (by decide +kernel) rfl rfl hs hsn 0 (by decide) (by decide) rfl ⟨_, rfl, by decide, by decide⟩ (Nat.le_of_ble_eq_true rfl) hcs (fun f H locs hh hT hL hP => ?_)
      refine rv_run hC.1 hC.2.1 (T := rv_t_X12_hold) rv_k_X12_hold 1 ?_
      refine rm_zret hC hh (by decide +kernel) rfl (Or.inr rfl) ⟨by rw [Int.add_zero]; exact hT, rm_lv_tr (k := 33) hLt hL rfl rfl, ⟨_, rfl, Or.inr ⟨rfl, hr, h, fun j => by rw [hP j, hz j, ey]⟩⟩⟩
  refine rv_run hC.1 hC.2.1 (T := rv_t_X12_hold) rv_k_X12_hold 80 ?_
  refine w_pf hC hh hT hG (by omega) 1 29 (by decide +kernel) rfl rfl (Or.inl ⟨rfl, _, rfl⟩) ⟨_, rfl, by decide, by decide⟩ rfl (by decide) (fun f H locs hh hT hL hP => ?_)
  have hLt := rm_lv_up (m := 33) hL rfl
  have hz : ∀ j, rm_now G f a0 j = rm_now G f0 a0 j := fun j => by rw [hP.2.2.2]
  refine rv_run hC.1 hC.2.1 (T := rv_t_X12_hold) rv_k_X12_hold 80 ?_
  refine w_k hC hh hT hG (by omega) (by omega) 127 (by decide +kernel) rfl (c_X12_isEndE base l cI c1 c2 c3 c4 c5 D ad adV) (rk_all_c (rk_aM hG) (rk_all_c rk_aF rk_all_0)) rfl rfl (Nat.le_of_ble_eq_true rfl) hcs (fun v f9 H locs hh hT hL hA => ?_)
  rw [Int.add_zero] at hT
  rw [rm_lv0 hL] at hh hT
  clear hL f9
  obtain ⟨w, rfl, hw⟩ := ex_alt1 rfl hA
  clear hA
  refine rv_run hC.1 hC.2.1 (T := rv_t_X12_hold) rv_k_X12_hold 1 ?_
  refine ⟨fun h => ?_, fun h => ?_⟩
  · have h : w.toInt = 0 := h
    exact no f H locs hh hT hLt hz (Or.inl (by omega))
  have h : ¬ w.toInt = 0 := h
  have hr : 0 ≤ x.toInt ∧ x.toInt ≤ 7 := by omega
  have hs : x.toInt = ((x.toInt.toNat : Nat) : Int) := by omega
  have hsn : x.toInt.toNat < 8 := by omega
  refine rv_run hC.1 hC.2.1 (T := rv_t_X12_hold) rv_k_X12_hold 80 ?_
  refine w_ofEnd hC hh hT hG (by omega) (by omega) 50 (by decide +kernel) rfl rfl hs hsn 0 (by decide) (by decide) (Nat.le_of_ble_eq_true rfl) hcs (fun z H locs hh hz9 => ?_)
  subst hz9
  have hzT := rm_nowT hT hG (2860 + 427 * x.toInt.toNat + 0) (by omega)
  have e9 : rm_mE (2860 + 427 * x.toInt.toNat + 0) = (0, 0, 1) := by
    have : ∀ n, n < 8 → rm_mE (2860 + 427 * n + 0) = (0, 0, 1) := by decide +kernel
    exact this _ hsn
  rw [e9] at hzT
  obtain ⟨z9, ez, hz1, hz2⟩ := hzT
  cases ez
  have e8 := hz (2860 + 427 * x.toInt.toNat + 0)
  refine rv_run hC.1 hC.2.1 (T := rv_t_X12_hold) rv_k_X12_hold 2 ?_
  refine ⟨fun h9 => ?_, fun h9 => ?_⟩
  · have h9 : ¬ (rm_now G f a0 (2860 + 427 * x.toInt.toNat + 0)).toInt = 1 := h9
    refine rv_run hC.1 hC.2.1 (T := rv_t_X12_hold) rv_k_X12_hold 3 ?_
    refine ⟨fun h8 => ?_, fun h8 => ?_⟩
    · have h8 : ¬ (0 : Int) = y.toInt := h8
      exact yes f H locs hh hT hLt hz hr (by rw [← e8]; omega)
    · have h8 : (0 : Int) = y.toInt := by
        first | exact h8 | exact Classical.not_not.mp h8
      exact no f H locs hh hT hLt hz (Or.inr (by rw [← e8]; omega))
  · have h9 : (rm_now G f a0 (2860 + 427 * x.toInt.toNat + 0)).toInt = 1 := by
      first | exact h9 | exact Classical.not_not.mp h9
    refine rv_run hC.1 hC.2.1 (T := rv_t_X12_hold) rv_k_X12_hold 4 ?_
    refine ⟨fun h8 => ?_, fun h8 => ?_⟩
    · have h8 : ¬ (1 : Int) = y.toInt := h8
      exact yes f H locs hh hT hLt hz hr (by rw [← e8]; omega)
    · have h8 : (1 : Int) = y.toInt := by
        first | exact h8 | exact Classical.not_not.mp h8
      exact no f H locs hh hT hLt hz (Or.inr (by rw [← e8]; omega))
end RMX
