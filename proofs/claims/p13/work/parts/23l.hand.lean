theorem rm_ring (m : Int32) (mn : Int) (hm : m.toInt = mn) (hm1 : 1 ≤ mn ∧ mn ≤ 100) {n k : Int32} (hk : 0 ≤ k.toInt) (hkn : k.toInt < n.toInt) : 0 ≤ (n - Int32.ofInt 1 - k - (n - Int32.ofInt 1 - k) / m * m).toInt ∧ (n - Int32.ofInt 1 - k - (n - Int32.ofInt 1 - k) / m * m).toInt < mn := by
  have e1 : (Int32.ofInt 1).toInt = 1 := rfl
  have hn := rk_i_hi n
  have e2 : (n - Int32.ofInt 1).toInt = n.toInt - 1 := by rw [rk_sub_e (by rw [e1]; omega) (by rw [e1]; omega), e1]
  have e3 : (n - Int32.ofInt 1 - k).toInt = n.toInt - 1 - k.toInt := by rw [rk_sub_e (by rw [e2]; omega) (by rw [e2]; omega), e2]
  rw [rk_rem_e (by rw [e3]; omega) (by rw [hm]; omega), hm]
  exact ⟨Int.emod_nonneg _ (by omega), Int.emod_lt_of_pos _ (by omega)⟩
theorem rm_mu {x y : Int32} {a b : Int} (hx : x.toInt = a) (h1 : 0 ≤ a ∧ a ≤ 1000) (h2 : 0 ≤ y.toInt ∧ y.toInt < b) (hb : b ≤ 100) : (x * y).toInt = a * y.toInt := by
  have h3 : 0 ≤ a * y.toInt := Int.mul_nonneg h1.1 h2.1
  have h4 : a * y.toInt ≤ 1000 * y.toInt := Int.mul_le_mul_of_nonneg_right h1.2 h2.1
  rw [rk_mul_e (by rw [hx]; omega) (by rw [hx]; omega), hx]
def rv_t_X12_packetAt : rv_T := (.branch 0 (.branch 0 (.branch 0 (.branch 0 (.branch 0 (.leaf (0, .aload_n 0, 1)) (.leaf (48, .imul, 1))) (.leaf (8, .iload_n 2, 1))) (.branch 0 (.branch 0 (.leaf (36, .iload_n 1, 1)) (.leaf (20, .iload_n 1, 1))) (.branch 0 (.branch 0 (.leaf (12, .iload_n 2, 1)) (.leaf (44, .isub, 1))) (.leaf (28, .iconst (-1), 1))))) (.branch 0 (.branch 0 (.branch 0 (.leaf (2, .invokevirtual 127, 3)) (.branch 0 (.leaf (18, .iload_n 2, 1)) (.leaf (50, .ireturn, 1)))) (.leaf (42, .isub, 1))) (.branch 0 (.branch 0 (.leaf (38, .invokevirtual 50, 3)) (.leaf (22, .invokevirtual 50, 3))) (.leaf (30, .sipush (169), 3))))) (.branch 0 (.branch 0 (.branch 0 (.branch 0 (.branch 0 (.leaf (1, .iload_n 1, 1)) (.leaf (33, .bipush (43), 2))) (.leaf (49, .iadd, 1))) (.branch 0 (.branch 0 (.leaf (9, .ifCond .lt (19), 3)) (.leaf (41, .iconst 1, 1))) (.leaf (25, .if_icmp .lt (5), 3)))) (.branch 0 (.branch 0 (.branch 0 (.leaf (5, .ifCond .eq (23), 3)) (.leaf (37, .iconst 4, 1))) (.leaf (21, .iconst 4, 1))) (.branch 0 (.branch 0 (.leaf (13, .bipush (6), 2)) (.leaf (45, .bipush (6), 2))) (.leaf (29, .ireturn, 1))))) (.branch 0 (.branch 0 (.branch 0 (.leaf (35, .aload_n 0, 1)) (.leaf (19, .aload_n 0, 1))) (.leaf (43, .iload_n 2, 1))) (.branch 0 (.leaf (99999, .nop, 1)) (.branch 0 (.branch 0 (.leaf (15, .if_icmp .ge (13), 3)) (.leaf (47, .irem, 1))) (.leaf (99999, .nop, 1)))))))
theorem rv_k_X12_packetAt : rv_tok cX12_packetAt rv_t_X12_packetAt = true := by decide +kernel
section RMX
variable (base : Nat) (l : Launch) (cI c1 c2 c3 c4 c5 : ClassId) (D : va_G) (ad adV : Nat → Nat)
theorem h_packetAt (a0 : Nat) (s : Int32) (k : Int32) : rm_Hm base l cI c1 c2 c3 c4 c5 D ad adV rk_q_X12_packetAt [.ref a0, .int s, .int k] (fun G _ f => G a0 = some 12) (fun G _ f v u => (∃ x : Int32, v = some (.int x) ∧ (x.toInt = -1 ∨ (169 ≤ x.toInt ∧ x.toInt ≤ 384 ∧ 0 ≤ s.toInt ∧ s.toInt ≤ 7)))) 0 0 := by
  unfold rm_Hm
  refine rm_start (M := rk_q_X12_packetAt) (rk_hNw base ad adV) (rk_hNc base ad adV) (by decide +kernel) (mt := rk_mt [rk_q_X12_isEnd, rk_q_X12_ofEnd]) (ml := rk_mlf [(127, 0, 2, 12), (50, 1, 3, 12)]) (fl := rk_flf rk_ftX12) (fun s args h hN => rk_MlOk_of (List.forall_mem_cons.mpr ⟨rk_mck_ok (fun w hw => List.mem_cons_of_mem _ hw) h hN rk_cm_X12_isEnd rk_lk_X12_127, List.forall_mem_cons.mpr ⟨rk_mck_ok (fun w hw => List.mem_cons_of_mem _ hw) h hN rk_cm_X12_ofEnd rk_lk_X12_50, fun _ h => absurd h List.not_mem_nil⟩⟩) (by decide +kernel)) (fun s args h hN => rk_flX12 (fun w hw => List.mem_cons_of_mem _ hw) h hN) (rm_cat1 rfl) (Nat.le_of_ble_eq_true rfl) ?_
  intro p e st m below meth c G X L f0 A hC hh hX0 hXC hT hpre
  have hcs : 0 ≤ 0 ∧ 0 ≤ 0 := ⟨Nat.le_refl 0, Nat.le_refl 0⟩
  have hG : G a0 = some 12 := hpre
  have no : ∀ (f : Nat → va_E) (H : Heap) (locs : List Loc), rm_h D A st L f H locs → rm_TY cI c1 c2 c3 c4 c5 ad G X L f → rm_Lv G 0 f0 f → rv_G p l e { frames := rk_q_X12_packetAt.2.2.2.2.1, cells := 0, slots := 0, locals := rk_q_X12_packetAt.2.2.2.2.2 } st m ([.ref a0, .int s, .int k] : List Value).toArray below meth c (MQ below (rk_Q (fun v u => rm_TY cI c1 c2 c3 c4 c5 ad G (X + 0) L u ∧ rm_Lv G 0 f0 u ∧ (fun G _ f v u => (∃ x : Int32, v = some (.int x) ∧ (x.toInt = -1 ∨ (169 ≤ x.toInt ∧ x.toInt ≤ 384 ∧ 0 ≤ s.toInt ∧ s.toInt ≤ 7)))) G X f0 v u) (rk_B D (rk_tys cI c1 c2 c3 c4 c5) L A) A) ([.ref a0, .int s, .int k] : List Value).toArray st 0 0 A) rk_q_X12_packetAt.2.2.1 0 0 H locs 28 [] [(0, .ref a0), (1, .int s), (2, .int k)] := by
    intro f H locs hh hT hL
    refine rv_run hC.1 hC.2.1 (T := rv_t_X12_packetAt) rv_k_X12_packetAt 1 ?_
    refine rm_iret hC hh (by decide +kernel) rfl ⟨by rw [Int.add_zero]; exact hT, hL, ⟨_, rfl, Or.inl rfl⟩⟩
  refine rv_run hC.1 hC.2.1 (T := rv_t_X12_packetAt) rv_k_X12_packetAt 80 ?_
  refine w_k hC hh hT hG (by omega) (by omega) 127 (by decide +kernel) rfl (c_X12_isEnd base l cI c1 c2 c3 c4 c5 D ad adV) (rk_all_c (rk_aM hG) (rk_all_c rk_aF rk_all_0)) rfl rfl (Nat.le_of_ble_eq_true rfl) hcs (fun v f H locs hh hT hL hA => ?_)
  rw [Int.add_zero] at hT
  have hLt := hL
  obtain ⟨x, rfl, hx⟩ := rk_alt_2 hA
  refine rv_run hC.1 hC.2.1 (T := rv_t_X12_packetAt) rv_k_X12_packetAt 1 ?_
  refine ⟨fun _ => no f H locs hh hT hLt, fun h => ?_⟩
  obtain ⟨sn, hs, hsn⟩ : ∃ n : Nat, s.toInt = (n : Int) ∧ n < 8 := by
    rcases hx with ⟨-, hx⟩ | hx
    · obtain ⟨w9, e9, x9, e10, y1, y2⟩ := hx _ List.mem_cons_self
      cases e9
      cases e10
      exact ⟨s.toInt.toNat, by omega, by omega⟩
    · exact absurd hx h
  refine rv_run hC.1 hC.2.1 (T := rv_t_X12_packetAt) rv_k_X12_packetAt 2 ?_
  refine ⟨fun _ => no f H locs hh hT hLt, fun h => ?_⟩
  have hk0 : 0 ≤ k.toInt := h
  refine rv_run hC.1 hC.2.1 (T := rv_t_X12_packetAt) rv_k_X12_packetAt 3 ?_
  refine ⟨fun _ => no f H locs hh hT hLt, fun h => ?_⟩
  have hk6 : k.toInt < 6 := h
  refine rv_run hC.1 hC.2.1 (T := rv_t_X12_packetAt) rv_k_X12_packetAt 80 ?_
  refine w_ofEnd hC hh hT hG (by omega) (by omega) 50 (by decide +kernel) rfl rfl hs hsn 4 (by decide) (by decide) (Nat.le_of_ble_eq_true rfl) hcs (fun y H locs hh hy => ?_)
  refine rv_run hC.1 hC.2.1 (T := rv_t_X12_packetAt) rv_k_X12_packetAt 1 ?_
  refine ⟨fun h => ?_, fun _ => no f H locs hh hT hLt⟩
  have hky : k.toInt < y.toInt := h
  refine rv_run hC.1 hC.2.1 (T := rv_t_X12_packetAt) rv_k_X12_packetAt 80 ?_
  refine w_ofEnd hC hh hT hG (by omega) (by omega) 50 (by decide +kernel) rfl rfl hs hsn 4 (by decide) (by decide) (Nat.le_of_ble_eq_true rfl) hcs (fun z H locs hh hz => ?_)
  have e6 : (Int8.ofInt 6).toInt32.toInt = 6 := rfl
  have hi := rm_ring _ 6 e6 (by decide) hk0 (show k.toInt < z.toInt by rw [hz, ← hy]; exact hky)
  have e7 := rm_mu (x := (Int8.ofInt 43).toInt32) (a := 43) rfl (by decide) hi (by decide)
  have e8 := rm_ad (x := (Int16.ofInt 169).toInt32) (a := 169) rfl e7 (by decide) (by omega)
  refine rv_run hC.1 hC.2.1 (T := rv_t_X12_packetAt) rv_k_X12_packetAt 8 ?_
  refine ⟨by decide, ?_⟩
  refine rm_iret hC hh (by decide +kernel) rfl ⟨by rw [Int.add_zero]; exact hT, hLt, ⟨_, rfl, Or.inr (by rw [e8]; omega)⟩⟩
end RMX
