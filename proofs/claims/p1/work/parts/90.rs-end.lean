/-! every script -/
def rs_Cov (j b : Nat) : Prop := ∃ (kc : rs_KC) (lo hi : Nat), rs_KCall kc ∧ lo ≤ b ∧ b ≤ hi ∧ rs_go kc (rs_e1 j lo hi) = true
theorem rs_cv0 (b : Nat) (hb : b < 4294967296) : rs_Cov 0 b := by
  by_cases h0 : b ≤ 2147483647
  · exact ⟨rs_kc0, 0, 2147483647, rs_kc0_ok, by omega, by omega, rs_r0_0⟩
  by_cases h1 : b ≤ 2147483651
  · exact ⟨rs_kc0, 2147483648, 2147483651, rs_kc0_ok, by omega, by omega, rs_r0_2147483648⟩
  by_cases h2 : b ≤ 2147483655
  · exact ⟨rs_kc0, 2147483652, 2147483655, rs_kc0_ok, by omega, by omega, rs_r0_2147483652⟩
  by_cases h3 : b ≤ 2147483659
  · exact ⟨rs_kc0, 2147483656, 2147483659, rs_kc0_ok, by omega, by omega, rs_r0_2147483656⟩
  by_cases h4 : b ≤ 2147483663
  · exact ⟨rs_kc0, 2147483660, 2147483663, rs_kc0_ok, by omega, by omega, rs_r0_2147483660⟩
  by_cases h5 : b ≤ 2147483667
  · exact ⟨rs_kc0, 2147483664, 2147483667, rs_kc0_ok, by omega, by omega, rs_r0_2147483664⟩
  by_cases h6 : b ≤ 2147483671
  · exact ⟨rs_kc0, 2147483668, 2147483671, rs_kc0_ok, by omega, by omega, rs_r0_2147483668⟩
  by_cases h7 : b ≤ 2147483675
  · exact ⟨rs_kc0, 2147483672, 2147483675, rs_kc0_ok, by omega, by omega, rs_r0_2147483672⟩
  by_cases h8 : b ≤ 2147483679
  · exact ⟨rs_kc0, 2147483676, 2147483679, rs_kc0_ok, by omega, by omega, rs_r0_2147483676⟩
  by_cases h9 : b ≤ 2147483683
  · exact ⟨rs_kc0, 2147483680, 2147483683, rs_kc0_ok, by omega, by omega, rs_r0_2147483680⟩
  by_cases h10 : b ≤ 2147483687
  · exact ⟨rs_kc0, 2147483684, 2147483687, rs_kc0_ok, by omega, by omega, rs_r0_2147483684⟩
  exact ⟨rs_kc0, 2147483688, 4294967295, rs_kc0_ok, by omega, by omega, rs_r0_2147483688⟩
theorem rs_cv1 (b : Nat) (hb : b < 4294967296) : rs_Cov 1 b := by
  exact ⟨rs_kc0, 0, 4294967295, rs_kc0_ok, by omega, by omega, rs_r1_0⟩
theorem rs_cv2 (b : Nat) (hb : b < 4294967296) : rs_Cov 2 b := by
  exact ⟨rs_kc0, 0, 4294967295, rs_kc0_ok, by omega, by omega, rs_r2_0⟩
theorem rs_cv3 (b : Nat) (hb : b < 4294967296) : rs_Cov 3 b := by
  exact ⟨rs_kc0, 0, 4294967295, rs_kc0_ok, by omega, by omega, rs_r3_0⟩
theorem rs_cv4 (b : Nat) (hb : b < 4294967296) : rs_Cov 4 b := by
  exact ⟨rs_kc0, 0, 4294967295, rs_kc0_ok, by omega, by omega, rs_r4_0⟩
theorem rs_cv5 (b : Nat) (hb : b < 4294967296) : rs_Cov 5 b := by
  exact ⟨rs_kc0, 0, 4294967295, rs_kc0_ok, by omega, by omega, rs_r5_0⟩
theorem rs_cv6 (b : Nat) (hb : b < 4294967296) : rs_Cov 6 b := by
  exact ⟨rs_kc0, 0, 4294967295, rs_kc0_ok, by omega, by omega, rs_r6_0⟩
theorem rs_cv7 (b : Nat) (hb : b < 4294967296) : rs_Cov 7 b := by
  by_cases h0 : b ≤ 2147483647
  · exact ⟨rs_kc0, 0, 2147483647, rs_kc0_ok, by omega, by omega, rs_r7_0⟩
  by_cases h1 : b ≤ 2147483648
  · exact ⟨rs_kc0, 2147483648, 2147483648, rs_kc0_ok, by omega, by omega, rs_r7_2147483648⟩
  by_cases h2 : b ≤ 2147483649
  · exact ⟨rs_kc0, 2147483649, 2147483649, rs_kc0_ok, by omega, by omega, rs_r7_2147483649⟩
  by_cases h3 : b ≤ 2147483650
  · exact ⟨rs_kc0, 2147483650, 2147483650, rs_kc0_ok, by omega, by omega, rs_r7_2147483650⟩
  by_cases h4 : b ≤ 2147483651
  · exact ⟨rs_kc0, 2147483651, 2147483651, rs_kc0_ok, by omega, by omega, rs_r7_2147483651⟩
  exact ⟨rs_kc0, 2147483652, 4294967295, rs_kc0_ok, by omega, by omega, rs_r7_2147483652⟩
theorem rs_cv8 (b : Nat) (hb : b < 4294967296) : rs_Cov 8 b := by
  exact ⟨rs_kc0, 0, 4294967295, rs_kc0_ok, by omega, by omega, rs_r8_0⟩
theorem rs_cv9 (b : Nat) (hb : b < 4294967296) : rs_Cov 9 b := by
  by_cases h0 : b ≤ 2147483648
  · exact ⟨rs_kc0, 0, 2147483648, rs_kc0_ok, by omega, by omega, rs_r9_0⟩
  by_cases h1 : b ≤ 2147483660
  · exact ⟨(rs_kt 2147483649 2147483660), 2147483649, 2147483660, rs_kt_1, by omega, by omega, rs_r9_2147483649⟩
  by_cases h2 : b ≤ 2147483679
  · exact ⟨(rs_kt 2147483661 2147483679), 2147483661, 2147483679, rs_kt_13, by omega, by omega, rs_r9_2147483661⟩
  by_cases h3 : b ≤ 2147483692
  · exact ⟨(rs_kt 2147483680 2147483692), 2147483680, 2147483692, rs_kt_32, by omega, by omega, rs_r9_2147483680⟩
  by_cases h4 : b ≤ 2147483702
  · exact ⟨(rs_kt 2147483693 2147483702), 2147483693, 2147483702, rs_kt_45, by omega, by omega, rs_r9_2147483693⟩
  by_cases h5 : b ≤ 2147483710
  · exact ⟨(rs_kt 2147483703 2147483710), 2147483703, 2147483710, rs_kt_55, by omega, by omega, rs_r9_2147483703⟩
  by_cases h6 : b ≤ 2147483717
  · exact ⟨(rs_kt 2147483711 2147483717), 2147483711, 2147483717, rs_kt_63, by omega, by omega, rs_r9_2147483711⟩
  by_cases h7 : b ≤ 2147483724
  · exact ⟨(rs_kt 2147483718 2147483724), 2147483718, 2147483724, rs_kt_70, by omega, by omega, rs_r9_2147483718⟩
  by_cases h8 : b ≤ 2147483730
  · exact ⟨(rs_kt 2147483725 2147483730), 2147483725, 2147483730, rs_kt_77, by omega, by omega, rs_r9_2147483725⟩
  by_cases h9 : b ≤ 2147483736
  · exact ⟨(rs_kt 2147483731 2147483736), 2147483731, 2147483736, rs_kt_83, by omega, by omega, rs_r9_2147483731⟩
  by_cases h10 : b ≤ 2147483741
  · exact ⟨(rs_kt 2147483737 2147483741), 2147483737, 2147483741, rs_kt_89, by omega, by omega, rs_r9_2147483737⟩
  by_cases h11 : b ≤ 2147483746
  · exact ⟨(rs_kt 2147483742 2147483746), 2147483742, 2147483746, rs_kt_94, by omega, by omega, rs_r9_2147483742⟩
  by_cases h12 : b ≤ 2147483748
  · exact ⟨(rs_kt 2147483747 2147483748), 2147483747, 2147483748, rs_kt_99, by omega, by omega, rs_r9_2147483747⟩
  exact ⟨rs_kc0, 2147483749, 4294967295, rs_kc0_ok, by omega, by omega, rs_r9_2147483749⟩
theorem rs_cv10 (b : Nat) (hb : b < 4294967296) : rs_Cov 10 b := by
  exact ⟨rs_kc0, 0, 4294967295, rs_kc0_ok, by omega, by omega, rs_r10_0⟩
theorem rs_cv11 (b : Nat) (hb : b < 4294967296) : rs_Cov 11 b := by
  exact ⟨rs_kc0, 0, 4294967295, rs_kc0_ok, by omega, by omega, rs_r11_0⟩
theorem rs_cv12 (b : Nat) (hb : b < 4294967296) : rs_Cov 12 b := by
  exact ⟨rs_kc0, 0, 4294967295, rs_kc0_ok, by omega, by omega, rs_r12_0⟩
theorem rs_cv13 (b : Nat) (hb : b < 4294967296) : rs_Cov 13 b := by
  exact ⟨rs_kc0, 0, 4294967295, rs_kc0_ok, by omega, by omega, rs_r13_0⟩
theorem rs_cv14 (b : Nat) (hb : b < 4294967296) : rs_Cov 14 b := by
  exact ⟨rs_kc0, 0, 4294967295, rs_kc0_ok, by omega, by omega, rs_r14_0⟩
theorem rs_cv15 (b : Nat) (hb : b < 4294967296) : rs_Cov 15 b := by
  exact ⟨rs_kc0, 0, 4294967295, rs_kc0_ok, by omega, by omega, rs_r15_0⟩
theorem rs_cv16 (b : Nat) (hb : b < 4294967296) : rs_Cov 16 b := by
  exact ⟨rs_kc0, 0, 4294967295, rs_kc0_ok, by omega, by omega, rs_r16_0⟩
theorem rs_cv17 (b : Nat) (hb : b < 4294967296) : rs_Cov 17 b := by
  exact ⟨rs_kc0, 0, 4294967295, rs_kc0_ok, by omega, by omega, rs_r17_0⟩
theorem rs_cv18 (b : Nat) (hb : b < 4294967296) : rs_Cov 18 b := by
  exact ⟨rs_kc0, 0, 4294967295, rs_kc0_ok, by omega, by omega, rs_r18_0⟩
theorem rs_cv19 (b : Nat) (hb : b < 4294967296) : rs_Cov 19 b := by
  exact ⟨rs_kc0, 0, 4294967295, rs_kc0_ok, by omega, by omega, rs_r19_0⟩
theorem rs_cv20 (b : Nat) (hb : b < 4294967296) : rs_Cov 20 b := by
  exact ⟨rs_kc0, 0, 4294967295, rs_kc0_ok, by omega, by omega, rs_r20_0⟩
theorem rs_cv21 (b : Nat) (hb : b < 4294967296) : rs_Cov 21 b := by
  exact ⟨rs_kc0, 0, 4294967295, rs_kc0_ok, by omega, by omega, rs_r21_0⟩
theorem rs_cv22 (b : Nat) (hb : b < 4294967296) : rs_Cov 22 b := by
  exact ⟨rs_kc0, 0, 4294967295, rs_kc0_ok, by omega, by omega, rs_r22_0⟩
theorem rs_cv23 (b : Nat) (hb : b < 4294967296) : rs_Cov 23 b := by
  exact ⟨rs_kc0, 0, 4294967295, rs_kc0_ok, by omega, by omega, rs_r23_0⟩
theorem rs_cv24 (b : Nat) (hb : b < 4294967296) : rs_Cov 24 b := by
  exact ⟨rs_kc0, 0, 4294967295, rs_kc0_ok, by omega, by omega, rs_r24_0⟩
theorem rs_cv25 (b : Nat) (hb : b < 4294967296) : rs_Cov 25 b := by
  exact ⟨rs_kc0, 0, 4294967295, rs_kc0_ok, by omega, by omega, rs_r25_0⟩
theorem rs_cv26 (b : Nat) (hb : b < 4294967296) : rs_Cov 26 b := by
  exact ⟨rs_kc0, 0, 4294967295, rs_kc0_ok, by omega, by omega, rs_r26_0⟩
theorem rs_cv27 (b : Nat) (hb : b < 4294967296) : rs_Cov 27 b := by
  exact ⟨rs_kc0, 0, 4294967295, rs_kc0_ok, by omega, by omega, rs_r27_0⟩
theorem rs_cv28 (b : Nat) (hb : b < 4294967296) : rs_Cov 28 b := by
  by_cases h0 : b ≤ 2147483647
  · exact ⟨(rs_kl 0 2147483647), 0, 2147483647, rs_kl_n, by omega, by omega, rs_r28_0⟩
  by_cases h1 : b ≤ 2147483648
  · exact ⟨(rs_kl 2147483648 2147483648), 2147483648, 2147483648, rs_kl_0, by omega, by omega, rs_r28_2147483648⟩
  by_cases h2 : b ≤ 2147483649
  · exact ⟨(rs_kl 2147483649 2147483649), 2147483649, 2147483649, rs_kl_1, by omega, by omega, rs_r28_2147483649⟩
  by_cases h3 : b ≤ 2147483650
  · exact ⟨(rs_kl 2147483650 2147483650), 2147483650, 2147483650, rs_kl_2, by omega, by omega, rs_r28_2147483650⟩
  by_cases h4 : b ≤ 2147483651
  · exact ⟨(rs_kl 2147483651 2147483651), 2147483651, 2147483651, rs_kl_3, by omega, by omega, rs_r28_2147483651⟩
  by_cases h5 : b ≤ 2147483652
  · exact ⟨(rs_kl 2147483652 2147483652), 2147483652, 2147483652, rs_kl_4, by omega, by omega, rs_r28_2147483652⟩
  by_cases h6 : b ≤ 2147483653
  · exact ⟨(rs_kl 2147483653 2147483653), 2147483653, 2147483653, rs_kl_5, by omega, by omega, rs_r28_2147483653⟩
  by_cases h7 : b ≤ 2147483654
  · exact ⟨(rs_kl 2147483654 2147483654), 2147483654, 2147483654, rs_kl_6, by omega, by omega, rs_r28_2147483654⟩
  by_cases h8 : b ≤ 2147483655
  · exact ⟨(rs_kl 2147483655 2147483655), 2147483655, 2147483655, rs_kl_7, by omega, by omega, rs_r28_2147483655⟩
  exact ⟨(rs_kl 2147483656 4294967295), 2147483656, 4294967295, rs_kl_p, by omega, by omega, rs_r28_2147483656⟩
theorem rs_cv29 (b : Nat) (hb : b < 4294967296) : rs_Cov 29 b := by
  exact ⟨rs_kc0, 0, 4294967295, rs_kc0_ok, by omega, by omega, rs_r29_0⟩
theorem rs_cv30 (b : Nat) (hb : b < 4294967296) : rs_Cov 30 b := by
  by_cases h0 : b ≤ 2147483647
  · exact ⟨rs_kc0, 0, 2147483647, rs_kc0_ok, by omega, by omega, rs_r30_0⟩
  by_cases h1 : b ≤ 2147483648
  · exact ⟨rs_kc0, 2147483648, 2147483648, rs_kc0_ok, by omega, by omega, rs_r30_2147483648⟩
  exact ⟨rs_kc0, 2147483649, 4294967295, rs_kc0_ok, by omega, by omega, rs_r30_2147483649⟩
theorem rs_cv31 (b : Nat) (hb : b < 4294967296) : rs_Cov 31 b := by
  exact ⟨rs_kc0, 0, 4294967295, rs_kc0_ok, by omega, by omega, rs_r31_0⟩
theorem rs_cover (j b : Nat) (hj : j < 32) (hb : b < 4294967296) : rs_Cov j b :=
  match j, hj with
  | 0, _ => rs_cv0 b hb
  | 1, _ => rs_cv1 b hb
  | 2, _ => rs_cv2 b hb
  | 3, _ => rs_cv3 b hb
  | 4, _ => rs_cv4 b hb
  | 5, _ => rs_cv5 b hb
  | 6, _ => rs_cv6 b hb
  | 7, _ => rs_cv7 b hb
  | 8, _ => rs_cv8 b hb
  | 9, _ => rs_cv9 b hb
  | 10, _ => rs_cv10 b hb
  | 11, _ => rs_cv11 b hb
  | 12, _ => rs_cv12 b hb
  | 13, _ => rs_cv13 b hb
  | 14, _ => rs_cv14 b hb
  | 15, _ => rs_cv15 b hb
  | 16, _ => rs_cv16 b hb
  | 17, _ => rs_cv17 b hb
  | 18, _ => rs_cv18 b hb
  | 19, _ => rs_cv19 b hb
  | 20, _ => rs_cv20 b hb
  | 21, _ => rs_cv21 b hb
  | 22, _ => rs_cv22 b hb
  | 23, _ => rs_cv23 b hb
  | 24, _ => rs_cv24 b hb
  | 25, _ => rs_cv25 b hb
  | 26, _ => rs_cv26 b hb
  | 27, _ => rs_cv27 b hb
  | 28, _ => rs_cv28 b hb
  | 29, _ => rs_cv29 b hb
  | 30, _ => rs_cv30 b hb
  | 31, _ => rs_cv31 b hb
  | n + 32, h => absurd h (by omega)
theorem rs_e1_ok {xs : Nat → Int32} {j lo hi : Nat} (h0 : xs 0 &&& rs_i 31 = rs_i j) (h1 : lo ≤ rs_b (xs 1)) (h2 : rs_b (xs 1) ≤ hi) : rs_env (rs_x0 xs 6) (rs_e1 j lo hi) := by
  intro k
  rcases k with _ | _ | _ | _ | _ | _ | _ | k
  · refine ⟨Nat.zero_le _, Nat.le_of_lt_succ (rs_b_lt _), fun h => absurd h ?_, fun h => absurd h ?_, fun _ => ?_⟩
    · show ¬ 3 + j = 1
      omega
    · show ¬ 3 + j = 2
      omega
    · show xs 0 &&& rs_i 31 = rs_i (3 + j - 3)
      rw [Nat.add_sub_cancel_left]
      exact h0
  · exact ⟨h1, h2, fun h => absurd h (by show ¬ (0 : Nat) = 1; decide), fun h => absurd h (by show ¬ (0 : Nat) = 2; decide), fun h => absurd h (by show ¬ 3 ≤ (0 : Nat); decide)⟩
  · exact rs_iv_all _
  · exact rs_iv_all _
  · exact rs_iv_all _
  · exact rs_iv_all _
  · have e : rs_b (Int32.ofNat 6) = 2147483654 := by decide +kernel
    exact ⟨Nat.le_of_eq e.symm, Nat.le_of_eq e, fun h => absurd h (by show ¬ (0 : Nat) = 1; decide), fun h => absurd h (by show ¬ (0 : Nat) = 2; decide), fun h => absurd h (by show ¬ 3 ≤ (0 : Nat); decide)⟩
  · exact rs_iv_all _
theorem rs_eS_ok {xs : Nat → Int32} {L : Nat} (hL : L < 6) : rs_env (rs_x0 xs L) rs_eS := by
  intro k
  rcases k with _ | _ | _ | _ | _ | _ | _ | k
  · exact rs_iv_all _
  · exact rs_iv_all _
  · exact rs_iv_all _
  · exact rs_iv_all _
  · exact rs_iv_all _
  · exact rs_iv_all _
  · have e : 2147483648 ≤ rs_b (Int32.ofNat L) ∧ rs_b (Int32.ofNat L) ≤ 2147483653 := by
      rcases L with _ | _ | _ | _ | _ | _ | L
      · exact ⟨by decide +kernel, by decide +kernel⟩
      · exact ⟨by decide +kernel, by decide +kernel⟩
      · exact ⟨by decide +kernel, by decide +kernel⟩
      · exact ⟨by decide +kernel, by decide +kernel⟩
      · exact ⟨by decide +kernel, by decide +kernel⟩
      · exact ⟨by decide +kernel, by decide +kernel⟩
      · omega
    exact ⟨e.1, e.2, fun h => absurd h (by show ¬ (0 : Nat) = 1; decide), fun h => absurd h (by show ¬ (0 : Nat) = 2; decide), fun h => absurd h (by show ¬ 3 ≤ (0 : Nat); decide)⟩
  · exact rs_iv_all _
theorem rs_and31 (x : Int32) : x &&& rs_i 31 = rs_i (x.toBitVec.toNat % 32) := rs_ext (by
  rw [Int32.toBitVec_and, BitVec.toNat_and, rs_i_tn, rs_i_tn]
  have e : (31 : Nat) % 4294967296 = 2 ^ 5 - 1 := rfl
  rw [e, Nat.and_two_pow_sub_one_eq_mod]
  omega)
theorem whole_start {p : Program} {e : Env} {s : State} {m : MethodId} {below : List Frame} {meth : Method} {c : Code} (l : Launch) {b L : Nat} {xs : Nat → Int32} (hL : L ≤ 6) (hnm : meth.name = x.name) (C0 : lw_At p s m meth c b L xs) : W p l e room_1 s m #[Value.ref b] below meth c s.heap [] 0 0 (lw_Z below #[Value.ref b] s) (entryFrame m ([Value.ref b] : List Value).toArray 4) := by
  by_cases h6 : L < 6
  · exact rs_start rs_kc0_ok rs_rS l hL hnm C0 (rs_eS_ok h6) (fun _ _ => trivial)
  · obtain rfl : L = 6 := by omega
    obtain ⟨kc, lo, hi, hkc, h1, h2, hrun⟩ := rs_cover ((xs 0).toBitVec.toNat % 32) (rs_b (xs 1)) (Nat.mod_lt _ (by decide)) (rs_b_lt _)
    exact rs_start hkc hrun l hL hnm C0 (rs_e1_ok (rs_and31 _) h1 h2) (fun _ _ => trivial)
-- the same for every law, but numbers
set_option maxHeartbeats 4000000 in
theorem lw_walk (l : Launch) (hflags : l.flags = flags0) (b : Addr) (xs : List Int32) : MetFree l x (headSpec (Jvm.Cond.code x code maxLocals ret :: tables_1) room_1) (lw_P b xs) (fun _ _ _ _ _ => True) lw_Q := by
  refine MetFree.of_bodyS (code := code) (maxLocals := maxLocals) (ret := ret) (by decide) ?_ ?_
  · intro args s m h hn
    obtain ⟨meth, c, h1, h2, h3, h4, h5, h6, -, -⟩ := Cond.code_spec hn (atoms_spec (ws := Jvm.Cond.code x code maxLocals ret :: tables_1) h _ List.mem_cons_self)
    exact ⟨meth, c, h1, h2, h3, h4, h5, h6⟩
  · intro p e s m args below meth c s₁ B hml0 hP _
    obtain ⟨rfl, hx, hbd, hgv⟩ := hP
    obtain ⟨scr, harrAt, hlist, hof, hsmall⟩ := hx
    obtain ⟨hcb, hkn, -, -⟩ := State.arrayAt?_spec harrAt
    have hown : s.vm.findClass R_law = some m.cls := findClass_of_methodNamed B.named
    have hts0 : ∀ c ∈ (Jvm.Cond.code x code maxLocals ret :: tables_1), c.before #[Value.ref b] s = true := atoms_spec (ws := Jvm.Cond.code x code maxLocals ret :: tables_1) B.pre
    have hts : ∀ w ∈ lw_tbl, w.before #[Value.ref b] s = true := k2_hts_sels lw_privs (fun w hw => hts0 w (List.mem_cons_of_mem _ hw)) lw_privs_ok
    have hml : c.maxLocals = 4 := B.maxLocals_eq (hts0 _ List.mem_cons_self)
    have X₀ : Stand p l e room_1 s m #[Value.ref b] below meth c s₁ [] 0 0 := Stand.of_body B
    have hh0 : s₁.heap = s.heap := by rw [B.state]; rfl
    have hsz : scr.slots.size = xs.length := by rw [← Array.length_toList, hlist, List.length_map]
    have hval : ∀ j : Nat, j < xs.length → scr.slots[j]? = some (.int (xs.getD j 0)) := fun j hj => by
      rw [← Array.getElem?_toList, hlist]
      simp [hj]
    have hbl : b < s.heap.size := (Array.getElem?_eq_some_iff.mp hcb).1
    have hX : va_X b xs.length (fun j => xs.getD j 0) s s.heap := ⟨scr, hcb, hof, hkn, hsz, hval⟩
    have K : W p l e room_1 s m #[Value.ref b] below meth c s₁.heap [] 0 0 (lw_Z below #[Value.ref b] s) (entryFrame m ([Value.ref b] : List Value).toArray 4) := by
      rw [hh0]
      exact whole_start l hbd (name_of_methodNamed B.named B.method).1 ⟨B.exec, B.bytes, B.returns, hml, hown, hts, hX, hbl, B.notSynchronized, hgv⟩
    obtain ⟨t, a1, o, b1, b2, b3⟩ := K s₁ rfl X₀
    exact ⟨t, o, a1, b1, b2, b3⟩
theorem lw_pre_spec {args : Array Value} {s : State} (h : (Jvm.Cond.and given_1 narrow_1).before args s = true) (hr : rest_1_c.before args s = true) : ∃ (b : Addr) (xs : List Int32), lw_P b xs args s := by
  have hs := flat_of_before _ h
  have hq := flat_of_before _ hr
  have hc : (Cond.count 1).before args s = true := hs _ (by decide +kernel)
  have harr : (Cond.arrayOf (.arg 0) .int).before args s = true := hs _ (by decide +kernel)
  have hle : (Cond.le (.length (.arg 0)) (.int 6)).before args s = true := hs _ (by decide +kernel)
  have hlen : (Cond.isInt (.length (.arg 0))).before args s = true := hq _ (by decide +kernel)
  have hall : (Cond.all (.arg 0) (.isInt (.elem (.arg 0) (.index 0)))).before args s = true := hq _ (by decide +kernel)
  obtain ⟨b, xs, hb, hx⟩ := State.ints_of_pre rfl harr hlen hall
  have hsm : xs.length < 2 ^ 31 := hx.choose_spec.2.2.2
  have hev : (Term.length (.arg 0)).eval args s none [] s = some (.int xs.length.toInt32) := hx.length_eval hb
  have hv := Cond.le_ints hev (show (Term.int 6).eval args s none [] s = some (.int 6) from rfl)
  have hd : xs.length.toInt32 ≤ 6 := by
    simpa [Cond.before, Cond.holds, hv] using hle
  have hN : xs.length ≤ 6 := (Int32.ofNat_le_ofNat hsm (by decide)).mp (show Int32.ofNat xs.length ≤ Int32.ofNat 6 from hd)
  exact ⟨b, xs, Cond.one_arg hc (show args[0]? = some (.ref b) from hb), hx, hN, h⟩
theorem lw_comes (l : Launch) (hflags : l.flags = flags0) : Comes l x (Jvm.Cond.code x code maxLocals ret :: tables_1) room_1 (fun tb e args s => Calls_1 tb e args s ∧ rest_1 tb e args s ∧ Pre_1 tb e args s)
    (fun _ _ args s o t => lw_Q args s o t) := by
  intro p e ha hc hk s m args below hf hfit hheap happ hpre
  obtain ⟨b, xs, hP⟩ := lw_pre_spec hpre.2.2 hpre.2.1
  obtain ⟨k, o, h1, h2, h3, hQ⟩ := lw_walk l hflags b xs p e ha hc hk s m args below hf ((Spec.applies_iff_loose hf).mp happ).1 hP trivial
  exact ⟨k, o, h1, h2, h3, hQ⟩
theorem lw_frame {s t : State} {o : Outcome} {args : Array Value} (h : Framed s o t [] 600000 7302250) :
    Framed s o t (fieldLocs frame_1_writes args s ++ arrayLocs frame_1_arrays args s ++ staticLocs frame_1_statics s) 600000 7302250 := h
theorem lw_limb (L : Cond) (hL : ∀ (args : Array Value) (s t : State), L.after args s (.returned (some (.int 1))) t = true) :
    ArmFor flags0 classFile x code maxLocals ret World_1 tables_1 room_1 Calls_1 rest_1 Pre_1
      (fun tb e a s o t => postC L tb e a s o t ∧ Framed s o t (fieldLocs frame_1_writes a s ++ arrayLocs frame_1_arrays a s ++ staticLocs frame_1_statics s) 600000 7302250) := by
  intro l hflags _ _ p e ha hc hk s m args below hf hfit hheap happ hpre
  obtain ⟨k, o, h1, h2, h3, rfl, hF⟩ := lw_comes l hflags p e ha hc hk s m args below hf hfit hheap happ hpre
  exact ⟨k, _, h1, h2, h3, hL args s _, lw_frame hF⟩
theorem i_vc : Claimed_1_1 ∧ Claimed_1_2 := ⟨lw_limb limb_1_1 (fun args s t => by simp [limb_1_1, Cond.after, Cond.holds, Cond.value]), lw_limb limb_1_2 (fun args s t => Cond.after_iff.mpr (by
  first | (rw [show limb_1_2 = Cond.eq .result (.int 1) from rfl, Cond.eq_ints (x := 1) (y := 1) rfl rfl]; simp; done) | (simp [limb_1_2, Cond.value, Term.eval]; done)))⟩
