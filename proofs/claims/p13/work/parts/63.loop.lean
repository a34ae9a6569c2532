def rv_t_law_l : rv_T := (.branch 0 (.branch 0 (.branch 0 (.branch 0 (.leaf (32, .iand, 1)) (.leaf (24, .if_icmp .gt (1234), 3))) (.branch 0 (.branch 0 (.leaf (1252, .iinc 3 (6), 3)) (.leaf (20, .arraylength, 1))) (.leaf (28, .iload_n 3, 1)))) (.branch 0 (.branch 0 (.leaf (18, .iload_n 3, 1)) (.leaf (1258, .iconst 1, 1))) (.leaf (30, .bipush (31), 2)))) (.branch 0 (.branch 0 (.leaf (99999, .nop, 1)) (.branch 0 (.leaf (21, .bipush (6), 2)) (.leaf (29, .iaload, 1)))) (.branch 0 (.branch 0 (.leaf (19, .aload_n 0, 1)) (.leaf (27, .aload_n 0, 1))) (.branch 0 (.branch 0 (.leaf (1255, .goto (-1237), 3)) (.leaf (23, .isub, 1))) (.leaf (99999, .nop, 1))))))
theorem rv_k_law_l : rv_tok code rv_t_law_l = true := by decide +kernel
theorem rl_sw33 : decode code 33 = .ok (.tableswitch 1219 0 31 #[143, 176, 199, 248, 297, 320, 343, 366, 435, 484, 507, 570, 593, 616, 629, 652, 675, 708, 741, 774, 807, 840, 873, 916, 959, 1002, 1035, 1068, 1101, 1134, 1157, 1196], 143) := by decide +kernel
section RLL
variable {p : Program} {l : Launch} {e : Env} {s : State} {m : MethodId} {below : List Frame} {meth : Method} {c : Code} {b0 N : Nat} {xs : Nat → Int32} {cI c1 c2 c3 c4 c5 : ClassId} {D : va_G} {ad adV : Nat → Nat} {cells slots : Nat} {H : Heap} {locs : List Loc}
variable {ax am : Nat} {Gm Gc : Nat → Option Nat} {Lm Lc : List Nat} {Xc Xm : Int} {fc fm : Nat → va_E}
theorem rl_loop (hC : rl_Cx cI c1 c2 c3 c4 c5 D ad adV p s m meth c b0 N xs) (hN9 : N ≤ 3072) : ∀ (d n : Nat) (i : Int32) (Gc : Nat → Option Nat) (Lc : List Nat) (fc fm : Nat → va_E) (H : Heap) (locs : List Loc), rl_S cI c1 c2 c3 c4 c5 D ad s ax am Gm Lm (2276000 * (n : Int)) (2276000 * (n : Int)) Gc Lc fc fm H locs → rl_R ax am Gc fc fm → i.toInt = ((6 * n : Nat) : Int) → n + d = 512 → rv_G p l e room_1 s m #[Value.ref b0] below meth c (lw_Z below #[Value.ref b0] s) 4 (369 + 358 * n) (30833 + 10311 * n) H locs 18 [] [(0, .ref b0), (1, .ref ax), (2, .ref am), (3, .int i)] := by
  intro d
  have fin : ∀ (n : Nat) (i : Int32) (Gc : Nat → Option Nat) (Lc : List Nat) (fc fm : Nat → va_E) (H : Heap) (locs : List Loc), rl_S cI c1 c2 c3 c4 c5 D ad s ax am Gm Lm (2276000 * (n : Int)) (2276000 * (n : Int)) Gc Lc fc fm H locs → n ≤ 512 → rv_G p l e room_1 s m #[Value.ref b0] below meth c (lw_Z below #[Value.ref b0] s) 4 (369 + 358 * n) (30833 + 10311 * n) H locs 1258 [] [(0, .ref b0), (1, .ref ax), (2, .ref am), (3, .int i)] := by
    intro n i Gc Lc fc fm H locs hSt hn
    refine rv_run hC.1 hC.2.1 (T := rv_t_law_l) rv_k_law_l 1 ?_
    intro ls hl
    exact W.widen (k := 1049206) (n := 5954629) (by omega) (by omega) (va_forget hSt.2.2.2.2.1.2.2 (lw_ret hC.1 hC.2.1 hC.2.2.2.2.2.2.2.2.2.2.1 hC.2.2.2.2.2.2.2.2.2.2.2 (by decide +kernel)))
  have eN : (Int32.ofNat N).toInt = (N : Int) := by
    show (Int32.ofInt (N : Int)).toInt = _
    exact Int32.toInt_ofInt_of_le (by omega) (by omega)
  have e6 : (Int32.ofNat N - (Int8.ofInt 6).toInt32).toInt = (N : Int) - 6 := by
    rw [rk_sub_e (by rw [eN]; show _ ≤ (N : Int) - 6; omega) (by rw [eN]; show (N : Int) - 6 ≤ _; omega), eN]
    rfl
  induction d with
  | zero =>
    intro n i Gc Lc fc fm H locs hSt hR hi hd
    refine rv_run hC.1 hC.2.1 (T := rv_t_law_l) rv_k_law_l 2 ?_
    refine rl_len hC hSt.2.2.2.2.1 (by decide +kernel) ?_
    refine rv_run hC.1 hC.2.1 (T := rv_t_law_l) rv_k_law_l 3 ?_
    refine ⟨fun _ => fin n i Gc Lc fc fm H locs hSt (by omega), fun h => ?_⟩
    have h : i.toInt ≤ (Int32.ofNat N - (Int8.ofInt 6).toInt32).toInt := h
    omega
  | succ d ih =>
    intro n i Gc Lc fc fm H locs hSt hR hi hd
    refine rv_run hC.1 hC.2.1 (T := rv_t_law_l) rv_k_law_l 2 ?_
    refine rl_len hC hSt.2.2.2.2.1 (by decide +kernel) ?_
    refine rv_run hC.1 hC.2.1 (T := rv_t_law_l) rv_k_law_l 3 ?_
    refine ⟨fun _ => fin n i Gc Lc fc fm H locs hSt (by omega), fun h => ?_⟩
    have h : i.toInt ≤ (Int32.ofNat N - (Int8.ofInt 6).toInt32).toInt := h
    have hiN : 6 * n + 6 ≤ N := by omega
    refine rv_run hC.1 hC.2.1 (T := rv_t_law_l) rv_k_law_l 2 ?_
    refine rl_scr hC hSt.2.2.2.2.1 (j := 6 * n) hi (by omega) (by decide +kernel) ?_
    refine rv_run hC.1 hC.2.1 (T := rv_t_law_l) rv_k_law_l 2 ?_
    have hy := rk_and_r (x := xs (6 * n)) (y := (Int8.ofInt 31).toInt32) (by decide)
    have hy2 : (xs (6 * n) &&& (Int8.ofInt 31).toInt32).toInt ≤ 31 := hy.2
    have hy1 : 0 ≤ (xs (6 * n) &&& (Int8.ofInt 31).toInt32).toInt := hy.1
    clear hy
    have kk : ∀ (Gc : Nat → Option Nat) (Lc : List Nat) (fc fm : Nat → va_E) (H : Heap) (locs : List Loc), rl_S cI c1 c2 c3 c4 c5 D ad s ax am Gm Lm (2276000 * (n : Int) + 2276000) (2276000 * (n : Int) + 2276000) Gc Lc fc fm H locs → rl_R ax am Gc fc fm → rv_G p l e room_1 s m #[Value.ref b0] below meth c (lw_Z below #[Value.ref b0] s) 4 (369 + 358 * n + 358) (30833 + 10311 * n + 10311) H locs 1252 [] [(0, .ref b0), (1, .ref ax), (2, .ref am), (3, .int i)] := by
      intro Gc Lc fc fm H locs hSt hR
      have ei : (i + Int32.ofInt 6).toInt = ((6 * (n + 1) : Nat) : Int) := by
        rw [rk_add_e (by rw [hi]; show _ ≤ ((6 * n : Nat) : Int) + 6; omega) (by rw [hi]; show ((6 * n : Nat) : Int) + 6 ≤ _; omega), hi]
        show ((6 * n : Nat) : Int) + 6 = _
        omega
      refine rv_run hC.1 hC.2.1 (T := rv_t_law_l) rv_k_law_l 2 ?_
      have h9 := ih (n + 1) (i + Int32.ofInt 6) Gc Lc fc fm H locs (rl_S_X hSt (by omega) (by omega)) hR ei (by omega)
      rw [show 369 + 358 * (n + 1) = 369 + 358 * n + 358 by omega, show 30833 + 10311 * (n + 1) = 30833 + 10311 * n + 10311 by omega] at h9
      exact h9
    intro ls hl
    rcases (by omega : (xs (6 * n) &&& (Int8.ofInt 31).toInt32).toInt = 0 ∨ (xs (6 * n) &&& (Int8.ofInt 31).toInt32).toInt = 1 ∨ (xs (6 * n) &&& (Int8.ofInt 31).toInt32).toInt = 2 ∨ (xs (6 * n) &&& (Int8.ofInt 31).toInt32).toInt = 3 ∨ (xs (6 * n) &&& (Int8.ofInt 31).toInt32).toInt = 4 ∨ (xs (6 * n) &&& (Int8.ofInt 31).toInt32).toInt = 5 ∨ (xs (6 * n) &&& (Int8.ofInt 31).toInt32).toInt = 6 ∨ (xs (6 * n) &&& (Int8.ofInt 31).toInt32).toInt = 7 ∨ (xs (6 * n) &&& (Int8.ofInt 31).toInt32).toInt = 8 ∨ (xs (6 * n) &&& (Int8.ofInt 31).toInt32).toInt = 9 ∨ (xs (6 * n) &&& (Int8.ofInt 31).toInt32).toInt = 10 ∨ (xs (6 * n) &&& (Int8.ofInt 31).toInt32).toInt = 11 ∨ (xs (6 * n) &&& (Int8.ofInt 31).toInt32).toInt = 12 ∨ (xs (6 * n) &&& (Int8.ofInt 31).toInt32).toInt = 13 ∨ (xs (6 * n) &&& (Int8.ofInt 31).toInt32).toInt = 14 ∨ (xs (6 * n) &&& (Int8.ofInt 31).toInt32).toInt = 15 ∨ (xs (6 * n) &&& (Int8.ofInt 31).toInt32).toInt = 16 ∨ (xs (6 * n) &&& (Int8.ofInt 31).toInt32).toInt = 17 ∨ (xs (6 * n) &&& (Int8.ofInt 31).toInt32).toInt = 18 ∨ (xs (6 * n) &&& (Int8.ofInt 31).toInt32).toInt = 19 ∨ (xs (6 * n) &&& (Int8.ofInt 31).toInt32).toInt = 20 ∨ (xs (6 * n) &&& (Int8.ofInt 31).toInt32).toInt = 21 ∨ (xs (6 * n) &&& (Int8.ofInt 31).toInt32).toInt = 22 ∨ (xs (6 * n) &&& (Int8.ofInt 31).toInt32).toInt = 23 ∨ (xs (6 * n) &&& (Int8.ofInt 31).toInt32).toInt = 24 ∨ (xs (6 * n) &&& (Int8.ofInt 31).toInt32).toInt = 25 ∨ (xs (6 * n) &&& (Int8.ofInt 31).toInt32).toInt = 26 ∨ (xs (6 * n) &&& (Int8.ofInt 31).toInt32).toInt = 27 ∨ (xs (6 * n) &&& (Int8.ofInt 31).toInt32).toInt = 28 ∨ (xs (6 * n) &&& (Int8.ofInt 31).toInt32).toInt = 29 ∨ (xs (6 * n) &&& (Int8.ofInt 31).toInt32).toInt = 30 ∨ (xs (6 * n) &&& (Int8.ofInt 31).toInt32).toInt = 31) with h9 | h9 | h9 | h9 | h9 | h9 | h9 | h9 | h9 | h9 | h9 | h9 | h9 | h9 | h9 | h9 | h9 | h9 | h9 | h9 | h9 | h9 | h9 | h9 | h9 | h9 | h9 | h9 | h9 | h9 | h9 | h9

    · exact lv_tableIn hC.1 hC.2.1 rl_sw33 (off := 143) (tgt := 176) (by omega) (by omega) (by rw [h9]; rfl) rfl (rl_case_0 hC hSt hR (by omega) (by omega) ⟨by omega, by omega⟩ hi hiN hN9 kk ls hl)
    · exact lv_tableIn hC.1 hC.2.1 rl_sw33 (off := 176) (tgt := 209) (by omega) (by omega) (by rw [h9]; rfl) rfl (rl_case_1 hC hSt hR (by omega) (by omega) ⟨by omega, by omega⟩ hi hiN hN9 kk ls hl)
    · exact lv_tableIn hC.1 hC.2.1 rl_sw33 (off := 199) (tgt := 232) (by omega) (by omega) (by rw [h9]; rfl) rfl (rl_case_2 hC hSt hR (by omega) (by omega) ⟨by omega, by omega⟩ hi hiN hN9 kk ls hl)
    · exact lv_tableIn hC.1 hC.2.1 rl_sw33 (off := 248) (tgt := 281) (by omega) (by omega) (by rw [h9]; rfl) rfl (rl_case_3 hC hSt hR (by omega) (by omega) ⟨by omega, by omega⟩ hi hiN hN9 kk ls hl)
    · exact lv_tableIn hC.1 hC.2.1 rl_sw33 (off := 297) (tgt := 330) (by omega) (by omega) (by rw [h9]; rfl) rfl (rl_case_4 hC hSt hR (by omega) (by omega) ⟨by omega, by omega⟩ hi hiN hN9 kk ls hl)
    · exact lv_tableIn hC.1 hC.2.1 rl_sw33 (off := 320) (tgt := 353) (by omega) (by omega) (by rw [h9]; rfl) rfl (rl_case_5 hC hSt hR (by omega) (by omega) ⟨by omega, by omega⟩ hi hiN hN9 kk ls hl)
    · exact lv_tableIn hC.1 hC.2.1 rl_sw33 (off := 343) (tgt := 376) (by omega) (by omega) (by rw [h9]; rfl) rfl (rl_case_6 hC hSt hR (by omega) (by omega) ⟨by omega, by omega⟩ hi hiN hN9 kk ls hl)
    · exact lv_tableIn hC.1 hC.2.1 rl_sw33 (off := 366) (tgt := 399) (by omega) (by omega) (by rw [h9]; rfl) rfl (rl_case_7 hC hSt hR (by omega) (by omega) ⟨by omega, by omega⟩ hi hiN hN9 kk ls hl)
    · exact lv_tableIn hC.1 hC.2.1 rl_sw33 (off := 435) (tgt := 468) (by omega) (by omega) (by rw [h9]; rfl) rfl (rl_case_8 hC hSt hR (by omega) (by omega) ⟨by omega, by omega⟩ hi hiN hN9 kk ls hl)
    · exact lv_tableIn hC.1 hC.2.1 rl_sw33 (off := 484) (tgt := 517) (by omega) (by omega) (by rw [h9]; rfl) rfl (rl_case_9 hC hSt hR (by omega) (by omega) ⟨by omega, by omega⟩ hi hiN hN9 kk ls hl)
    · exact lv_tableIn hC.1 hC.2.1 rl_sw33 (off := 507) (tgt := 540) (by omega) (by omega) (by rw [h9]; rfl) rfl (rl_case_10 hC hSt hR (by omega) (by omega) ⟨by omega, by omega⟩ hi hiN hN9 kk ls hl)
    · exact lv_tableIn hC.1 hC.2.1 rl_sw33 (off := 570) (tgt := 603) (by omega) (by omega) (by rw [h9]; rfl) rfl (rl_case_11 hC hSt hR (by omega) (by omega) ⟨by omega, by omega⟩ hi hiN hN9 kk ls hl)
    · exact lv_tableIn hC.1 hC.2.1 rl_sw33 (off := 593) (tgt := 626) (by omega) (by omega) (by rw [h9]; rfl) rfl (rl_case_12 hC hSt hR (by omega) (by omega) ⟨by omega, by omega⟩ hi hiN hN9 kk ls hl)
    · exact lv_tableIn hC.1 hC.2.1 rl_sw33 (off := 616) (tgt := 649) (by omega) (by omega) (by rw [h9]; rfl) rfl (rl_case_13 hC hSt hR (by omega) (by omega) ⟨by omega, by omega⟩ hi hiN hN9 kk ls hl)
    · exact lv_tableIn hC.1 hC.2.1 rl_sw33 (off := 629) (tgt := 662) (by omega) (by omega) (by rw [h9]; rfl) rfl (rl_case_14 hC hSt hR (by omega) (by omega) ⟨by omega, by omega⟩ hi hiN hN9 kk ls hl)
    · exact lv_tableIn hC.1 hC.2.1 rl_sw33 (off := 652) (tgt := 685) (by omega) (by omega) (by rw [h9]; rfl) rfl (rl_case_15 hC hSt hR (by omega) (by omega) ⟨by omega, by omega⟩ hi hiN hN9 kk ls hl)
    · exact lv_tableIn hC.1 hC.2.1 rl_sw33 (off := 675) (tgt := 708) (by omega) (by omega) (by rw [h9]; rfl) rfl (rl_case_16 hC hSt hR (by omega) (by omega) ⟨by omega, by omega⟩ hi hiN hN9 kk ls hl)
    · exact lv_tableIn hC.1 hC.2.1 rl_sw33 (off := 708) (tgt := 741) (by omega) (by omega) (by rw [h9]; rfl) rfl (rl_case_17 hC hSt hR (by omega) (by omega) ⟨by omega, by omega⟩ hi hiN hN9 kk ls hl)
    · exact lv_tableIn hC.1 hC.2.1 rl_sw33 (off := 741) (tgt := 774) (by omega) (by omega) (by rw [h9]; rfl) rfl (rl_case_18 hC hSt hR (by omega) (by omega) ⟨by omega, by omega⟩ hi hiN hN9 kk ls hl)
    · exact lv_tableIn hC.1 hC.2.1 rl_sw33 (off := 774) (tgt := 807) (by omega) (by omega) (by rw [h9]; rfl) rfl (rl_case_19 hC hSt hR (by omega) (by omega) ⟨by omega, by omega⟩ hi hiN hN9 kk ls hl)
    · exact lv_tableIn hC.1 hC.2.1 rl_sw33 (off := 807) (tgt := 840) (by omega) (by omega) (by rw [h9]; rfl) rfl (rl_case_20 hC hSt hR (by omega) (by omega) ⟨by omega, by omega⟩ hi hiN hN9 kk ls hl)
    · exact lv_tableIn hC.1 hC.2.1 rl_sw33 (off := 840) (tgt := 873) (by omega) (by omega) (by rw [h9]; rfl) rfl (rl_case_21 hC hSt hR (by omega) (by omega) ⟨by omega, by omega⟩ hi hiN hN9 kk ls hl)
    · exact lv_tableIn hC.1 hC.2.1 rl_sw33 (off := 873) (tgt := 906) (by omega) (by omega) (by rw [h9]; rfl) rfl (rl_case_22 hC hSt hR (by omega) (by omega) ⟨by omega, by omega⟩ hi hiN hN9 kk ls hl)
    · exact lv_tableIn hC.1 hC.2.1 rl_sw33 (off := 916) (tgt := 949) (by omega) (by omega) (by rw [h9]; rfl) rfl (rl_case_23 hC hSt hR (by omega) (by omega) ⟨by omega, by omega⟩ hi hiN hN9 kk ls hl)
    · exact lv_tableIn hC.1 hC.2.1 rl_sw33 (off := 959) (tgt := 992) (by omega) (by omega) (by rw [h9]; rfl) rfl (rl_case_24 hC hSt hR (by omega) (by omega) ⟨by omega, by omega⟩ hi hiN hN9 kk ls hl)
    · exact lv_tableIn hC.1 hC.2.1 rl_sw33 (off := 1002) (tgt := 1035) (by omega) (by omega) (by rw [h9]; rfl) rfl (rl_case_25 hC hSt hR (by omega) (by omega) ⟨by omega, by omega⟩ hi hiN hN9 kk ls hl)
    · exact lv_tableIn hC.1 hC.2.1 rl_sw33 (off := 1035) (tgt := 1068) (by omega) (by omega) (by rw [h9]; rfl) rfl (rl_case_26 hC hSt hR (by omega) (by omega) ⟨by omega, by omega⟩ hi hiN hN9 kk ls hl)
    · exact lv_tableIn hC.1 hC.2.1 rl_sw33 (off := 1068) (tgt := 1101) (by omega) (by omega) (by rw [h9]; rfl) rfl (rl_case_27 hC hSt hR (by omega) (by omega) ⟨by omega, by omega⟩ hi hiN hN9 kk ls hl)
    · exact lv_tableIn hC.1 hC.2.1 rl_sw33 (off := 1101) (tgt := 1134) (by omega) (by omega) (by rw [h9]; rfl) rfl (rl_case_28 hC hSt hR (by omega) (by omega) ⟨by omega, by omega⟩ hi hiN hN9 kk ls hl)
    · exact lv_tableIn hC.1 hC.2.1 rl_sw33 (off := 1134) (tgt := 1167) (by omega) (by omega) (by rw [h9]; rfl) rfl (rl_case_29 hC hSt hR (by omega) (by omega) ⟨by omega, by omega⟩ hi hiN hN9 kk ls hl)
    · exact lv_tableIn hC.1 hC.2.1 rl_sw33 (off := 1157) (tgt := 1190) (by omega) (by omega) (by rw [h9]; rfl) rfl (rl_case_30 hC hSt hR (by omega) (by omega) ⟨by omega, by omega⟩ hi hiN hN9 kk ls hl)
    · exact lv_tableIn hC.1 hC.2.1 rl_sw33 (off := 1196) (tgt := 1229) (by omega) (by omega) (by rw [h9]; rfl) rfl (rl_case_31 hC hSt hR (by omega) (by omega) ⟨by omega, by omega⟩ hi hiN hN9 kk ls hl)
end RLL
