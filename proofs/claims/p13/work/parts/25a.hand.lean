theorem rm_PI_of {G : Nat → Option Nat} {f : Nat → va_E} {a0 : Nat} (h1 : rm_one G) (hG : G a0 = some 12) (hI : rm_INV G f a0) : rm_PI G f := ⟨h1, fun a ha => by
  have e := h1.1 a0 a hG ha
  subst e
  exact hI⟩
theorem rm_scC {cI c1 c2 c3 c4 c5 : ClassId} {ad : Nat → Nat} {G : Nat → Option Nat} {L : List Nat} {X : Int} {f : Nat → va_E} {a0 : Nat} (hT : rm_TY cI c1 c2 c3 c4 c5 ad G X L f) (hG : G a0 = some 12) {s w : Nat} (hs : s < 40) (hw : w < 64) (ht : rm_mS.getD w rk_full = (1, 0, 0)) : 0 ≤ rm_sc (rm_now G f a0) s w ∧ rm_sc (rm_now G f a0) s w ≤ X := by
  have h := rm_nowT hT hG (64 * s + w) (by omega)
  rw [rm_mE_s hs hw, ht] at h
  obtain ⟨x, ex, h1, h2⟩ := h
  cases ex
  rw [Int.add_zero] at h2
  exact ⟨h1, h2⟩
section RMK2
variable {base : Nat} {cI c1 c2 c3 c4 c5 : ClassId} {D : va_G} {ad adV : Nat → Nat} {M : rk_Mt} {mt : Nat → rk_Mt} {ml : rk_Ml} {fl : rk_Fl}
variable {p : Program} {l : Launch} {e : Env} {R : Room} {st : State} {m : MethodId} {args : Array Value} {below : List Frame} {meth : Method} {c : Code} {Q : State → Prop} {cells slots : Nat} {A : Nat → Prop} {G : Nat → Option Nat} {L : List Nat} {X : Int} {f : Nat → va_E} {H : Heap} {locs : List Loc} {a0 : Nat}
theorem w_kI (hC : rm_Cx base (rk_tys cI c1 c2 c3 c4 c5) D (rk_NU base ad adV) M mt ml fl p R st m args meth c A L) (hh : rm_h D A st L f H locs) (hT : rm_TY cI c1 c2 c3 c4 c5 ad G X L f) (hG : G a0 = some 12) (hX : 0 ≤ X) {C : Int} (hXC : X + C ≤ rk_top) {pc : Nat} (idx : Nat) {z n : Nat} (hdg : decode M.2.1 pc = .ok (.invokevirtual idx, 3)) (hidx : ml idx = some (z, n, 12)) {as : List Value} {avs : List rk_AV} {alts : List rk_Alt} {lv : Nat} (hM : rm_Mi base l cI c1 c2 c3 c4 c5 D ad adV (mt z) avs alts C lv) (hall : rk_all G X avs (.ref a0 :: as)) (hPI : rm_PI G f) (hn : as.length + 1 = n) {sk rest : List Value} (hsk : sk = as.reverse ++ .ref a0 :: rest) (hcat : rm_cat rest) (hcs : cells ≤ R.cells ∧ slots ≤ R.slots) {lo : List (Nat × Value)}
    (kk : ∀ (v : Option Value) (u : Nat → va_E) (H1 : Heap) (locs1 : List Loc), rm_h D A st L u H1 locs1 → rm_TY cI c1 c2 c3 c4 c5 ad G (X + C) L u → rm_Lv G lv f u → rk_alt G (X + C) (.ref a0 :: as) alts v → rv_G p l e R st m args below meth c Q M.2.2.1 cells slots H1 locs1 (pc + 3) (v.toList ++ rest) lo) : rv_G p l e R st m args below meth c Q M.2.2.1 cells slots H locs pc sk lo := by
  obtain ⟨hL0, fs, aN, aA, aT, aH, aI, e1, -⟩ := rm_me hT hG
  exact rm_callV hC hh hdg hidx hL0 e1 (rm_of hM (.ref a0 :: as)) hX hXC hT ⟨hall, hPI⟩ hn hsk hcat hcs (fun v u H1 locs1 hP hh1 => kk v u H1 locs1 hh1 hP.2.1 hP.2.2 hP.1)
end RMK2
theorem rk_alt_v1 {G : Nat → Option Nat} {X : Int} {av : List Value} {a b : Int} {v : Option Value} (h : rk_alt G X av [((0, a, b), [])] v) : ∃ x : Int32, v = some (.int x) ∧ a ≤ x.toInt ∧ x.toInt ≤ b := by
  obtain ⟨q, hq, h1, -⟩ := h
  rw [List.mem_singleton] at hq
  subst hq
  obtain ⟨w, rfl, x, rfl, h2, h3⟩ := (h1 : ∃ w, v = some w ∧ rk_has G X (0, a, b) w)
  exact ⟨x, rfl, h2, h3⟩
theorem rk_alt_vn {G : Nat → Option Nat} {X : Int} {av : List Value} {v : Option Value} (h : rk_alt G X av [((9, 0, 0), [])] v) : v = none := by
  obtain ⟨q, hq, h1, -⟩ := h
  rw [List.mem_singleton] at hq
  subst hq
  exact h1
def rv_t_X12_spills : rv_T := (.branch 0 (.branch 0 (.branch 0 (.branch 0 (.branch 0 (.leaf (0, .aload_n 0, 1)) (.leaf (16, .aload_n 0, 1))) (.branch 0 (.leaf (8, .aload_n 0, 1)) (.leaf (24, .return_, 1)))) (.branch 0 (.branch 0 (.leaf (4, .iconst 2, 1)) (.leaf (20, .iconst 0, 1))) (.leaf (12, .iconst 0, 1)))) (.branch 0 (.branch 0 (.branch 0 (.leaf (2, .bipush (21), 2)) (.leaf (18, .bipush (23), 2))) (.leaf (10, .bipush (22), 2))) (.leaf (99999, .nop, 1)))) (.branch 0 (.branch 0 (.branch 0 (.branch 0 (.leaf (1, .iload_n 1, 1)) (.leaf (17, .iload_n 1, 1))) (.leaf (9, .iload_n 1, 1))) (.branch 0 (.branch 0 (.leaf (5, .invokevirtual 42, 3)) (.leaf (21, .invokevirtual 42, 3))) (.leaf (13, .invokevirtual 42, 3)))) (.leaf (99999, .nop, 1))))
theorem rv_k_X12_spills : rv_tok cX12_spills rv_t_X12_spills = true := by decide +kernel
def rv_t_X12_spillsOne : rv_T := (.branch 0 (.branch 0 (.branch 0 (.branch 0 (.branch 0 (.branch 0 (.branch 0 (.leaf (0, .aload_n 0, 1)) (.leaf (64, .invokevirtual 152, 3))) (.branch 0 (.leaf (32, .iload_n 1, 1)) (.leaf (96, .iload_n 3, 1)))) (.branch 0 (.branch 0 (.leaf (16, .ifCond .ne (39), 3)) (.leaf (80, .idiv, 1))) (.branch 0 (.leaf (48, .iload_n 1, 1)) (.leaf (112, .iload_n 1, 1))))) (.branch 0 (.leaf (99999, .nop, 1)) (.branch 0 (.leaf (99999, .nop, 1)) (.branch 0 (.leaf (56, .sipush (256), 3)) (.leaf (120, .iload_n 1, 1)))))) (.branch 0 (.branch 0 (.branch 0 (.leaf (4, .invokevirtual 36, 3)) (.branch 0 (.leaf (36, .iload_n 1, 1)) (.leaf (100, .bipush (9), 2)))) (.branch 0 (.leaf (20, .iload_n 1, 1)) (.leaf (116, .invokevirtual 42, 3)))) (.branch 0 (.branch 0 (.branch 0 (.leaf (12, .iload_n 2, 1)) (.leaf (76, .aload_n 0, 1))) (.branch 0 (.leaf (44, .invokevirtual 42, 3)) (.leaf (108, .invokevirtual 56, 3)))) (.branch 0 (.branch 0 (.leaf (28, .if_icmp .ge (19), 3)) (.leaf (92, .invokevirtual 130, 3))) (.leaf (124, .invokevirtual 42, 3)))))) (.branch 0 (.branch 0 (.branch 0 (.leaf (2, .bipush (25), 2)) (.leaf (82, .ifCond .eq (8), 3))) (.branch 0 (.branch 0 (.branch 0 (.leaf (10, .return_, 1)) (.leaf (74, .iconst 0, 1))) (.leaf (42, .iadd, 1))) (.branch 0 (.branch 0 (.leaf (26, .bipush (6), 2)) (.leaf (90, .bipush (10), 2))) (.leaf (99999, .nop, 1))))) (.branch 0 (.branch 0 (.branch 0 (.leaf (70, .iconst 1, 1)) (.leaf (102, .goto (5), 3))) (.leaf (54, .return_, 1))) (.branch 0 (.leaf (78, .bipush (8), 2)) (.leaf (62, .aload_n 0, 1)))))) (.branch 0 (.branch 0 (.branch 0 (.branch 0 (.branch 0 (.leaf (1, .iload_n 1, 1)) (.branch 0 (.leaf (33, .bipush (58), 2)) (.leaf (97, .ifCond .eq (8), 3)))) (.branch 0 (.leaf (81, .iload_n 3, 1)) (.branch 0 (.leaf (49, .bipush (24), 2)) (.leaf (113, .bipush (25), 2))))) (.branch 0 (.leaf (105, .bipush (10), 2)) (.leaf (121, .bipush (24), 2)))) (.branch 0 (.branch 0 (.leaf (37, .bipush (24), 2)) (.branch 0 (.branch 0 (.leaf (21, .bipush (24), 2)) (.leaf (85, .bipush (9), 2))) (.leaf (99999, .nop, 1)))) (.branch 0 (.branch 0 (.branch 0 (.leaf (13, .invokevirtual 79, 3)) (.leaf (77, .iload_n 1, 1))) (.leaf (99999, .nop, 1))) (.leaf (99999, .nop, 1))))) (.branch 0 (.branch 0 (.branch 0 (.branch 0 (.leaf (67, .ifCond .eq (7), 3)) (.leaf (35, .aload_n 0, 1))) (.branch 0 (.leaf (19, .aload_n 0, 1)) (.branch 0 (.leaf (51, .invokevirtual 46, 3)) (.leaf (115, .iconst 0, 1))))) (.branch 0 (.branch 0 (.branch 0 (.leaf (11, .aload_n 0, 1)) (.leaf (75, .istore_n 3, 1))) (.branch 0 (.leaf (43, .iload_n 2, 1)) (.leaf (107, .iload_n 1, 1)))) (.branch 0 (.leaf (99999, .nop, 1)) (.branch 0 (.leaf (59, .if_icmp .ne (15), 3)) (.leaf (123, .iconst 0, 1)))))) (.branch 0 (.branch 0 (.branch 0 (.branch 0 (.leaf (7, .ifCond .ne (4), 3)) (.leaf (71, .goto (4), 3))) (.leaf (39, .invokevirtual 36, 3))) (.branch 0 (.branch 0 (.leaf (23, .invokevirtual 36, 3)) (.leaf (87, .goto (5), 3))) (.branch 0 (.leaf (55, .iload_n 2, 1)) (.leaf (119, .aload_n 0, 1))))) (.branch 0 (.branch 0 (.leaf (99999, .nop, 1)) (.branch 0 (.leaf (47, .aload_n 0, 1)) (.leaf (111, .aload_n 0, 1)))) (.branch 0 (.branch 0 (.leaf (31, .aload_n 0, 1)) (.leaf (95, .aload_n 0, 1))) (.branch 0 (.leaf (63, .iload_n 1, 1)) (.leaf (127, .return_, 1)))))))))
theorem rv_k_X12_spillsOne : rv_tok cX12_spillsOne rv_t_X12_spillsOne = true := by decide +kernel
section RMX
variable (base : Nat) (l : Launch) (cI c1 c2 c3 c4 c5 : ClassId) (D : va_G) (ad adV : Nat → Nat)
theorem h_spills (a0 : Nat) (s : Int32) (sn : Nat) (hs : s.toInt = (sn : Int)) (hsn : sn < 40) : rm_Hm base l cI c1 c2 c3 c4 c5 D ad adV rk_q_X12_spills [.ref a0, .int s] (fun G _ f => G a0 = some 12) (fun G _ f v u => v = none ∧ rm_sc (rm_now G u a0) sn 21 = 2) 0 1 := by
  unfold rm_Hm
  refine rm_start (M := rk_q_X12_spills) (rk_hNw base ad adV) (rk_hNc base ad adV) (by decide +kernel) (mt := rk_mt [rk_q_X12_puts]) (ml := rk_mlf [(42, 0, 4, 12)]) (fl := rk_flf rk_ftX12) (fun s args h hN => rk_MlOk_of (List.forall_mem_cons.mpr ⟨rk_mck_ok (fun w hw => List.mem_cons_of_mem _ hw) h hN rk_cm_X12_puts rk_lk_X12_42, fun _ h => absurd h List.not_mem_nil⟩) (by decide +kernel)) (fun s args h hN => rk_flX12 (fun w hw => List.mem_cons_of_mem _ hw) h hN) (rm_cat1 rfl) (Nat.le_of_ble_eq_true rfl) ?_
  intro p e st m below meth c G X L f0 A hC hh hX0 hXC hT hpre
  have hcs : 0 ≤ 0 ∧ 0 ≤ 0 := ⟨Nat.le_refl 0, Nat.le_refl 0⟩
  have hG : G a0 = some 12 := hpre
  refine rv_run hC.1 hC.2.1 (T := rv_t_X12_spills) rv_k_X12_spills 80 ?_
  refine w_puts hC hh hT hG (by omega) (by omega) 1 42 (by decide +kernel) rfl rfl hs hsn 21 (by decide) (by decide) rfl (rm_hI (a := 0) (b := 2) rfl (by decide) (by decide)) (Nat.le_of_ble_eq_true rfl) hcs (fun f H locs hh hT hL hP => ?_)
  have hLt := hL
  have e1 : rm_sc (rm_now G f a0) sn 21 = 2 := by
    rw [rm_sc_set hP (by decide) (by decide), if_pos ⟨rfl, rfl⟩]
    rfl
  refine rv_run hC.1 hC.2.1 (T := rv_t_X12_spills) rv_k_X12_spills 80 ?_
  refine w_puts hC hh hT hG (by omega) (by omega) 1 42 (by decide +kernel) rfl rfl hs hsn 22 (by decide) (by decide) rfl (rm_hI (a := 0) (b := 31) rfl (by decide) (by decide)) (Nat.le_of_ble_eq_true rfl) hcs (fun f H locs hh hT hL hP => ?_)
  have hLt := rm_lv_tr (k := 1) hLt hL rfl rfl
  have e1 : rm_sc (rm_now G f a0) sn 21 = 2 := by
    rw [rm_sc_set hP (by decide) (by decide), if_neg (by omega)]
    exact e1
  refine rv_run hC.1 hC.2.1 (T := rv_t_X12_spills) rv_k_X12_spills 80 ?_
  refine w_puts hC hh hT hG (by omega) (by omega) 1 42 (by decide +kernel) rfl rfl hs hsn 23 (by decide) (by decide) rfl (rm_hF rfl) (Nat.le_of_ble_eq_true rfl) hcs (fun f H locs hh hT hL hP => ?_)
  have hLt := rm_lv_tr (k := 1) hLt hL rfl rfl
  have e1 : rm_sc (rm_now G f a0) sn 21 = 2 := by
    rw [rm_sc_set hP (by decide) (by decide), if_neg (by omega)]
    exact e1
  refine rv_run hC.1 hC.2.1 (T := rv_t_X12_spills) rv_k_X12_spills 80 ?_
  refine rm_vret hC hh (by decide +kernel) rfl ⟨by rw [Int.add_zero]; exact hT, hLt, rfl, e1⟩
theorem h_spillsOne (a0 : Nat) (s x : Int32) (sn : Nat) (hs : s.toInt = (sn : Int)) (hsn : sn < 32) (hx : 0 ≤ x.toInt ∧ x.toInt ≤ 257) : rm_Hm base l cI c1 c2 c3 c4 c5 D ad adV rk_q_X12_spillsOne [.ref a0, .int s, .int x] (fun G _ f => G a0 = some 12 ∧ rm_one G ∧ rm_INV G f a0) (fun G _ f v u => v = none) 3 3 := by
  unfold rm_Hm
  refine rm_start (M := rk_q_X12_spillsOne) (rk_hNw base ad adV) (rk_hNc base ad adV) (by decide +kernel) (mt := rk_mt [rk_q_X12_at, rk_q_X12_does, rk_q_X12_isMark, rk_q_X12_logs, rk_q_X12_more, rk_q_X12_moreRouter, rk_q_X12_puts]) (ml := rk_mlf [(36, 0, 3, 12), (152, 1, 2, 12), (79, 2, 2, 12), (56, 3, 3, 12), (46, 4, 3, 12), (130, 5, 3, 12), (42, 6, 4, 12)]) (fl := rk_flf rk_ftX12) (fun s args h hN => rk_MlOk_of (List.forall_mem_cons.mpr ⟨rk_mck_ok (fun w hw => List.mem_cons_of_mem _ hw) h hN rk_cm_X12_at rk_lk_X12_36, List.forall_mem_cons.mpr ⟨rk_mck_ok (fun w hw => List.mem_cons_of_mem _ hw) h hN rk_cm_X12_does rk_lk_X12_152, List.forall_mem_cons.mpr ⟨rk_mck_ok (fun w hw => List.mem_cons_of_mem _ hw) h hN rk_cm_X12_isMark rk_lk_X12_79, List.forall_mem_cons.mpr ⟨rk_mck_ok (fun w hw => List.mem_cons_of_mem _ hw) h hN rk_cm_X12_logs rk_lk_X12_56, List.forall_mem_cons.mpr ⟨rk_mck_ok (fun w hw => List.mem_cons_of_mem _ hw) h hN rk_cm_X12_more rk_lk_X12_46, List.forall_mem_cons.mpr ⟨rk_mck_ok (fun w hw => List.mem_cons_of_mem _ hw) h hN rk_cm_X12_moreRouter rk_lk_X12_130, List.forall_mem_cons.mpr ⟨rk_mck_ok (fun w hw => List.mem_cons_of_mem _ hw) h hN rk_cm_X12_puts rk_lk_X12_42, fun _ h => absurd h List.not_mem_nil⟩⟩⟩⟩⟩⟩⟩) (by decide +kernel)) (fun s args h hN => rk_flX12 (fun w hw => List.mem_cons_of_mem _ hw) h hN) (rm_cat1 rfl) (Nat.le_of_ble_eq_true rfl) ?_
  intro p e st m below meth c G X L f0 A hC hh hX0 hXC hT hpre
  have hcs : 0 ≤ 0 ∧ 0 ≤ 0 := ⟨Nat.le_refl 0, Nat.le_refl 0⟩
  obtain ⟨hG, h1, hI⟩ := hpre
  have hXt : X + 3 ≤ 2000000000 := hXC
  have hs40 : sn < 40 := by omega
  have e9 : (Int8.ofInt 8).toInt32.toInt = 8 := rfl
  have e8 : (s / (Int8.ofInt 8).toInt32).toInt = ((sn / 8 : Nat) : Int) := by rw [rk_div_e (by omega) (by rw [e9]; decide), e9, hs]; omega
  refine rv_run hC.1 hC.2.1 (T := rv_t_X12_spillsOne) rv_k_X12_spillsOne 80 ?_
  refine w_at hC hh hT hG (by omega) (by omega) 36 (by decide +kernel) rfl rfl hs hs40 25 (by decide) (by decide) (Nat.le_of_ble_eq_true rfl) hcs (fun q H locs hh hq => ?_)
  refine rv_run hC.1 hC.2.1 (T := rv_t_X12_spillsOne) rv_k_X12_spillsOne 1 ?_
  refine ⟨fun _ => ?_, fun _ => ?_⟩
  · refine rv_run hC.1 hC.2.1 (T := rv_t_X12_spillsOne) rv_k_X12_spillsOne 80 ?_
    refine w_k hC hh hT hG (by omega) (by omega) 79 (by decide +kernel) rfl (c_X12_isMark base l cI c1 c2 c3 c4 c5 D ad adV) (rk_all_c (rk_aM hG) (rk_all_c rk_aF rk_all_0)) rfl rfl (Nat.le_of_ble_eq_true rfl) hcs (fun v f H locs hh hT hL hA => ?_)
    rw [Int.add_zero] at hT
    have hLt := rm_lv_up (m := 3) hL rfl
    have hI := rm_I1 (rm_lv_up hL rfl) hG hI
    obtain ⟨y, rfl, -⟩ := rk_alt_2 hA
    refine rv_run hC.1 hC.2.1 (T := rv_t_X12_spillsOne) rv_k_X12_spillsOne 1 ?_
    refine ⟨fun _ => ?_, fun _ => ?_⟩
    · have t92 : ∀ (w z : Int32) (wn : Nat) (Y : Int) (f : Nat → va_E) (H : Heap) (locs : List Loc), rm_h D A st L f H locs → 0 ≤ Y → Y ≤ 2 → rm_TY cI c1 c2 c3 c4 c5 ad G (X + Y) L f → rm_Lv G 3 f0 f → w.toInt = (wn : Int) → wn = 9 ∨ wn = 10 → rv_G p l e { frames := rk_q_X12_spillsOne.2.2.2.2.1, cells := 0, slots := 0, locals := rk_q_X12_spillsOne.2.2.2.2.2 } st m ([.ref a0, .int s, .int x] : List Value).toArray below meth c (MQ below (rk_Q (fun v u => rm_TY cI c1 c2 c3 c4 c5 ad G (X + 3) L u ∧ rm_Lv G 3 f0 u ∧ (fun G _ f v u => v = none) G X f0 v u) (rk_B D (rk_tys cI c1 c2 c3 c4 c5) L A) A) ([.ref a0, .int s, .int x] : List Value).toArray st 0 0 A) rk_q_X12_spillsOne.2.2.1 0 0 H locs 92 [.int w, .int (s / (Int8.ofInt 8).toInt32), .ref a0] [(0, .ref a0), (1, .int s), (2, .int x), (3, .int z)] := by
        intro w z wn Y f H locs hh hY0 hY hT hLt hw hwn
        have t95 : ∀ (f : Nat → va_E) (H : Heap) (locs : List Loc), rm_h D A st L f H locs → rm_TY cI c1 c2 c3 c4 c5 ad G (X + Y) L f → rm_Lv G 3 f0 f → rv_G p l e { frames := rk_q_X12_spillsOne.2.2.2.2.1, cells := 0, slots := 0, locals := rk_q_X12_spillsOne.2.2.2.2.2 } st m ([.ref a0, .int s, .int x] : List Value).toArray below meth c (MQ below (rk_Q (fun v u => rm_TY cI c1 c2 c3 c4 c5 ad G (X + 3) L u ∧ rm_Lv G 3 f0 u ∧ (fun G _ f v u => v = none) G X f0 v u) (rk_B D (rk_tys cI c1 c2 c3 c4 c5) L A) A) ([.ref a0, .int s, .int x] : List Value).toArray st 0 0 A) rk_q_X12_spillsOne.2.2.1 0 0 H locs 95 [] [(0, .ref a0), (1, .int s), (2, .int x), (3, .int z)] := by
          intro f H locs hh hT hLt
          have t107 : ∀ (j : Int32), rv_G p l e { frames := rk_q_X12_spillsOne.2.2.2.2.1, cells := 0, slots := 0, locals := rk_q_X12_spillsOne.2.2.2.2.2 } st m ([.ref a0, .int s, .int x] : List Value).toArray below meth c (MQ below (rk_Q (fun v u => rm_TY cI c1 c2 c3 c4 c5 ad G (X + 3) L u ∧ rm_Lv G 3 f0 u ∧ (fun G _ f v u => v = none) G X f0 v u) (rk_B D (rk_tys cI c1 c2 c3 c4 c5) L A) A) ([.ref a0, .int s, .int x] : List Value).toArray st 0 0 A) rk_q_X12_spillsOne.2.2.1 0 0 H locs 107 [.int j, .ref a0] [(0, .ref a0), (1, .int s), (2, .int x), (3, .int z)] := by
            intro j
            refine rv_run hC.1 hC.2.1 (T := rv_t_X12_spillsOne) rv_k_X12_spillsOne 80 ?_
            refine w_kv hC hh hT hG (by omega) (by omega) 56 (by decide +kernel) rfl (c_X12_logs base l cI c1 c2 c3 c4 c5 D ad adV) (rk_all_c (rk_aM hG) (rk_all_c rk_aF (rk_all_c rk_aF rk_all_0))) rfl rfl (Nat.le_of_ble_eq_true rfl) hcs (fun f H locs hh hT hL => ?_)
            have hLt := rm_lv_tr (k := 3) hLt hL rfl rfl
            refine rv_run hC.1 hC.2.1 (T := rv_t_X12_spillsOne) rv_k_X12_spillsOne 80 ?_
            refine w_puts hC hh hT hG (by omega) (by omega) 1 42 (by decide +kernel) rfl rfl hs hs40 25 (by decide) (by decide) rfl (rm_hI (a := 0) (b := 1) rfl (by decide) (by decide)) (Nat.le_of_ble_eq_true rfl) hcs (fun f H locs hh hT hL hP => ?_)
            have hLt := rm_lv_tr (k := 3) hLt hL rfl rfl
            refine rv_run hC.1 hC.2.1 (T := rv_t_X12_spillsOne) rv_k_X12_spillsOne 80 ?_
            refine w_puts hC hh hT hG (by omega) (by omega) 1 42 (by decide +kernel) rfl rfl hs hs40 24 (by decide) (by decide) rfl (show rk_has G (X + Y + 1) (1, 0, 0) (.int (Int32.ofInt 0)) from ⟨Int32.ofInt 0, rfl, by decide, show (0 : Int) ≤ X + Y + 1 + 0 by omega⟩) (Nat.le_of_ble_eq_true rfl) hcs (fun f H locs hh hT hL hP => ?_)
            have hLt := rm_lv_tr (k := 3) hLt hL rfl rfl
            refine rv_run hC.1 hC.2.1 (T := rv_t_X12_spillsOne) rv_k_X12_spillsOne 80 ?_
            refine rm_vret hC hh (by decide +kernel) rfl ⟨rk_TY_X (by omega) hT, hLt, rfl⟩
          refine rv_run hC.1 hC.2.1 (T := rv_t_X12_spillsOne) rv_k_X12_spillsOne 3 ?_
          refine ⟨fun _ => ?_, fun _ => ?_⟩
          · refine rv_run hC.1 hC.2.1 (T := rv_t_X12_spillsOne) rv_k_X12_spillsOne 1 ?_
            exact t107 _
          · refine rv_run hC.1 hC.2.1 (T := rv_t_X12_spillsOne) rv_k_X12_spillsOne 2 ?_
            exact t107 _
        rcases hwn with rfl | rfl
        · refine w_moreRouter hC hh hT hG (by omega) 0 (by decide) (by omega) 1 130 (by decide +kernel) rfl rfl e8 (by omega) 9 hw (by decide) rfl (rm_hF rfl) (Nat.le_of_ble_eq_true rfl) hcs (fun f H locs hh hT hL hP => ?_)
          rw [Int.add_zero] at hT
          exact t95 f H locs hh hT (rm_lv_tr (k := 3) hLt hL rfl rfl)
        · refine w_moreRouter hC hh hT hG (by omega) 0 (by decide) (by omega) 1 130 (by decide +kernel) rfl rfl e8 (by omega) 10 hw (by decide) rfl (rm_hF rfl) (Nat.le_of_ble_eq_true rfl) hcs (fun f H locs hh hT hL hP => ?_)
          rw [Int.add_zero] at hT
          exact t95 f H locs hh hT (rm_lv_tr (k := 3) hLt hL rfl rfl)
      have t75 : ∀ (z : Int32) (Y : Int) (f : Nat → va_E) (H : Heap) (locs : List Loc), rm_h D A st L f H locs → 0 ≤ Y → Y ≤ 2 → rm_TY cI c1 c2 c3 c4 c5 ad G (X + Y) L f → rm_Lv G 3 f0 f → rv_G p l e { frames := rk_q_X12_spillsOne.2.2.2.2.1, cells := 0, slots := 0, locals := rk_q_X12_spillsOne.2.2.2.2.2 } st m ([.ref a0, .int s, .int x] : List Value).toArray below meth c (MQ below (rk_Q (fun v u => rm_TY cI c1 c2 c3 c4 c5 ad G (X + 3) L u ∧ rm_Lv G 3 f0 u ∧ (fun G _ f v u => v = none) G X f0 v u) (rk_B D (rk_tys cI c1 c2 c3 c4 c5) L A) A) ([.ref a0, .int s, .int x] : List Value).toArray st 0 0 A) rk_q_X12_spillsOne.2.2.1 0 0 H locs 75 [.int z] [(0, .ref a0), (1, .int s), (2, .int x)] := by
        intro z Y f H locs hh hY0 hY hT hLt
        refine rv_run hC.1 hC.2.1 (T := rv_t_X12_spillsOne) rv_k_X12_spillsOne 7 ?_
        refine ⟨by decide, fun _ => ?_, fun _ => ?_⟩
        · refine rv_run hC.1 hC.2.1 (T := rv_t_X12_spillsOne) rv_k_X12_spillsOne 1 ?_
          exact t92 _ z 10 Y f H locs hh hY0 hY hT hLt rfl (Or.inr rfl)
        · refine rv_run hC.1 hC.2.1 (T := rv_t_X12_spillsOne) rv_k_X12_spillsOne 2 ?_
          exact t92 _ z 9 Y f H locs hh hY0 hY hT hLt rfl (Or.inl rfl)
      have t74 : ∀ (Y : Int) (f : Nat → va_E) (H : Heap) (locs : List Loc), rm_h D A st L f H locs → 0 ≤ Y → Y ≤ 2 → rm_TY cI c1 c2 c3 c4 c5 ad G (X + Y) L f → rm_Lv G 3 f0 f → rv_G p l e { frames := rk_q_X12_spillsOne.2.2.2.2.1, cells := 0, slots := 0, locals := rk_q_X12_spillsOne.2.2.2.2.2 } st m ([.ref a0, .int s, .int x] : List Value).toArray below meth c (MQ below (rk_Q (fun v u => rm_TY cI c1 c2 c3 c4 c5 ad G (X + 3) L u ∧ rm_Lv G 3 f0 u ∧ (fun G _ f v u => v = none) G X f0 v u) (rk_B D (rk_tys cI c1 c2 c3 c4 c5) L A) A) ([.ref a0, .int s, .int x] : List Value).toArray st 0 0 A) rk_q_X12_spillsOne.2.2.1 0 0 H locs 74 [] [(0, .ref a0), (1, .int s), (2, .int x)] := by
        intro Y f H locs hh hY0 hY hT hLt
        refine rv_run hC.1 hC.2.1 (T := rv_t_X12_spillsOne) rv_k_X12_spillsOne 1 ?_
        exact t75 _ Y f H locs hh hY0 hY hT hLt
      refine rv_run hC.1 hC.2.1 (T := rv_t_X12_spillsOne) rv_k_X12_spillsOne 3 ?_
      refine ⟨fun _ => t74 0 f H locs hh (by decide) (by decide) (by rw [Int.add_zero]; exact hT) hLt, fun _ => ?_⟩
      refine rv_run hC.1 hC.2.1 (T := rv_t_X12_spillsOne) rv_k_X12_spillsOne 80 ?_
      refine w_kI hC hh hT hG (by omega) (by omega) 152 (by decide +kernel) rfl (c_X12_does base l cI c1 c2 c3 c4 c5 D ad adV) (rk_all_c (rk_aM hG) (rk_all_c (rk_aI (by omega)) rk_all_0)) (rm_PI_of h1 hG hI) rfl rfl (Nat.le_of_ble_eq_true rfl) hcs (fun v f H locs hh hT hL hA => ?_)
      have hLt := rm_lv_tr (k := 3) hLt hL rfl rfl
      obtain ⟨z, rfl, -⟩ := rk_alt_v1 hA
      refine rv_run hC.1 hC.2.1 (T := rv_t_X12_spillsOne) rv_k_X12_spillsOne 1 ?_
      refine ⟨fun _ => t74 2 f H locs hh (by decide) (by decide) hT hLt, fun _ => ?_⟩
      refine rv_run hC.1 hC.2.1 (T := rv_t_X12_spillsOne) rv_k_X12_spillsOne 2 ?_
      exact t75 _ 2 f H locs hh (by decide) (by decide) hT hLt
    · have t47 : ∀ (f : Nat → va_E) (H : Heap) (locs : List Loc), rm_h D A st L f H locs → rm_TY cI c1 c2 c3 c4 c5 ad G X L f → rm_Lv G 3 f0 f → rv_G p l e { frames := rk_q_X12_spillsOne.2.2.2.2.1, cells := 0, slots := 0, locals := rk_q_X12_spillsOne.2.2.2.2.2 } st m ([.ref a0, .int s, .int x] : List Value).toArray below meth c (MQ below (rk_Q (fun v u => rm_TY cI c1 c2 c3 c4 c5 ad G (X + 3) L u ∧ rm_Lv G 3 f0 u ∧ (fun G _ f v u => v = none) G X f0 v u) (rk_B D (rk_tys cI c1 c2 c3 c4 c5) L A) A) ([.ref a0, .int s, .int x] : List Value).toArray st 0 0 A) rk_q_X12_spillsOne.2.2.1 0 0 H locs 47 [] [(0, .ref a0), (1, .int s), (2, .int x)] := by
        intro f H locs hh hT hLt
        have b24 := rm_scC hT hG (s := sn) (w := 24) hs40 (by decide) rfl
        have e10 : (rm_now G f a0 (64 * sn + 24) + Int32.ofInt 1).toInt = rm_sc (rm_now G f a0) sn 24 + 1 := rk_add_e (y := Int32.ofInt 1) (by show _ ≤ rm_sc (rm_now G f a0) sn 24 + 1; omega) (by show rm_sc (rm_now G f a0) sn 24 + 1 ≤ _; omega)
        refine rv_run hC.1 hC.2.1 (T := rv_t_X12_spillsOne) rv_k_X12_spillsOne 80 ?_
        refine w_more hC hh hT hG (by omega) 1 (by decide) (by omega) 1 46 (by decide +kernel) rfl rfl hs hs40 24 (by decide) (by decide) rfl (show rk_has G (X + 1) (1, 0, 0) _ from ⟨_, rfl, by rw [e10]; omega, by rw [e10]; omega⟩) (Nat.le_of_ble_eq_true rfl) hcs (fun f H locs hh hT hL hP => ?_)
        refine rm_vret hC hh (by decide +kernel) rfl ⟨rk_TY_X (by omega) hT, rm_lv_tr (k := 3) hLt hL rfl rfl, rfl⟩
      refine rv_run hC.1 hC.2.1 (T := rv_t_X12_spillsOne) rv_k_X12_spillsOne 80 ?_
      refine w_at hC hh hT hG (by omega) (by omega) 36 (by decide +kernel) rfl rfl hs hs40 24 (by decide) (by decide) (Nat.le_of_ble_eq_true rfl) hcs (fun n H locs hh hn => ?_)
      have b24 := rm_scC hT hG (s := sn) (w := 24) hs40 (by decide) rfl
      have hn1 : n.toInt = rm_sc (rm_now G f a0) sn 24 := by rw [hn]; rfl
      refine rv_run hC.1 hC.2.1 (T := rv_t_X12_spillsOne) rv_k_X12_spillsOne 2 ?_
      refine ⟨fun _ => t47 f H locs hh hT hLt, fun h => ?_⟩
      have h : n.toInt < 6 := h
      refine rv_run hC.1 hC.2.1 (T := rv_t_X12_spillsOne) rv_k_X12_spillsOne 80 ?_
      refine w_at hC hh hT hG (by omega) (by omega) 36 (by decide +kernel) rfl rfl hs hs40 24 (by decide) (by decide) (Nat.le_of_ble_eq_true rfl) hcs (fun k H locs hh hk => ?_)
      have hk1 : k.toInt = n.toInt := by rw [hk, hn]
      obtain ⟨nn, hnn⟩ : ∃ j : Nat, k.toInt = (j : Int) := ⟨k.toInt.toNat, by omega⟩
      have e10 := rm_ad (x := (Int8.ofInt 58).toInt32) (a := 58) rfl hnn (by omega) (by omega)
      obtain ⟨q1, q2⟩ := rm_mS_b (58 + nn) (by omega) (by omega)
      refine rv_run hC.1 hC.2.1 (T := rv_t_X12_spillsOne) rv_k_X12_spillsOne 80 ?_
      refine w_puts hC hh hT hG (by omega) (by omega) 1 42 (by decide +kernel) rfl rfl hs hs40 (58 + nn) (by rw [e10]; omega) (by omega) (by rw [q2]; rfl) (rm_hI q1 hx.1 hx.2) (Nat.le_of_ble_eq_true rfl) hcs (fun f H locs hh hT hL hP => ?_)
      exact t47 f H locs hh hT (rm_lv_tr (k := 3) hLt hL rfl rfl)
  · refine rm_vret hC hh (by decide +kernel) rfl ⟨rk_TY_X (by omega) hT, rm_lv_rf 3, rfl⟩
end RMX
