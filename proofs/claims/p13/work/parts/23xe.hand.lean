theorem rm_ior {base : Nat} {tys : List (ClassId × FieldType)} {D : va_G} {NU : State → Prop} {M : rk_Mt} {mt : Nat → rk_Mt} {ml : rk_Ml} {fl : rk_Fl} {A : Nat → Prop} {L : List Nat} {p : Program} {l : Launch} {e : Env} {R : Room} {s : State} {m : MethodId} {args : Array Value} {below : List Frame} {meth : Method} {c : Code} {Q : State → Prop} {cells slots : Nat} {H : Heap} {locs : List Loc} (hC : rm_Cx base tys D NU M mt ml fl p R s m args meth c A L) {pc : Nat} (hdg : decode M.2.1 pc = .ok (.ior, 1)) {x y : Int32} {rest : List Value} {lo : List (Nat × Value)} (kk : rv_G p l e R s m args below meth c Q M.2.2.1 cells slots H locs (pc + 1) (.int (x ||| y) :: rest) lo) : rv_G p l e R s m args below meth c Q M.2.2.1 cells slots H locs pc (.int y :: .int x :: rest) lo := by
  intro ls hl
  exact rk_arW hC.1 hC.2.1 hdg rfl (kk ls hl)
theorem rv_take {p : Program} {l : Launch} {e : Env} {R : Room} {s : State} {m : MethodId} {args : Array Value} {below : List Frame} {meth : Method} {c : Code} {Q : State → Prop} {nL cells slots : Nat} {H : Heap} {locs : List Loc} {pc : Nat} {sk : List Value} {lo : List (Nat × Value)} (n : Nat) (h : rv_G p l e R s m args below meth c Q nL cells slots H locs pc sk (lo.take n)) : rv_G p l e R s m args below meth c Q nL cells slots H locs pc sk lo := fun ls hl => h ls ⟨hl.1, hl.2.1, fun q hq => hl.2.2 q (List.mem_of_mem_take hq)⟩
/-- the sets of ports that a text may name -/
theorem rm_ports : ∀ q, q < 128 → ∀ p, p < 8 → 1 ≤ p → 0 ≤ (Int32.ofNat (2 * q) ||| (Int32.ofInt 1 <<< (Int32.ofNat p &&& 31))).toInt ∧ (Int32.ofNat (2 * q) ||| (Int32.ofInt 1 <<< (Int32.ofNat p &&& 31))).toInt ≤ 254 ∧ (Int32.ofNat (2 * q) ||| (Int32.ofInt 1 <<< (Int32.ofNat p &&& 31))).toInt % 2 = 0 := by decide +kernel
def rm_even (x : Int32) : Prop := 0 ≤ x.toInt ∧ x.toInt ≤ 254 ∧ x.toInt % 2 = 0
theorem rm_even_or {x p : Int32} (hx : rm_even x) (hp : 1 ≤ p.toInt ∧ p.toInt ≤ 7) : rm_even (x ||| (Int32.ofInt 1 <<< (p &&& 31))) := by
  obtain ⟨h1, h2, h3⟩ := hx
  obtain ⟨q, hq⟩ : ∃ q : Nat, x.toInt = ((2 * q : Nat) : Int) := ⟨(x.toInt / 2).toNat, by omega⟩
  obtain ⟨n, hn⟩ : ∃ n : Nat, p.toInt = (n : Int) := ⟨p.toInt.toNat, by omega⟩
  have e1 : x = Int32.ofNat (2 * q) := by
    rw [← Int32.ofInt_toInt x, hq]
    rfl
  have e2 : p = Int32.ofNat n := by
    rw [← Int32.ofInt_toInt p, hn]
    rfl
  rw [e1, e2]
  exact rm_ports q (by omega) n (by omega) (by omega)
def rv_t_X12_readTable : rv_T := (.branch 0 (.branch 0 (.branch 0 (.branch 0 (.branch 0 (.branch 0 (.leaf (0, .aload_n 0, 1)) (.leaf (160, .iload 5, 2))) (.branch 0 (.branch 0 (.branch 0 (.leaf (16, .istore_n 2, 1)) (.leaf (144, .aload_n 0, 1))) (.leaf (99999, .nop, 1))) (.leaf (48, .pop, 1)))) (.branch 0 (.branch 0 (.branch 0 (.leaf (8, .invokevirtual 264, 3)) (.branch 0 (.leaf (72, .goto (4), 3)) (.leaf (200, .iload 5, 2)))) (.leaf (168, .if_icmp .ne (10), 3))) (.branch 0 (.leaf (99999, .nop, 1)) (.branch 0 (.leaf (184, .ior, 1)) (.leaf (120, .iload 5, 2)))))) (.branch 0 (.branch 0 (.branch 0 (.leaf (68, .ifCond .eq (7), 3)) (.branch 0 (.branch 0 (.leaf (36, .invokevirtual 169, 3)) (.leaf (164, .ishr, 1))) (.leaf (100, .aload_n 0, 1)))) (.branch 0 (.branch 0 (.branch 0 (.leaf (20, .bipush (95), 2)) (.leaf (148, .invokevirtual 279, 3))) (.leaf (99999, .nop, 1))) (.leaf (180, .iconst 1, 1)))) (.branch 0 (.branch 0 (.branch 0 (.branch 0 (.leaf (12, .aload_n 0, 1)) (.leaf (140, .getfield 236, 3))) (.branch 0 (.leaf (76, .istore 4, 2)) (.leaf (204, .invokevirtual 123, 3)))) (.branch 0 (.branch 0 (.leaf (44, .iload_n 2, 1)) (.leaf (172, .iconst 4, 1))) (.leaf (99999, .nop, 1)))) (.leaf (99999, .nop, 1))))) (.branch 0 (.branch 0 (.branch 0 (.branch 0 (.branch 0 (.leaf (2, .iconst 3, 1)) (.leaf (194, .ifCond .ne (13), 3))) (.branch 0 (.branch 0 (.leaf (34, .iload_n 1, 1)) (.leaf (162, .iload 6, 2))) (.leaf (99999, .nop, 1)))) (.branch 0 (.branch 0 (.branch 0 (.leaf (18, .bipush (32), 2)) (.leaf (146, .bipush (7), 2))) (.leaf (82, .ifCond .ne (28), 3))) (.branch 0 (.branch 0 (.leaf (50, .invokevirtual 264, 3)) (.leaf (178, .iload 5, 2))) (.leaf (114, .getfield 245, 3))))) (.branch 0 (.branch 0 (.branch 0 (.leaf (138, .pop, 1)) (.leaf (202, .iload 4, 2))) (.branch 0 (.leaf (42, .aload_n 0, 1)) (.leaf (106, .invokevirtual 270, 3)))) (.branch 0 (.branch 0 (.branch 0 (.leaf (26, .aload_n 0, 1)) (.leaf (154, .getfield 245, 3))) (.leaf (90, .aload_n 0, 1))) (.branch 0 (.leaf (58, .ifCond .ne (17), 3)) (.leaf (122, .ifCond .eq (12), 3)))))) (.branch 0 (.branch 0 (.branch 0 (.branch 0 (.branch 0 (.leaf (6, .istore_n 1, 1)) (.leaf (134, .aload_n 0, 1))) (.leaf (198, .iload_n 1, 1))) (.branch 0 (.leaf (166, .iand, 1)) (.leaf (102, .aload_n 0, 1)))) (.branch 0 (.leaf (22, .invokevirtual 279, 3)) (.leaf (54, .aload_n 0, 1)))) (.branch 0 (.branch 0 (.leaf (78, .aload_n 0, 1)) (.branch 0 (.leaf (174, .invokevirtual 270, 3)) (.leaf (110, .iconst 0, 1)))) (.branch 0 (.branch 0 (.leaf (30, .ifCond .ne (19), 3)) (.leaf (94, .invokevirtual 275, 3))) (.branch 0 (.branch 0 (.leaf (62, .ldc_w 288, 3)) (.leaf (190, .aload_n 0, 1))) (.leaf (126, .invokevirtual 264, 3)))))))) (.branch 0 (.branch 0 (.branch 0 (.branch 0 (.branch 0 (.branch 0 (.branch 0 (.leaf (1, .iconst 0, 1)) (.leaf (129, .bipush (59), 2))) (.leaf (65, .invokevirtual 275, 3))) (.branch 0 (.leaf (33, .aload_n 0, 1)) (.leaf (97, .ifCond .ne (13), 3)))) (.branch 0 (.branch 0 (.branch 0 (.leaf (17, .aload_n 0, 1)) (.leaf (145, .iconst 1, 1))) (.leaf (99999, .nop, 1))) (.branch 0 (.branch 0 (.leaf (49, .aload_n 0, 1)) (.leaf (177, .pop, 1))) (.leaf (113, .aload_n 0, 1))))) (.branch 0 (.leaf (99999, .nop, 1)) (.branch 0 (.branch 0 (.branch 0 (.leaf (25, .istore_n 3, 1)) (.leaf (153, .aload_n 0, 1))) (.leaf (99999, .nop, 1))) (.leaf (185, .istore 5, 2))))) (.branch 0 (.branch 0 (.branch 0 (.leaf (197, .aload_n 0, 1)) (.branch 0 (.leaf (165, .iconst 1, 1)) (.leaf (101, .iconst 1, 1)))) (.branch 0 (.leaf (85, .iload 4, 2)) (.branch 0 (.branch 0 (.leaf (53, .pop, 1)) (.leaf (181, .iload 6, 2))) (.leaf (117, .ifCond .ne (73), 3))))) (.branch 0 (.branch 0 (.leaf (13, .getfield 236, 3)) (.branch 0 (.branch 0 (.leaf (45, .invokevirtual 270, 3)) (.leaf (173, .iload_n 2, 1))) (.leaf (109, .pop, 1)))) (.branch 0 (.leaf (157, .ifCond .ne (21), 3)) (.branch 0 (.leaf (61, .aload_n 0, 1)) (.leaf (125, .aload_n 0, 1))))))) (.branch 0 (.branch 0 (.branch 0 (.branch 0 (.branch 0 (.branch 0 (.leaf (3, .invokevirtual 279, 3)) (.leaf (131, .if_icmp .eq (59), 3))) (.leaf (99999, .nop, 1))) (.leaf (35, .iload_n 3, 1))) (.leaf (99999, .nop, 1))) (.branch 0 (.branch 0 (.branch 0 (.branch 0 (.leaf (11, .pop, 1)) (.leaf (139, .aload_n 0, 1))) (.leaf (75, .iconst 0, 1))) (.branch 0 (.branch 0 (.leaf (43, .iconst 4, 1)) (.leaf (171, .aload_n 0, 1))) (.leaf (99999, .nop, 1)))) (.branch 0 (.branch 0 (.leaf (27, .getfield 245, 3)) (.leaf (91, .ldc_w 290, 3))) (.leaf (187, .goto (-74), 3))))) (.branch 0 (.branch 0 (.branch 0 (.branch 0 (.branch 0 (.leaf (7, .aload_n 0, 1)) (.leaf (135, .invokevirtual 264, 3))) (.branch 0 (.leaf (71, .iconst 1, 1)) (.leaf (199, .iload_n 3, 1)))) (.branch 0 (.branch 0 (.leaf (39, .ifCond .le (10), 3)) (.leaf (167, .iconst 1, 1))) (.leaf (103, .getfield 236, 3)))) (.branch 0 (.branch 0 (.leaf (151, .istore 6, 2)) (.leaf (87, .ifCond .ne (23), 3))) (.branch 0 (.branch 0 (.leaf (55, .getfield 245, 3)) (.leaf (183, .ishl, 1))) (.leaf (99999, .nop, 1))))) (.branch 0 (.branch 0 (.branch 0 (.leaf (143, .istore_n 2, 1)) (.branch 0 (.leaf (79, .getfield 245, 3)) (.leaf (207, .return_, 1)))) (.leaf (111, .istore 5, 2))) (.leaf (191, .getfield 245, 3)))))))
theorem rv_k_X12_readTable : rv_tok cX12_readTable rv_t_X12_readTable = true := by decide +kernel
section RMX
variable (base : Nat) (l : Launch) (cI c1 c2 c3 c4 c5 : ClassId) (D : va_G) (ad adV : Nat → Nat)
theorem h_readTable (a0 : Nat) : rm_Hm base l cI c1 c2 c3 c4 c5 D ad adV rk_q_X12_readTable [.ref a0] (fun G _ f => G a0 = some 12) (fun G _ f v u => v = none) 0 1 := by
  unfold rm_Hm
  refine rm_start (M := rk_q_X12_readTable) (rk_hNw base ad adV) (rk_hNc base ad adV) (by decide +kernel) (mt := rk_mt [rk_q_X12_behindBlanks, rk_q_X12_errs, rk_q_X12_number, rk_q_X12_tableAt, rk_q_X12_tables, rk_q_X12_takesWord]) (ml := rk_mlf [(264, 0, 1, 12), (270, 1, 3, 12), (279, 2, 3, 12), (169, 3, 3, 12), (123, 4, 5, 12), (275, 5, 2, 12)]) (fl := rk_flf rk_ftX12) (fun s args h hN => rk_MlOk_of (List.forall_mem_cons.mpr ⟨rk_mck_ok (fun w hw => List.mem_cons_of_mem _ hw) h hN rk_cm_X12_behindBlanks rk_lk_X12_264, List.forall_mem_cons.mpr ⟨rk_mck_ok (fun w hw => List.mem_cons_of_mem _ hw) h hN rk_cm_X12_errs rk_lk_X12_270, List.forall_mem_cons.mpr ⟨rk_mck_ok (fun w hw => List.mem_cons_of_mem _ hw) h hN rk_cm_X12_number rk_lk_X12_279, List.forall_mem_cons.mpr ⟨rk_mck_ok (fun w hw => List.mem_cons_of_mem _ hw) h hN rk_cm_X12_tableAt rk_lk_X12_169, List.forall_mem_cons.mpr ⟨rk_mck_ok (fun w hw => List.mem_cons_of_mem _ hw) h hN rk_cm_X12_tables rk_lk_X12_123, List.forall_mem_cons.mpr ⟨rk_mck_ok (fun w hw => List.mem_cons_of_mem _ hw) h hN rk_cm_X12_takesWord rk_lk_X12_275, fun _ h => absurd h List.not_mem_nil⟩⟩⟩⟩⟩⟩) (by decide +kernel)) (fun s args h hN => rk_flX12 (fun w hw => List.mem_cons_of_mem _ hw) h hN) (rm_cat1 rfl) (Nat.le_of_ble_eq_true rfl) ?_
  intro p e st m below meth c G X L f0 A hC hh hX0 hXC hT hpre
  have hcs : 0 ≤ 0 ∧ 0 ≤ 0 := ⟨Nat.le_refl 0, Nat.le_refl 0⟩
  have hG : G a0 = some 12 := hpre
  have w1 : ∀ (f u : Nat → va_E), rm_TY cI c1 c2 c3 c4 c5 ad G X L u → rm_Lv G 1 f u → rm_fi f a0 9 = 1 → rm_fi u a0 9 = 1 := by
    intro f u hT hL h9
    have b9 := rm_fiT hT hG (i := 9) rfl
    have s9 := rm_sp hL hG
    omega
  refine rv_run hC.1 hC.2.1 (T := rv_t_X12_readTable) rv_k_X12_readTable 80 ?_
  refine w_h hC hh hT hG (by omega) (by omega) 279 (by decide +kernel) rfl (h_number base l cI c1 c2 c3 c4 c5 D ad adV a0 _ _ ⟨by decide, by decide⟩) hG rfl rfl (Nat.le_of_ble_eq_true rfl) hcs (fun v f H locs hh hT hL hP => ?_)
  rw [Int.add_zero] at hT
  obtain ⟨r, rfl, hr1, hr2, -⟩ := hP
  have hr2 : r.toInt ≤ 3 := hr2
  have hLt := hL
  refine rv_run hC.1 hC.2.1 (T := rv_t_X12_readTable) rv_k_X12_readTable 80 ?_
  refine w_h hC hh hT hG (by omega) (by omega) 264 (by decide +kernel) rfl (h_behindBlanks base l cI c1 c2 c3 c4 c5 D ad adV a0) hG rfl rfl (Nat.le_of_ble_eq_true rfl) hcs (fun v f H locs hh hT hL hP => ?_)
  rw [Int.add_zero] at hT
  obtain ⟨y, rfl, -⟩ := hP
  have hLt := rm_lv_tr (k := 1) hLt hL rfl rfl
  refine rv_run hC.1 hC.2.1 (T := rv_t_X12_readTable) rv_k_X12_readTable 80 ?_
  refine w_gf hC hh hT hG (by omega) 236 (by decide +kernel) rfl rfl (fun q hq hq2 => ?_)
  refine rv_run hC.1 hC.2.1 (T := rv_t_X12_readTable) rv_k_X12_readTable 80 ?_
  refine w_h hC hh hT hG (by omega) (by omega) 279 (by decide +kernel) rfl (h_number base l cI c1 c2 c3 c4 c5 D ad adV a0 _ _ ⟨by decide, by decide⟩) hG rfl rfl (Nat.le_of_ble_eq_true rfl) hcs (fun v f H locs hh hT hL hP => ?_)
  rw [Int.add_zero] at hT
  obtain ⟨a, rfl, ha1, ha2, ha3⟩ := hP
  have ha2 : a.toInt ≤ 95 := ha2
  have hLt := rm_lv_tr (k := 1) hLt hL rfl rfl
  have ha : rm_fi f a0 9 = 1 ∨ 32 ≤ a.toInt := by
    rcases ha3 with h | h
    · exact Or.inl h
    · exact Or.inr h.1
  have t190 : ∀ (q g o : Int32) (f : Nat → va_E) (H : Heap) (locs : List Loc), (0 ≤ g.toInt ∧ g.toInt ≤ 1) → rm_h D A st L f H locs → rm_TY cI c1 c2 c3 c4 c5 ad G X L f → rm_Lv G 1 f0 f → (rm_fi f a0 9 = 1 ∨ 32 ≤ a.toInt) → (rm_fi f a0 9 = 1 ∨ rm_even o) → rv_G p l e { frames := rk_q_X12_readTable.2.2.2.2.1, cells := 0, slots := 0, locals := rk_q_X12_readTable.2.2.2.2.2 } st m ([.ref a0] : List Value).toArray below meth c (MQ below (rk_Q (fun v u => rm_TY cI c1 c2 c3 c4 c5 ad G (X + 0) L u ∧ rm_Lv G 1 f0 u ∧ (fun G _ f v u => v = none) G X f0 v u) (rk_B D (rk_tys cI c1 c2 c3 c4 c5) L A) A) ([.ref a0] : List Value).toArray st 0 0 A) rk_q_X12_readTable.2.2.1 0 0 H locs 190 [] [(0, .ref a0), (1, .int r), (2, .int q), (3, .int a), (4, .int g), (5, .int o)] := by
    intro q g o f H locs hg hh hT hLt ha ho
    refine rv_run hC.1 hC.2.1 (T := rv_t_X12_readTable) rv_k_X12_readTable 80 ?_
    refine w_gf hC hh hT hG (by omega) 245 (by decide +kernel) rfl rfl (fun x hx hx2 => ?_)
    refine rv_run hC.1 hC.2.1 (T := rv_t_X12_readTable) rv_k_X12_readTable 1 ?_
    refine ⟨fun _ => ?_, fun h => ?_⟩
    · refine rm_vret hC hh (by decide +kernel) rfl ⟨by rw [Int.add_zero]; exact hT, hLt, rfl⟩
    · have h : x.toInt = 0 := h
      have ha := ha.resolve_left (by omega)
      obtain ⟨o1, o2, -⟩ := ho.resolve_left (by omega)
      refine rv_run hC.1 hC.2.1 (T := rv_t_X12_readTable) rv_k_X12_readTable 80 ?_
      refine w_kv hC hh hT hG (by omega) (by omega) 123 (by decide +kernel) rfl (c_X12_tables base l cI c1 c2 c3 c4 c5 D ad adV) (rk_all_c (rk_aM hG) (rk_all_c (rk_aI ⟨hr1, hr2⟩) (rk_all_c (rk_aI ⟨ha, ha2⟩) (rk_all_c (rk_aI ⟨o1, o2⟩) (rk_all_c (rk_aI hg) rk_all_0))))) rfl rfl (Nat.le_of_ble_eq_true rfl) hcs (fun f H locs hh hT hL => ?_)
      rw [Int.add_zero] at hT
      refine rm_vret hC hh (by decide +kernel) rfl ⟨by rw [Int.add_zero]; exact hT, rm_lv_tr (k := 1) hLt hL rfl rfl, rfl⟩
  have tW : ∀ (q g o : Int32) (f : Nat → va_E) (H : Heap) (locs : List Loc), (0 ≤ g.toInt ∧ g.toInt ≤ 1) → rm_h D A st L f H locs → rm_TY cI c1 c2 c3 c4 c5 ad G X L f → rm_Lv G 1 f0 f → rm_fi f a0 9 = 1 → rv_G p l e { frames := rk_q_X12_readTable.2.2.2.2.1, cells := 0, slots := 0, locals := rk_q_X12_readTable.2.2.2.2.2 } st m ([.ref a0] : List Value).toArray below meth c (MQ below (rk_Q (fun v u => rm_TY cI c1 c2 c3 c4 c5 ad G (X + 0) L u ∧ rm_Lv G 1 f0 u ∧ (fun G _ f v u => v = none) G X f0 v u) (rk_B D (rk_tys cI c1 c2 c3 c4 c5) L A) A) ([.ref a0] : List Value).toArray st 0 0 A) rk_q_X12_readTable.2.2.1 0 0 H locs 113 [] [(0, .ref a0), (1, .int r), (2, .int q), (3, .int a), (4, .int g), (5, .int o)] := by
    intro q g o f H locs hg hh hT hLt h9
    refine rv_run hC.1 hC.2.1 (T := rv_t_X12_readTable) rv_k_X12_readTable 80 ?_
    refine w_gf hC hh hT hG (by omega) 245 (by decide +kernel) rfl rfl (fun x hx hx2 => ?_)
    refine rv_run hC.1 hC.2.1 (T := rv_t_X12_readTable) rv_k_X12_readTable 1 ?_
    refine ⟨fun _ => t190 q g o f H locs hg hh hT hLt (Or.inl h9) (Or.inl h9), fun h => ?_⟩
    have h : x.toInt = 0 := h
    omega
  have step : ∀ d : Int, (∀ (q g o : Int32) (f : Nat → va_E) (H : Heap) (locs : List Loc), (0 ≤ g.toInt ∧ g.toInt ≤ 1) → rm_h D A st L f H locs → rm_TY cI c1 c2 c3 c4 c5 ad G X L f → rm_Lv G 1 f0 f → (rm_fi f a0 9 = 1 ∨ 32 ≤ a.toInt) → rm_even o → rm_fi f a0 7 ≤ rm_fi f a0 8 → rm_fi f a0 8 - rm_fi f a0 7 < d → rv_G p l e { frames := rk_q_X12_readTable.2.2.2.2.1, cells := 0, slots := 0, locals := rk_q_X12_readTable.2.2.2.2.2 } st m ([.ref a0] : List Value).toArray below meth c (MQ below (rk_Q (fun v u => rm_TY cI c1 c2 c3 c4 c5 ad G (X + 0) L u ∧ rm_Lv G 1 f0 u ∧ (fun G _ f v u => v = none) G X f0 v u) (rk_B D (rk_tys cI c1 c2 c3 c4 c5) L A) A) ([.ref a0] : List Value).toArray st 0 0 A) rk_q_X12_readTable.2.2.1 0 0 H locs 113 [] [(0, .ref a0), (1, .int r), (2, .int q), (3, .int a), (4, .int g), (5, .int o)]) → ∀ (q g o : Int32) (f : Nat → va_E) (H : Heap) (locs : List Loc), (0 ≤ g.toInt ∧ g.toInt ≤ 1) → rm_h D A st L f H locs → rm_TY cI c1 c2 c3 c4 c5 ad G X L f → rm_Lv G 1 f0 f → (rm_fi f a0 9 = 1 ∨ 32 ≤ a.toInt) → rm_even o → rm_fi f a0 8 - rm_fi f a0 7 ≤ d → rv_G p l e { frames := rk_q_X12_readTable.2.2.2.2.1, cells := 0, slots := 0, locals := rk_q_X12_readTable.2.2.2.2.2 } st m ([.ref a0] : List Value).toArray below meth c (MQ below (rk_Q (fun v u => rm_TY cI c1 c2 c3 c4 c5 ad G (X + 0) L u ∧ rm_Lv G 1 f0 u ∧ (fun G _ f v u => v = none) G X f0 v u) (rk_B D (rk_tys cI c1 c2 c3 c4 c5) L A) A) ([.ref a0] : List Value).toArray st 0 0 A) rk_q_X12_readTable.2.2.1 0 0 H locs 113 [] [(0, .ref a0), (1, .int r), (2, .int q), (3, .int a), (4, .int g), (5, .int o)] := by
    intro d hd q g o f H locs hg hh hT hLt ha ho hm
    have t134 : ∀ (f : Nat → va_E) (H : Heap) (locs : List Loc), rm_h D A st L f H locs → rm_TY cI c1 c2 c3 c4 c5 ad G X L f → rm_Lv G 1 f0 f → (rm_fi f a0 9 = 1 ∨ 32 ≤ a.toInt) → rm_fi f a0 8 - rm_fi f a0 7 ≤ d → rv_G p l e { frames := rk_q_X12_readTable.2.2.2.2.1, cells := 0, slots := 0, locals := rk_q_X12_readTable.2.2.2.2.2 } st m ([.ref a0] : List Value).toArray below meth c (MQ below (rk_Q (fun v u => rm_TY cI c1 c2 c3 c4 c5 ad G (X + 0) L u ∧ rm_Lv G 1 f0 u ∧ (fun G _ f v u => v = none) G X f0 v u) (rk_B D (rk_tys cI c1 c2 c3 c4 c5) L A) A) ([.ref a0] : List Value).toArray st 0 0 A) rk_q_X12_readTable.2.2.1 0 0 H locs 134 [] [(0, .ref a0), (1, .int r), (2, .int q), (3, .int a), (4, .int g), (5, .int o)] := by
      intro f H locs hh hT hLt ha hm
      refine rv_run hC.1 hC.2.1 (T := rv_t_X12_readTable) rv_k_X12_readTable 80 ?_
      refine w_h hC hh hT hG (by omega) (by omega) 264 (by decide +kernel) rfl (h_behindBlanks base l cI c1 c2 c3 c4 c5 D ad adV a0) hG rfl rfl (Nat.le_of_ble_eq_true rfl) hcs (fun v f1 H locs hh hT hL hP => ?_)
      rw [Int.add_zero] at hT
      obtain ⟨y, rfl, -⟩ := hP
      have s1 := rm_sp hL hG
      have ha := ha.imp_left (w1 f f1 hT hL)
      have hLt := rm_lv_tr (k := 1) hLt hL rfl rfl
      refine rv_run hC.1 hC.2.1 (T := rv_t_X12_readTable) rv_k_X12_readTable 80 ?_
      refine w_gf hC hh hT hG (by omega) 236 (by decide +kernel) rfl rfl (fun q hq hq2 => ?_)
      refine rv_run hC.1 hC.2.1 (T := rv_t_X12_readTable) rv_k_X12_readTable 80 ?_
      refine w_h hC hh hT hG (by omega) (by omega) 279 (by decide +kernel) rfl (h_number base l cI c1 c2 c3 c4 c5 D ad adV a0 _ _ ⟨by decide, by decide⟩) hG rfl rfl (Nat.le_of_ble_eq_true rfl) hcs (fun v f2 H locs hh hT hL hP => ?_)
      rw [Int.add_zero] at hT
      obtain ⟨p9, rfl, hp1, hp2, hp3⟩ := hP
      have hp2 : p9.toInt ≤ 7 := hp2
      have hp3 : rm_fi f2 a0 9 = 1 ∨ (1 ≤ p9.toInt ∧ rm_fi f1 a0 7 < rm_fi f2 a0 7 ∧ rm_fi f2 a0 7 ≤ rm_fi f2 a0 8) := hp3
      have s2 := rm_sp hL hG
      have ha := ha.imp_left (w1 f1 f2 hT hL)
      have hLt := rm_lv_tr (k := 1) hLt hL rfl rfl
      have t178 : ∀ (u : Nat → va_E) (H : Heap) (locs : List Loc), rm_h D A st L u H locs → rm_TY cI c1 c2 c3 c4 c5 ad G X L u → rm_Lv G 1 f2 u → (rm_fi u a0 9 = 1 ∨ rm_fi u a0 7 = rm_fi f2 a0 7) → rv_G p l e { frames := rk_q_X12_readTable.2.2.2.2.1, cells := 0, slots := 0, locals := rk_q_X12_readTable.2.2.2.2.2 } st m ([.ref a0] : List Value).toArray below meth c (MQ below (rk_Q (fun v u => rm_TY cI c1 c2 c3 c4 c5 ad G (X + 0) L u ∧ rm_Lv G 1 f0 u ∧ (fun G _ f v u => v = none) G X f0 v u) (rk_B D (rk_tys cI c1 c2 c3 c4 c5) L A) A) ([.ref a0] : List Value).toArray st 0 0 A) rk_q_X12_readTable.2.2.1 0 0 H locs 178 [] [(0, .ref a0), (1, .int r), (2, .int q), (3, .int a), (4, .int g), (5, .int o), (6, .int p9)] := by
        intro u H locs hh hT hL h79
        have s3 := rm_sp hL hG
        have b9 := rm_fiT hT hG (i := 9) rfl
        have ha := ha.imp_left (w1 f2 u hT hL)
        have hLt := rm_lv_tr (k := 1) hLt hL rfl rfl
        refine rv_run hC.1 hC.2.1 (T := rv_t_X12_readTable) rv_k_X12_readTable 4 ?_
        refine rm_ior hC (by decide +kernel) ?_
        refine rv_run hC.1 hC.2.1 (T := rv_t_X12_readTable) rv_k_X12_readTable 2 ?_
        refine rv_take 6 ?_
        by_cases h9 : rm_fi u a0 9 = 1
        · exact tW q g _ u H locs hg hh hT hLt h9
        · obtain ⟨g1, g2, g3⟩ := hp3.resolve_left (by omega)
          exact hd q g _ u H locs hg hh hT hLt ha (rm_even_or ho ⟨g1, hp2⟩) (by omega) (by omega)
      refine rv_run hC.1 hC.2.1 (T := rv_t_X12_readTable) rv_k_X12_readTable 80 ?_
      refine w_gf hC hh hT hG (by omega) 245 (by decide +kernel) rfl rfl (fun x hx hx2 => ?_)
      refine rv_run hC.1 hC.2.1 (T := rv_t_X12_readTable) rv_k_X12_readTable 1 ?_
      refine ⟨fun _ => t178 f2 H locs hh hT (rm_lv_rf 1) (Or.inr rfl), fun _ => ?_⟩
      refine rv_run hC.1 hC.2.1 (T := rv_t_X12_readTable) rv_k_X12_readTable 7 ?_
      refine ⟨fun _ => t178 f2 H locs hh hT (rm_lv_rf 1) (Or.inr rfl), fun _ => ?_⟩
      refine rv_run hC.1 hC.2.1 (T := rv_t_X12_readTable) rv_k_X12_readTable 80 ?_
      refine w_h hC hh hT hG (by omega) (by omega) 270 (by decide +kernel) rfl (h_errs base l cI c1 c2 c3 c4 c5 D ad adV a0 _ _) hG rfl rfl (Nat.le_of_ble_eq_true rfl) hcs (fun v f H locs hh hT hL hP => ?_)
      rw [Int.add_zero] at hT
      obtain ⟨⟨x9, rfl, -⟩, h99, -⟩ := hP
      refine rv_run hC.1 hC.2.1 (T := rv_t_X12_readTable) rv_k_X12_readTable 1 ?_
      exact t178 f H locs hh hT hL (Or.inl h99)
    refine rv_run hC.1 hC.2.1 (T := rv_t_X12_readTable) rv_k_X12_readTable 80 ?_
    refine w_gf hC hh hT hG (by omega) 245 (by decide +kernel) rfl rfl (fun x hx hx2 => ?_)
    refine rv_run hC.1 hC.2.1 (T := rv_t_X12_readTable) rv_k_X12_readTable 1 ?_
    refine ⟨fun _ => t190 q g o f H locs hg hh hT hLt ha (Or.inr ho), fun h => ?_⟩
    refine rv_run hC.1 hC.2.1 (T := rv_t_X12_readTable) rv_k_X12_readTable 2 ?_
    refine ⟨fun _ => t134 f H locs hh hT hLt ha hm, fun _ => ?_⟩
    refine rv_run hC.1 hC.2.1 (T := rv_t_X12_readTable) rv_k_X12_readTable 80 ?_
    refine w_h hC hh hT hG (by omega) (by omega) 264 (by decide +kernel) rfl (h_behindBlanks base l cI c1 c2 c3 c4 c5 D ad adV a0) hG rfl rfl (Nat.le_of_ble_eq_true rfl) hcs (fun v f1 H locs hh hT hL hP => ?_)
    rw [Int.add_zero] at hT
    obtain ⟨y, rfl, -⟩ := hP
    have s1 := rm_sp hL hG
    have ha := ha.imp_left (w1 f f1 hT hL)
    have hLt := rm_lv_tr (k := 1) hLt hL rfl rfl
    refine rv_run hC.1 hC.2.1 (T := rv_t_X12_readTable) rv_k_X12_readTable 2 ?_
    exact ⟨fun _ => t190 q g o f1 H locs hg hh hT hLt ha (Or.inr ho), fun _ => t134 f1 H locs hh hT hLt ha (by omega)⟩
  have loop : ∀ (d : Nat) (q g o : Int32) (f : Nat → va_E) (H : Heap) (locs : List Loc), (0 ≤ g.toInt ∧ g.toInt ≤ 1) → rm_h D A st L f H locs → rm_TY cI c1 c2 c3 c4 c5 ad G X L f → rm_Lv G 1 f0 f → (rm_fi f a0 9 = 1 ∨ 32 ≤ a.toInt) → rm_even o → rm_fi f a0 7 ≤ rm_fi f a0 8 → rm_fi f a0 8 - rm_fi f a0 7 < (d : Int) → rv_G p l e { frames := rk_q_X12_readTable.2.2.2.2.1, cells := 0, slots := 0, locals := rk_q_X12_readTable.2.2.2.2.2 } st m ([.ref a0] : List Value).toArray below meth c (MQ below (rk_Q (fun v u => rm_TY cI c1 c2 c3 c4 c5 ad G (X + 0) L u ∧ rm_Lv G 1 f0 u ∧ (fun G _ f v u => v = none) G X f0 v u) (rk_B D (rk_tys cI c1 c2 c3 c4 c5) L A) A) ([.ref a0] : List Value).toArray st 0 0 A) rk_q_X12_readTable.2.2.1 0 0 H locs 113 [] [(0, .ref a0), (1, .int r), (2, .int q), (3, .int a), (4, .int g), (5, .int o)] := by
    intro d
    induction d with
    | zero =>
      intro q g o f H locs hg hh hT hLt ha ho h1 h2
      omega
    | succ d ih =>
      intro q g o f H locs hg hh hT hLt ha ho h1 h2
      exact step d ih q g o f H locs hg hh hT hLt ha ho (by omega)
  have t110 : ∀ (q g : Int32) (f : Nat → va_E) (H : Heap) (locs : List Loc), (0 ≤ g.toInt ∧ g.toInt ≤ 1) → rm_h D A st L f H locs → rm_TY cI c1 c2 c3 c4 c5 ad G X L f → rm_Lv G 1 f0 f → (rm_fi f a0 9 = 1 ∨ 32 ≤ a.toInt) → rv_G p l e { frames := rk_q_X12_readTable.2.2.2.2.1, cells := 0, slots := 0, locals := rk_q_X12_readTable.2.2.2.2.2 } st m ([.ref a0] : List Value).toArray below meth c (MQ below (rk_Q (fun v u => rm_TY cI c1 c2 c3 c4 c5 ad G (X + 0) L u ∧ rm_Lv G 1 f0 u ∧ (fun G _ f v u => v = none) G X f0 v u) (rk_B D (rk_tys cI c1 c2 c3 c4 c5) L A) A) ([.ref a0] : List Value).toArray st 0 0 A) rk_q_X12_readTable.2.2.1 0 0 H locs 110 [] [(0, .ref a0), (1, .int r), (2, .int q), (3, .int a), (4, .int g)] := by
    intro q g f H locs hg hh hT hLt ha
    have b8 := rm_fiT hT hG (i := 8) rfl
    have b7 := rm_fiT hT hG (i := 7) rfl
    refine rv_run hC.1 hC.2.1 (T := rv_t_X12_readTable) rv_k_X12_readTable 2 ?_
    exact step 400 (loop 400) q g _ f H locs hg hh hT hLt ha ⟨by decide, by decide, by decide⟩ (by omega)
  have t76 : ∀ (q g : Int32) (f : Nat → va_E) (H : Heap) (locs : List Loc), (0 ≤ g.toInt ∧ g.toInt ≤ 1) → rm_h D A st L f H locs → rm_TY cI c1 c2 c3 c4 c5 ad G X L f → rm_Lv G 1 f0 f → (rm_fi f a0 9 = 1 ∨ 32 ≤ a.toInt) → rv_G p l e { frames := rk_q_X12_readTable.2.2.2.2.1, cells := 0, slots := 0, locals := rk_q_X12_readTable.2.2.2.2.2 } st m ([.ref a0] : List Value).toArray below meth c (MQ below (rk_Q (fun v u => rm_TY cI c1 c2 c3 c4 c5 ad G (X + 0) L u ∧ rm_Lv G 1 f0 u ∧ (fun G _ f v u => v = none) G X f0 v u) (rk_B D (rk_tys cI c1 c2 c3 c4 c5) L A) A) ([.ref a0] : List Value).toArray st 0 0 A) rk_q_X12_readTable.2.2.1 0 0 H locs 76 [.int g] [(0, .ref a0), (1, .int r), (2, .int q), (3, .int a)] := by
    intro q g f H locs hg hh hT hLt ha
    refine rv_run hC.1 hC.2.1 (T := rv_t_X12_readTable) rv_k_X12_readTable 80 ?_
    refine w_gf hC hh hT hG (by omega) 245 (by decide +kernel) rfl rfl (fun x hx hx2 => ?_)
    refine rv_run hC.1 hC.2.1 (T := rv_t_X12_readTable) rv_k_X12_readTable 1 ?_
    refine ⟨fun _ => t110 q g f H locs hg hh hT hLt ha, fun _ => ?_⟩
    refine rv_run hC.1 hC.2.1 (T := rv_t_X12_readTable) rv_k_X12_readTable 2 ?_
    refine ⟨fun _ => t110 q g f H locs hg hh hT hLt ha, fun _ => ?_⟩
    refine rv_run hC.1 hC.2.1 (T := rv_t_X12_readTable) rv_k_X12_readTable 80 ?_
    refine rj_ldcw (idx := 290) (i := 4) (tx := "stay") hC (by decide +kernel) (by decide) ?_
    refine w_h hC hh hT hG (by omega) (by omega) 275 (by decide +kernel) rfl (h_takesWord base l cI c1 c2 c3 c4 c5 D ad adV a0 4 (by decide)) hG rfl rfl (Nat.le_of_ble_eq_true rfl) hcs (fun v f1 H locs hh hT hL hP => ?_)
    rw [Int.add_zero] at hT
    obtain ⟨w, rfl, -⟩ := hP
    have ha := ha.imp_left (w1 f f1 hT hL)
    have hLt := rm_lv_tr (k := 1) hLt hL rfl rfl
    refine rv_run hC.1 hC.2.1 (T := rv_t_X12_readTable) rv_k_X12_readTable 1 ?_
    refine ⟨fun _ => t110 q g f1 H locs hg hh hT hLt ha, fun _ => ?_⟩
    refine rv_run hC.1 hC.2.1 (T := rv_t_X12_readTable) rv_k_X12_readTable 80 ?_
    refine w_gf hC hh hT hG (by omega) 236 (by decide +kernel) rfl rfl (fun z hz hz2 => ?_)
    refine w_h hC hh hT hG (by omega) (by omega) 270 (by decide +kernel) rfl (h_errs base l cI c1 c2 c3 c4 c5 D ad adV a0 _ _) hG rfl rfl (Nat.le_of_ble_eq_true rfl) hcs (fun v f H locs hh hT hL hP => ?_)
    rw [Int.add_zero] at hT
    obtain ⟨⟨x9, rfl, -⟩, h9, -⟩ := hP
    refine rv_run hC.1 hC.2.1 (T := rv_t_X12_readTable) rv_k_X12_readTable 1 ?_
    exact t110 q g f H locs hg hh hT (rm_lv_tr (k := 1) hLt hL rfl rfl) (Or.inl h9)
  have t49 : ∀ (q : Int32) (f : Nat → va_E) (H : Heap) (locs : List Loc), rm_h D A st L f H locs → rm_TY cI c1 c2 c3 c4 c5 ad G X L f → rm_Lv G 1 f0 f → (rm_fi f a0 9 = 1 ∨ 32 ≤ a.toInt) → rv_G p l e { frames := rk_q_X12_readTable.2.2.2.2.1, cells := 0, slots := 0, locals := rk_q_X12_readTable.2.2.2.2.2 } st m ([.ref a0] : List Value).toArray below meth c (MQ below (rk_Q (fun v u => rm_TY cI c1 c2 c3 c4 c5 ad G (X + 0) L u ∧ rm_Lv G 1 f0 u ∧ (fun G _ f v u => v = none) G X f0 v u) (rk_B D (rk_tys cI c1 c2 c3 c4 c5) L A) A) ([.ref a0] : List Value).toArray st 0 0 A) rk_q_X12_readTable.2.2.1 0 0 H locs 49 [] [(0, .ref a0), (1, .int r), (2, .int q), (3, .int a)] := by
    intro q f H locs hh hT hLt ha
    have t75 : ∀ (f : Nat → va_E) (H : Heap) (locs : List Loc), rm_h D A st L f H locs → rm_TY cI c1 c2 c3 c4 c5 ad G X L f → rm_Lv G 1 f0 f → (rm_fi f a0 9 = 1 ∨ 32 ≤ a.toInt) → rv_G p l e { frames := rk_q_X12_readTable.2.2.2.2.1, cells := 0, slots := 0, locals := rk_q_X12_readTable.2.2.2.2.2 } st m ([.ref a0] : List Value).toArray below meth c (MQ below (rk_Q (fun v u => rm_TY cI c1 c2 c3 c4 c5 ad G (X + 0) L u ∧ rm_Lv G 1 f0 u ∧ (fun G _ f v u => v = none) G X f0 v u) (rk_B D (rk_tys cI c1 c2 c3 c4 c5) L A) A) ([.ref a0] : List Value).toArray st 0 0 A) rk_q_X12_readTable.2.2.1 0 0 H locs 75 [] [(0, .ref a0), (1, .int r), (2, .int q), (3, .int a)] := by
      intro f H locs hh hT hLt ha
      refine rv_run hC.1 hC.2.1 (T := rv_t_X12_readTable) rv_k_X12_readTable 1 ?_
      exact t76 q _ f H locs (by decide) hh hT hLt ha
    refine rv_run hC.1 hC.2.1 (T := rv_t_X12_readTable) rv_k_X12_readTable 80 ?_
    refine w_h hC hh hT hG (by omega) (by omega) 264 (by decide +kernel) rfl (h_behindBlanks base l cI c1 c2 c3 c4 c5 D ad adV a0) hG rfl rfl (Nat.le_of_ble_eq_true rfl) hcs (fun v f1 H locs hh hT hL hP => ?_)
    rw [Int.add_zero] at hT
    obtain ⟨y, rfl, -⟩ := hP
    have ha := ha.imp_left (w1 f f1 hT hL)
    have hLt := rm_lv_tr (k := 1) hLt hL rfl rfl
    refine rv_run hC.1 hC.2.1 (T := rv_t_X12_readTable) rv_k_X12_readTable 80 ?_
    refine w_gf hC hh hT hG (by omega) 245 (by decide +kernel) rfl rfl (fun x hx hx2 => ?_)
    refine rv_run hC.1 hC.2.1 (T := rv_t_X12_readTable) rv_k_X12_readTable 1 ?_
    refine ⟨fun _ => t75 f1 H locs hh hT hLt ha, fun _ => ?_⟩
    refine rv_run hC.1 hC.2.1 (T := rv_t_X12_readTable) rv_k_X12_readTable 80 ?_
    refine rj_ldcw (idx := 288) (i := 3) (tx := "go") hC (by decide +kernel) (by decide) ?_
    refine w_h hC hh hT hG (by omega) (by omega) 275 (by decide +kernel) rfl (h_takesWord base l cI c1 c2 c3 c4 c5 D ad adV a0 3 (by decide)) hG rfl rfl (Nat.le_of_ble_eq_true rfl) hcs (fun v f2 H locs hh hT hL hP => ?_)
    rw [Int.add_zero] at hT
    obtain ⟨w, rfl, -⟩ := hP
    have ha := ha.imp_left (w1 f1 f2 hT hL)
    have hLt := rm_lv_tr (k := 1) hLt hL rfl rfl
    refine rv_run hC.1 hC.2.1 (T := rv_t_X12_readTable) rv_k_X12_readTable 1 ?_
    refine ⟨fun _ => t75 f2 H locs hh hT hLt ha, fun _ => ?_⟩
    refine rv_run hC.1 hC.2.1 (T := rv_t_X12_readTable) rv_k_X12_readTable 2 ?_
    exact t76 q _ f2 H locs (by decide) hh hT hLt ha
  refine rv_run hC.1 hC.2.1 (T := rv_t_X12_readTable) rv_k_X12_readTable 80 ?_
  refine w_gf hC hh hT hG (by omega) 245 (by decide +kernel) rfl rfl (fun x hx hx2 => ?_)
  refine rv_run hC.1 hC.2.1 (T := rv_t_X12_readTable) rv_k_X12_readTable 1 ?_
  refine ⟨fun _ => t49 q f H locs hh hT hLt ha, fun h => ?_⟩
  have h : x.toInt = 0 := h
  refine rv_run hC.1 hC.2.1 (T := rv_t_X12_readTable) rv_k_X12_readTable 80 ?_
  refine w_ki hC hh hT hG (by omega) (by omega) 169 (by decide +kernel) rfl (c_X12_tableAt base l cI c1 c2 c3 c4 c5 D ad adV) (rk_all_c (rk_aM hG) (rk_all_c (rk_aI ⟨hr1, hr2⟩) (rk_all_c (rk_aI ⟨ha.resolve_left (by omega), ha2⟩) rk_all_0))) rfl rfl (Nat.le_of_ble_eq_true rfl) hcs (fun z f H locs hh hT hL hz => ?_)
  rw [Int.add_zero] at hT
  have ha : rm_fi f a0 9 = 1 ∨ 32 ≤ a.toInt := ha.imp_left (w1 _ f hT (rm_lv_up hL rfl))
  have hLt := rm_lv_tr (k := 1) hLt hL rfl rfl
  refine rv_run hC.1 hC.2.1 (T := rv_t_X12_readTable) rv_k_X12_readTable 1 ?_
  refine ⟨fun _ => t49 q f H locs hh hT hLt ha, fun _ => ?_⟩
  refine rv_run hC.1 hC.2.1 (T := rv_t_X12_readTable) rv_k_X12_readTable 80 ?_
  refine w_h hC hh hT hG (by omega) (by omega) 270 (by decide +kernel) rfl (h_errs base l cI c1 c2 c3 c4 c5 D ad adV a0 _ _) hG rfl rfl (Nat.le_of_ble_eq_true rfl) hcs (fun v f H locs hh hT hL hP => ?_)
  rw [Int.add_zero] at hT
  obtain ⟨⟨x9, rfl, -⟩, h9, -⟩ := hP
  refine rv_run hC.1 hC.2.1 (T := rv_t_X12_readTable) rv_k_X12_readTable 1 ?_
  exact t49 q f H locs hh hT (rm_lv_tr (k := 1) hLt hL rfl rfl) (Or.inl h9)
end RMX
