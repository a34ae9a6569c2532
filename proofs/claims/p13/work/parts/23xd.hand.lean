section RJW
variable {p : Program} {l : Launch} {e : Env} {R : Room} {s : State} {m : MethodId} {args : Array Value} {below : List Frame} {meth : Method} {c : Code} {H : Heap} {locs : List Loc} {cells slots : Nat} {Q : State → Prop}
theorem rj_ldcwS {T : State} (X : Stand p l e R s m args below meth c T locs cells slots) (hexec : p.tables.exec = Jvm.exec) {own text : String} {index : Nat} {a : Addr} (hown : s.vm.findClass own = some m.cls)
    (hconst : (Cond.stringRef own index text).before args s = true) (hev : (Term.string own index).eval args s none [] s = some (.ref a)) {g : JFrame} (hg : g.method = m) (hdg : decode c.code g.pc = .ok (.ldc_w index, 3)) :
    ∀ target, Steps p.tables e below (T.setTop { g with pc := g.pc + 3, stack := .ref a :: g.stack }) target → Steps p.tables e below (T.setTop g) target := by
  obtain ⟨k, cf, i, a', hk, hcf, hcp, -, hr, hev'⟩ := Cond.stringRef_spec hown hconst
  cases hev.symm.trans hev'
  obtain ⟨k', hk', he⟩ := X.warmed.alike.2.2 _ _ hk
  have hr' : k'.resolved[index]? = some (some (.string a)) := by
    rcases X.warmed.entry hk hk' index with h | ⟨h, -⟩
    · rw [h]; exact hr
    · rw [hr] at h; cases h
  intro target hrest
  subst hg
  jvm_step X.here [hexec, hdg, ldc_w.wp_string (e := e) (s := T) (f := g) X.here.top hk' (by rw [he]; exact hcf) hcp hr']
  exact hrest
variable {base : Nat} {ad adV : Nat → Nat} {tys : List (ClassId × FieldType)} {D : va_G} {M : rk_Mt} {mt : Nat → rk_Mt} {ml : rk_Ml} {fl : rk_Fl} {A : Nat → Prop} {L : List Nat}
theorem rj_ldcw (hC : rm_Cx base tys D (rk_NU base ad adV) M mt ml fl p R s m args meth c A L) {pc idx i : Nat} {tx : String} (hdg : decode M.2.1 pc = .ok (.ldc_w idx, 3)) (hm : (M.1.cls, idx, tx, i) ∈ rk_strs) {rest : List Value} {lo : List (Nat × Value)}
    (kk : rv_G p l e R s m args below meth c Q M.2.2.1 cells slots H locs (pc + 3) (.ref (ad i) :: rest) lo) : rv_G p l e R s m args below meth c Q M.2.2.1 cells slots H locs pc rest lo := by
  intro ls hl
  obtain ⟨hx, hb, hml9, -, -, hown, hts, hK, hNs, -⟩ := hC
  have hZ := hNs.2.1 _ hm
  intro T hT X
  obtain ⟨t, a1, b1⟩ := kk ls hl T hT X
  exact ⟨t, rj_ldcwS X hx hown (text := tx) (a := ad i) hZ.1 hZ.2 (g := F0 m pc ls rest) rfl (by rw [hb]; exact hdg) t a1, b1⟩
end RJW
def rv_t_X12_readSocket : rv_T := (.branch 0 (.branch 0 (.branch 0 (.branch 0 (.branch 0 (.branch 0 (.branch 0 (.leaf (0, .aload_n 0, 1)) (.leaf (64, .bipush (7), 2))) (.leaf (99999, .nop, 1))) (.branch 0 (.leaf (80, .iconst 0, 1)) (.leaf (48, .iconst 0, 1)))) (.branch 0 (.branch 0 (.branch 0 (.leaf (8, .ireturn, 1)) (.leaf (72, .getfield 245, 3))) (.leaf (40, .iadd, 1))) (.branch 0 (.leaf (88, .iload_n 1, 1)) (.leaf (56, .bipush (46), 2))))) (.branch 0 (.branch 0 (.branch 0 (.leaf (4, .ifCond .eq (5), 3)) (.leaf (100, .ireturn, 1))) (.branch 0 (.branch 0 (.leaf (20, .istore_n 3, 1)) (.leaf (84, .ifCond .gt (8), 3))) (.leaf (99999, .nop, 1)))) (.branch 0 (.leaf (99999, .nop, 1)) (.branch 0 (.branch 0 (.leaf (28, .ifCond .eq (17), 3)) (.leaf (92, .aload_n 0, 1))) (.leaf (99999, .nop, 1)))))) (.branch 0 (.branch 0 (.branch 0 (.branch 0 (.leaf (66, .invokevirtual 279, 3)) (.branch 0 (.leaf (34, .iconst 0, 1)) (.leaf (98, .pop, 1)))) (.branch 0 (.leaf (18, .istore_n 2, 1)) (.leaf (50, .invokevirtual 279, 3)))) (.branch 0 (.branch 0 (.leaf (10, .invokevirtual 264, 3)) (.leaf (42, .goto (29), 3))) (.leaf (58, .invokevirtual 282, 3)))) (.branch 0 (.branch 0 (.leaf (70, .istore_n 3, 1)) (.branch 0 (.leaf (22, .ldc_w 273, 3)) (.leaf (54, .istore_n 3, 1)))) (.branch 0 (.branch 0 (.branch 0 (.leaf (14, .aload_n 0, 1)) (.leaf (78, .aload_n 0, 1))) (.leaf (99999, .nop, 1))) (.branch 0 (.leaf (94, .iload_n 2, 1)) (.leaf (62, .aload_n 0, 1))))))) (.branch 0 (.branch 0 (.branch 0 (.branch 0 (.branch 0 (.leaf (1, .getfield 245, 3)) (.leaf (33, .aload_n 0, 1))) (.branch 0 (.leaf (81, .invokevirtual 36, 3)) (.leaf (49, .iconst 3, 1)))) (.branch 0 (.branch 0 (.leaf (9, .aload_n 0, 1)) (.leaf (41, .istore_n 3, 1))) (.branch 0 (.branch 0 (.leaf (25, .invokevirtual 275, 3)) (.leaf (89, .if_icmp .ne (10), 3))) (.leaf (99999, .nop, 1))))) (.branch 0 (.branch 0 (.branch 0 (.leaf (69, .iadd, 1)) (.leaf (37, .invokevirtual 279, 3))) (.branch 0 (.leaf (21, .aload_n 0, 1)) (.leaf (53, .imul, 1)))) (.branch 0 (.branch 0 (.leaf (13, .pop, 1)) (.leaf (45, .bipush (8), 2))) (.branch 0 (.leaf (93, .iconst 3, 1)) (.leaf (61, .iload_n 3, 1)))))) (.branch 0 (.branch 0 (.branch 0 (.branch 0 (.leaf (99999, .nop, 1)) (.branch 0 (.leaf (35, .bipush (7), 2)) (.leaf (99, .iload_n 3, 1)))) (.leaf (19, .iconst 0, 1))) (.leaf (75, .ifCond .ne (24), 3))) (.branch 0 (.branch 0 (.branch 0 (.branch 0 (.leaf (7, .iconst 0, 1)) (.leaf (71, .aload_n 0, 1))) (.leaf (99999, .nop, 1))) (.branch 0 (.leaf (87, .iload_n 3, 1)) (.leaf (55, .aload_n 0, 1)))) (.branch 0 (.branch 0 (.branch 0 (.leaf (15, .getfield 236, 3)) (.leaf (79, .iload_n 3, 1))) (.leaf (47, .aload_n 0, 1))) (.branch 0 (.branch 0 (.leaf (31, .bipush (32), 2)) (.leaf (95, .invokevirtual 270, 3))) (.leaf (63, .iconst 1, 1))))))))
theorem rv_k_X12_readSocket : rv_tok cX12_readSocket rv_t_X12_readSocket = true := by decide +kernel
section RMX
variable (base : Nat) (l : Launch) (cI c1 c2 c3 c4 c5 : ClassId) (D : va_G) (ad adV : Nat → Nat)
theorem h_readSocket (a0 : Nat) (b : Int32) : rm_Hm base l cI c1 c2 c3 c4 c5 D ad adV rk_q_X12_readSocket [.ref a0, .int b] (fun G _ f => G a0 = some 12) (fun G _ f v u => ∃ x : Int32, v = some (.int x) ∧ 0 ≤ x.toInt ∧ x.toInt ≤ 39) 0 1 := by
  unfold rm_Hm
  refine rm_start (M := rk_q_X12_readSocket) (rk_hNw base ad adV) (rk_hNc base ad adV) (by decide +kernel) (mt := rk_mt [rk_q_X12_at, rk_q_X12_behindBlanks, rk_q_X12_errs, rk_q_X12_number, rk_q_X12_sign, rk_q_X12_takesWord]) (ml := rk_mlf [(36, 0, 3, 12), (264, 1, 1, 12), (270, 2, 3, 12), (279, 3, 3, 12), (282, 4, 2, 12), (275, 5, 2, 12)]) (fl := rk_flf rk_ftX12) (fun s args h hN => rk_MlOk_of (List.forall_mem_cons.mpr ⟨rk_mck_ok (fun w hw => List.mem_cons_of_mem _ hw) h hN rk_cm_X12_at rk_lk_X12_36, List.forall_mem_cons.mpr ⟨rk_mck_ok (fun w hw => List.mem_cons_of_mem _ hw) h hN rk_cm_X12_behindBlanks rk_lk_X12_264, List.forall_mem_cons.mpr ⟨rk_mck_ok (fun w hw => List.mem_cons_of_mem _ hw) h hN rk_cm_X12_errs rk_lk_X12_270, List.forall_mem_cons.mpr ⟨rk_mck_ok (fun w hw => List.mem_cons_of_mem _ hw) h hN rk_cm_X12_number rk_lk_X12_279, List.forall_mem_cons.mpr ⟨rk_mck_ok (fun w hw => List.mem_cons_of_mem _ hw) h hN rk_cm_X12_sign rk_lk_X12_282, List.forall_mem_cons.mpr ⟨rk_mck_ok (fun w hw => List.mem_cons_of_mem _ hw) h hN rk_cm_X12_takesWord rk_lk_X12_275, fun _ h => absurd h List.not_mem_nil⟩⟩⟩⟩⟩⟩) (by decide +kernel)) (fun s args h hN => rk_flX12 (fun w hw => List.mem_cons_of_mem _ hw) h hN) (rm_cat1 rfl) (Nat.le_of_ble_eq_true rfl) ?_
  intro p e st m below meth c G X L f0 A hC hh hX0 hXC hT hpre
  have hcs : 0 ≤ 0 ∧ 0 ≤ 0 := ⟨Nat.le_refl 0, Nat.le_refl 0⟩
  have hG : G a0 = some 12 := hpre
  have t99 : ∀ (q s : Int32) (sn : Nat) (f : Nat → va_E) (H : Heap) (locs : List Loc), rm_h D A st L f H locs → rm_TY cI c1 c2 c3 c4 c5 ad G X L f → rm_Lv G 1 f0 f → s.toInt = (sn : Int) → sn < 40 → rv_G p l e { frames := rk_q_X12_readSocket.2.2.2.2.1, cells := 0, slots := 0, locals := rk_q_X12_readSocket.2.2.2.2.2 } st m ([.ref a0, .int b] : List Value).toArray below meth c (MQ below (rk_Q (fun v u => rm_TY cI c1 c2 c3 c4 c5 ad G (X + 0) L u ∧ rm_Lv G 1 f0 u ∧ (fun G _ f v u => ∃ x : Int32, v = some (.int x) ∧ 0 ≤ x.toInt ∧ x.toInt ≤ 39) G X f0 v u) (rk_B D (rk_tys cI c1 c2 c3 c4 c5) L A) A) ([.ref a0, .int b] : List Value).toArray st 0 0 A) rk_q_X12_readSocket.2.2.1 0 0 H locs 99 [] [(0, .ref a0), (1, .int b), (2, .int q), (3, .int s)] := by
    intro q s sn f H locs hh hT hLt hs hsn
    refine rv_run hC.1 hC.2.1 (T := rv_t_X12_readSocket) rv_k_X12_readSocket 1 ?_
    refine rm_iret hC hh (by decide +kernel) rfl ⟨by rw [Int.add_zero]; exact hT, hLt, ⟨s, rfl, by omega, by omega⟩⟩
  have t92 : ∀ (q s : Int32) (sn : Nat) (f : Nat → va_E) (H : Heap) (locs : List Loc), rm_h D A st L f H locs → rm_TY cI c1 c2 c3 c4 c5 ad G X L f → rm_Lv G 1 f0 f → s.toInt = (sn : Int) → sn < 40 → rv_G p l e { frames := rk_q_X12_readSocket.2.2.2.2.1, cells := 0, slots := 0, locals := rk_q_X12_readSocket.2.2.2.2.2 } st m ([.ref a0, .int b] : List Value).toArray below meth c (MQ below (rk_Q (fun v u => rm_TY cI c1 c2 c3 c4 c5 ad G (X + 0) L u ∧ rm_Lv G 1 f0 u ∧ (fun G _ f v u => ∃ x : Int32, v = some (.int x) ∧ 0 ≤ x.toInt ∧ x.toInt ≤ 39) G X f0 v u) (rk_B D (rk_tys cI c1 c2 c3 c4 c5) L A) A) ([.ref a0, .int b] : List Value).toArray st 0 0 A) rk_q_X12_readSocket.2.2.1 0 0 H locs 92 [] [(0, .ref a0), (1, .int b), (2, .int q), (3, .int s)] := by
    intro q s sn f H locs hh hT hLt hs hsn
    refine rv_run hC.1 hC.2.1 (T := rv_t_X12_readSocket) rv_k_X12_readSocket 80 ?_
    refine w_h hC hh hT hG (by omega) (by omega) 270 (by decide +kernel) rfl (h_errs base l cI c1 c2 c3 c4 c5 D ad adV a0 _ _) hG rfl rfl (Nat.le_of_ble_eq_true rfl) hcs (fun v f H locs hh hT hL hP => ?_)
    rw [Int.add_zero] at hT
    obtain ⟨⟨x9, rfl, -⟩, -⟩ := hP
    refine rv_run hC.1 hC.2.1 (T := rv_t_X12_readSocket) rv_k_X12_readSocket 1 ?_
    exact t99 q s sn f H locs hh hT (rm_lv_tr (k := 1) hLt hL rfl rfl) hs hsn
  have t71 : ∀ (q s : Int32) (sn : Nat) (f : Nat → va_E) (H : Heap) (locs : List Loc), rm_h D A st L f H locs → rm_TY cI c1 c2 c3 c4 c5 ad G X L f → rm_Lv G 1 f0 f → s.toInt = (sn : Int) → sn < 40 → rv_G p l e { frames := rk_q_X12_readSocket.2.2.2.2.1, cells := 0, slots := 0, locals := rk_q_X12_readSocket.2.2.2.2.2 } st m ([.ref a0, .int b] : List Value).toArray below meth c (MQ below (rk_Q (fun v u => rm_TY cI c1 c2 c3 c4 c5 ad G (X + 0) L u ∧ rm_Lv G 1 f0 u ∧ (fun G _ f v u => ∃ x : Int32, v = some (.int x) ∧ 0 ≤ x.toInt ∧ x.toInt ≤ 39) G X f0 v u) (rk_B D (rk_tys cI c1 c2 c3 c4 c5) L A) A) ([.ref a0, .int b] : List Value).toArray st 0 0 A) rk_q_X12_readSocket.2.2.1 0 0 H locs 71 [] [(0, .ref a0), (1, .int b), (2, .int q), (3, .int s)] := by
    intro q s sn f H locs hh hT hLt hs hsn
    refine rv_run hC.1 hC.2.1 (T := rv_t_X12_readSocket) rv_k_X12_readSocket 80 ?_
    refine w_gf hC hh hT hG (by omega) 245 (by decide +kernel) rfl rfl (fun x hx hx2 => ?_)
    refine rv_run hC.1 hC.2.1 (T := rv_t_X12_readSocket) rv_k_X12_readSocket 1 ?_
    refine ⟨fun _ => t99 q s sn f H locs hh hT hLt hs hsn, fun _ => ?_⟩
    refine rv_run hC.1 hC.2.1 (T := rv_t_X12_readSocket) rv_k_X12_readSocket 80 ?_
    refine w_at hC hh hT hG (by omega) (by omega) 36 (by decide +kernel) rfl rfl hs hsn 0 (by decide) (by decide) (Nat.le_of_ble_eq_true rfl) hcs (fun o H locs hh ho => ?_)
    refine rv_run hC.1 hC.2.1 (T := rv_t_X12_readSocket) rv_k_X12_readSocket 1 ?_
    refine ⟨fun _ => t92 q s sn f H locs hh hT hLt hs hsn, fun _ => ?_⟩
    refine rv_run hC.1 hC.2.1 (T := rv_t_X12_readSocket) rv_k_X12_readSocket 3 ?_
    exact ⟨fun _ => t99 q s sn f H locs hh hT hLt hs hsn, fun _ => t92 q s sn f H locs hh hT hLt hs hsn⟩
  refine rv_run hC.1 hC.2.1 (T := rv_t_X12_readSocket) rv_k_X12_readSocket 80 ?_
  refine w_gf hC hh hT hG (by omega) 245 (by decide +kernel) rfl rfl (fun x hx hx2 => ?_)
  refine rv_run hC.1 hC.2.1 (T := rv_t_X12_readSocket) rv_k_X12_readSocket 1 ?_
  refine ⟨fun _ => ?_, fun _ => ?_⟩
  · refine rv_run hC.1 hC.2.1 (T := rv_t_X12_readSocket) rv_k_X12_readSocket 80 ?_
    refine w_h hC hh hT hG (by omega) (by omega) 264 (by decide +kernel) rfl (h_behindBlanks base l cI c1 c2 c3 c4 c5 D ad adV a0) hG rfl rfl (Nat.le_of_ble_eq_true rfl) hcs (fun v f H locs hh hT hL hP => ?_)
    rw [Int.add_zero] at hT
    obtain ⟨y, rfl, -⟩ := hP
    have hLt := hL
    refine rv_run hC.1 hC.2.1 (T := rv_t_X12_readSocket) rv_k_X12_readSocket 80 ?_
    refine w_gf hC hh hT hG (by omega) 236 (by decide +kernel) rfl rfl (fun z hz hz2 => ?_)
    refine rv_run hC.1 hC.2.1 (T := rv_t_X12_readSocket) rv_k_X12_readSocket 80 ?_
    refine rj_ldcw (idx := 273) (i := 2) (tx := "e") hC (by decide +kernel) (by decide) ?_
    refine w_h hC hh hT hG (by omega) (by omega) 275 (by decide +kernel) rfl (h_takesWord base l cI c1 c2 c3 c4 c5 D ad adV a0 2 (by decide)) hG rfl rfl (Nat.le_of_ble_eq_true rfl) hcs (fun v f H locs hh hT hL hP => ?_)
    rw [Int.add_zero] at hT
    obtain ⟨w, rfl, -⟩ := hP
    have hLt := rm_lv_tr (k := 1) hLt hL rfl rfl
    refine rv_run hC.1 hC.2.1 (T := rv_t_X12_readSocket) rv_k_X12_readSocket 1 ?_
    refine ⟨fun _ => ?_, fun _ => ?_⟩
    · refine rv_run hC.1 hC.2.1 (T := rv_t_X12_readSocket) rv_k_X12_readSocket 80 ?_
      refine w_h hC hh hT hG (by omega) (by omega) 279 (by decide +kernel) rfl (h_number base l cI c1 c2 c3 c4 c5 D ad adV a0 _ _ ⟨by decide, by decide⟩) hG rfl rfl (Nat.le_of_ble_eq_true rfl) hcs (fun v f H locs hh hT hL hP => ?_)
      rw [Int.add_zero] at hT
      obtain ⟨n1, rfl, hn1, hn2, -⟩ := hP
      have hn2 : n1.toInt ≤ 3 := hn2
      have hLt := rm_lv_tr (k := 1) hLt hL rfl rfl
      have e7 := rm_mu (x := (Int8.ofInt 8).toInt32) (y := n1) (a := 8) (b := 4) rfl (by decide) (by omega) (by decide)
      refine rv_run hC.1 hC.2.1 (T := rv_t_X12_readSocket) rv_k_X12_readSocket 80 ?_
      refine w_h hC hh hT hG (by omega) (by omega) 282 (by decide +kernel) rfl (h_sign base l cI c1 c2 c3 c4 c5 D ad adV a0 _ (by decide)) hG rfl rfl (Nat.le_of_ble_eq_true rfl) hcs (fun v f H locs hh hT hL hP => ?_)
      rw [Int.add_zero] at hT
      have hP : v = none := hP
      subst hP
      have hLt := rm_lv_tr (k := 1) hLt hL rfl rfl
      refine rv_run hC.1 hC.2.1 (T := rv_t_X12_readSocket) rv_k_X12_readSocket 80 ?_
      refine w_h hC hh hT hG (by omega) (by omega) 279 (by decide +kernel) rfl (h_number base l cI c1 c2 c3 c4 c5 D ad adV a0 _ _ ⟨by decide, by decide⟩) hG rfl rfl (Nat.le_of_ble_eq_true rfl) hcs (fun v f H locs hh hT hL hP => ?_)
      rw [Int.add_zero] at hT
      obtain ⟨n2, rfl, hm1, hm2, -⟩ := hP
      have hm2 : n2.toInt ≤ 7 := hm2
      have hLt := rm_lv_tr (k := 1) hLt hL rfl rfl
      have e8 := rm_ad (y := n2) e7 rfl (by omega) (by omega)
      obtain ⟨sn, hsn⟩ : ∃ n : Nat, 8 * n1.toInt + n2.toInt = (n : Int) := ⟨(8 * n1.toInt + n2.toInt).toNat, by omega⟩
      refine rv_run hC.1 hC.2.1 (T := rv_t_X12_readSocket) rv_k_X12_readSocket 2 ?_
      exact t71 _ _ sn f H locs hh hT hLt (by rw [e8]; exact hsn) (by omega)
    · refine rv_run hC.1 hC.2.1 (T := rv_t_X12_readSocket) rv_k_X12_readSocket 80 ?_
      refine w_h hC hh hT hG (by omega) (by omega) 279 (by decide +kernel) rfl (h_number base l cI c1 c2 c3 c4 c5 D ad adV a0 _ _ ⟨by decide, by decide⟩) hG rfl rfl (Nat.le_of_ble_eq_true rfl) hcs (fun v f H locs hh hT hL hP => ?_)
      rw [Int.add_zero] at hT
      obtain ⟨n1, rfl, hn1, hn2, -⟩ := hP
      have hn2 : n1.toInt ≤ 7 := hn2
      have hLt := rm_lv_tr (k := 1) hLt hL rfl rfl
      have e8 := rm_ad (x := (Int8.ofInt 32).toInt32) (y := n1) (a := 32) rfl rfl (by omega) (by omega)
      obtain ⟨sn, hsn⟩ : ∃ n : Nat, 32 + n1.toInt = (n : Int) := ⟨(32 + n1.toInt).toNat, by omega⟩
      refine rv_run hC.1 hC.2.1 (T := rv_t_X12_readSocket) rv_k_X12_readSocket 3 ?_
      exact t71 _ _ sn f H locs hh hT hLt (by rw [e8]; exact hsn) (by omega)
  · refine rv_run hC.1 hC.2.1 (T := rv_t_X12_readSocket) rv_k_X12_readSocket 1 ?_
    refine rm_iret hC hh (by decide +kernel) rfl ⟨by rw [Int.add_zero]; exact hT, rm_lv_rf 1, ⟨_, rfl, by decide, by decide⟩⟩
end RMX
