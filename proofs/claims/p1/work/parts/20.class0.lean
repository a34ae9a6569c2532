section RKX
variable (base : Nat) (l : Launch) (cI c1 c2 c3 c4 c5 : ClassId) (D : va_G) (ad adV : Nat → Nat)
def rk_q_X11_isSocket : rk_Mt := (yX11_isSocket, cX11_isSocket, 1, (some .boolean), 0, 0)
theorem c_X11_isSocket : rk_Mc base l cI c1 c2 c3 c4 c5 D ad adV rk_q_X11_isSocket [(0, -2147483648, 2147483647)] [((0, 1, 1), [(0, (0, 0, 39))]), ((0, 0, 0), [])] 0 true :=
  rk_chk_ok (rk_hER ad) (ap := (5, 4)) (rk_hap cI c1 c2 c3 c4 c5) (rk_hNw base ad adV) (rk_hNc base ad adV) (mt := rk_mt []) (ctr := rk_look []) (rk_look_ok _ (fun _ h => absurd h List.not_mem_nil))
    (M := rk_q_X11_isSocket) (P := (cX11_isSocket, 1, rk_flf rk_ftX11, rk_mlf [], rk_csf [], rk_ssf [], rk_acf [])) rfl rfl (by decide +kernel) (fun s args h hN => rk_flX11 (fun w hw => List.mem_cons_of_mem _ hw) h hN)
    (fun s args h hN => rk_MlOk_of (fun _ h => absurd h List.not_mem_nil) (by decide +kernel))
    (fun s args h i v hi => absurd hi (by simp [rk_csf])) (fun s hN i k hi => absurd hi (by simp [rk_ssf, rk_lk])) (fun s args h idx hi => absurd hi (by simp [rk_acf]))
    (rk := 2) ⟨fun h => absurd h (by decide), fun h => absurd h (by decide), fun _ => rfl, fun h => absurd h (by decide)⟩ (cs := []) (fuel := 3000) (by decide +kernel)
def rk_q_X8_enter : rk_Mt := (yX8_enter, cX8_enter, 2, none, 0, 0)
theorem c_X8_enter : rk_Mc base l cI c1 c2 c3 c4 c5 D ad adV rk_q_X8_enter [(2, 8, 0), (0, -2147483648, 2147483647)] [((9, 0, 0), [])] 0 false :=
  rk_chk_ok (rk_hER ad) (ap := (5, 4)) (rk_hap cI c1 c2 c3 c4 c5) (rk_hNw base ad adV) (rk_hNc base ad adV) (mt := rk_mt []) (ctr := rk_look []) (rk_look_ok _ (fun _ h => absurd h List.not_mem_nil))
    (M := rk_q_X8_enter) (P := (cX8_enter, 2, rk_flf rk_ftX8, rk_mlf [], rk_csf [], rk_ssf [], rk_acf [])) rfl rfl (by decide +kernel) (fun s args h hN => rk_flX8 (fun w hw => List.mem_cons_of_mem _ hw) h hN)
    (fun s args h hN => rk_MlOk_of (fun _ h => absurd h List.not_mem_nil) (by decide +kernel))
    (fun s args h i v hi => absurd hi (by simp [rk_csf])) (fun s hN i k hi => absurd hi (by simp [rk_ssf, rk_lk])) (fun s args h idx hi => absurd hi (by simp [rk_acf]))
    (rk := 0) ⟨fun _ => rfl, fun h => absurd h (by decide), fun h => absurd h (by decide), fun h => absurd h (by decide)⟩ (cs := []) (fuel := 3000) (by decide +kernel)
def rk_q_X3_add : rk_Mt := (yX3_add, cX3_add, 5, none, 0, 0)
theorem c_X3_add : rk_Mc base l cI c1 c2 c3 c4 c5 D ad adV rk_q_X3_add [(2, 3, 0), (0, -2147483648, 2147483647), (0, -2147483648, 2147483647), (0, -2147483648, 2147483647)] [((9, 0, 0), [])] 1 false :=
  rk_chk_ok (rk_hER ad) (ap := (5, 4)) (rk_hap cI c1 c2 c3 c4 c5) (rk_hNw base ad adV) (rk_hNc base ad adV) (mt := rk_mt []) (ctr := rk_look []) (rk_look_ok _ (fun _ h => absurd h List.not_mem_nil))
    (M := rk_q_X3_add) (P := (cX3_add, 5, rk_flf rk_ftX3, rk_mlf [], rk_csf [], rk_ssf [], rk_acf [])) rfl rfl (by decide +kernel) (fun s args h hN => rk_flX3 (fun w hw => List.mem_cons_of_mem _ hw) h hN)
    (fun s args h hN => rk_MlOk_of (fun _ h => absurd h List.not_mem_nil) (by decide +kernel))
    (fun s args h i v hi => absurd hi (by simp [rk_csf])) (fun s hN i k hi => absurd hi (by simp [rk_ssf, rk_lk])) (fun s args h idx hi => absurd hi (by simp [rk_acf]))
    (rk := 0) ⟨fun _ => rfl, fun h => absurd h (by decide), fun h => absurd h (by decide), fun h => absurd h (by decide)⟩ (cs := []) (fuel := 3000) (by decide +kernel)
def rk_q_X7_add : rk_Mt := (yX7_add, cX7_add, 3, none, 0, 0)
theorem c_X7_add_0 : rk_Mc base l cI c1 c2 c3 c4 c5 D ad adV rk_q_X7_add [(2, 6, 0), (0, -2147483648, 2147483647)] [((9, 0, 0), [])] 0 false :=
  rk_chk_ok (rk_hER ad) (ap := (5, 4)) (rk_hap cI c1 c2 c3 c4 c5) (rk_hNw base ad adV) (rk_hNc base ad adV) (mt := rk_mt []) (ctr := rk_look []) (rk_look_ok _ (fun _ h => absurd h List.not_mem_nil))
    (M := rk_q_X7_add) (P := (cX7_add, 3, rk_flf rk_ftX7, rk_mlf [], rk_csf [], rk_ssf [], rk_acf [])) rfl rfl (by decide +kernel) (fun s args h hN => rk_flX7 (fun w hw => List.mem_cons_of_mem _ hw) h hN)
    (fun s args h hN => rk_MlOk_of (fun _ h => absurd h List.not_mem_nil) (by decide +kernel))
    (fun s args h i v hi => absurd hi (by simp [rk_csf])) (fun s hN i k hi => absurd hi (by simp [rk_ssf, rk_lk])) (fun s args h idx hi => absurd hi (by simp [rk_acf]))
    (rk := 0) ⟨fun _ => rfl, fun h => absurd h (by decide), fun h => absurd h (by decide), fun h => absurd h (by decide)⟩ (cs := []) (fuel := 3000) (by decide +kernel)
def rk_q_X7_take : rk_Mt := (yX7_take, cX7_take, 2, (some .int), 0, 0)
theorem c_X7_take_1 : rk_Mc base l cI c1 c2 c3 c4 c5 D ad adV rk_q_X7_take [(2, 7, 0)] [((0, -2147483648, 2147483647), [])] 0 false :=
  rk_chk_ok (rk_hER ad) (ap := (5, 4)) (rk_hap cI c1 c2 c3 c4 c5) (rk_hNw base ad adV) (rk_hNc base ad adV) (mt := rk_mt []) (ctr := rk_look []) (rk_look_ok _ (fun _ h => absurd h List.not_mem_nil))
    (M := rk_q_X7_take) (P := (cX7_take, 2, rk_flf rk_ftX7, rk_mlf [], rk_csf [], rk_ssf [], rk_acf [])) rfl rfl (by decide +kernel) (fun s args h hN => rk_flX7 (fun w hw => List.mem_cons_of_mem _ hw) h hN)
    (fun s args h hN => rk_MlOk_of (fun _ h => absurd h List.not_mem_nil) (by decide +kernel))
    (fun s args h i v hi => absurd hi (by simp [rk_csf])) (fun s hN i k hi => absurd hi (by simp [rk_ssf, rk_lk])) (fun s args h idx hi => absurd hi (by simp [rk_acf]))
    (rk := 1) ⟨fun h => absurd h (by decide), fun _ => rfl, fun h => absurd h (by decide), fun h => absurd h (by decide)⟩ (cs := []) (fuel := 3000) (by decide +kernel)
def rk_q_X7_dropPacket : rk_Mt := (yX7_dropPacket, cX7_dropPacket, 3, none, 1, 21)
theorem rk_cm_X7_take : Jvm.Cond.code rk_q_X7_take.1 rk_q_X7_take.2.1 rk_q_X7_take.2.2.1 rk_q_X7_take.2.2.2.1 ∈ rk_tbl := rk_tat_ok (i := 602) (by decide +kernel)
theorem rk_lk_X7_35 : rk_mck RX7 35 rk_q_X7_take 1 7 124 (599, false) 600 601 = true := by decide +kernel
theorem c_X7_dropPacket_1 : rk_Mc base l cI c1 c2 c3 c4 c5 D ad adV rk_q_X7_dropPacket [(2, 7, 0)] [((9, 0, 0), [])] 0 false :=
  rk_chk_ok (rk_hER ad) (ap := (5, 4)) (rk_hap cI c1 c2 c3 c4 c5) (rk_hNw base ad adV) (rk_hNc base ad adV) (mt := rk_mt [rk_q_X7_take]) (ctr := rk_look [(0, [(2, 7, 0)], [((0, -2147483648, 2147483647), [])], 0, false)]) (rk_look_ok _ (List.forall_mem_cons.mpr ⟨c_X7_take_1 base l cI c1 c2 c3 c4 c5 D ad adV, fun _ h => absurd h List.not_mem_nil⟩))
    (M := rk_q_X7_dropPacket) (P := (cX7_dropPacket, 3, rk_flf rk_ftX7, rk_mlf [(35, 0, 1, 7)], rk_csf [], rk_ssf [], rk_acf [])) rfl rfl (by decide +kernel) (fun s args h hN => rk_flX7 (fun w hw => List.mem_cons_of_mem _ hw) h hN)
    (fun s args h hN => rk_MlOk_of (List.forall_mem_cons.mpr ⟨rk_mck_ok (fun w hw => List.mem_cons_of_mem _ hw) h hN rk_cm_X7_take rk_lk_X7_35, fun _ h => absurd h List.not_mem_nil⟩) (by decide +kernel))
    (fun s args h i v hi => absurd hi (by simp [rk_csf])) (fun s hN i k hi => absurd hi (by simp [rk_ssf, rk_lk])) (fun s args h idx hi => absurd hi (by simp [rk_acf]))
    (rk := 0) ⟨fun _ => rfl, fun h => absurd h (by decide), fun h => absurd h (by decide), fun h => absurd h (by decide)⟩ (cs := [(7, [(2, 7, 0), (0, -2147483648, 2147483647), (0, 0, 120)], [], (0, [(2, 1)]), (0, []))]) (fuel := 3000) (by decide +kernel)
def rk_q_X10_baseOf : rk_Mt := (yX10_baseOf, cX10_baseOf, 1, (some .int), 0, 0)
theorem c_X10_baseOf : rk_Mc base l cI c1 c2 c3 c4 c5 D ad adV rk_q_X10_baseOf [(0, 0, 31)] [((0, 0, 24), [])] 0 true :=
  rk_chk_ok (rk_hER ad) (ap := (5, 4)) (rk_hap cI c1 c2 c3 c4 c5) (rk_hNw base ad adV) (rk_hNc base ad adV) (mt := rk_mt []) (ctr := rk_look []) (rk_look_ok _ (fun _ h => absurd h List.not_mem_nil))
    (M := rk_q_X10_baseOf) (P := (cX10_baseOf, 1, rk_flf rk_ftX10, rk_mlf [], rk_csf [], rk_ssf [], rk_acf [])) rfl rfl (by decide +kernel) (fun s args h hN => rk_flX10 (fun w hw => List.mem_cons_of_mem _ hw) h hN)
    (fun s args h hN => rk_MlOk_of (fun _ h => absurd h List.not_mem_nil) (by decide +kernel))
    (fun s args h i v hi => absurd hi (by simp [rk_csf])) (fun s hN i k hi => absurd hi (by simp [rk_ssf, rk_lk])) (fun s args h idx hi => absurd hi (by simp [rk_acf]))
    (rk := 1) ⟨fun h => absurd h (by decide), fun _ => rfl, fun h => absurd h (by decide), fun h => absurd h (by decide)⟩ (cs := []) (fuel := 3000) (by decide +kernel)
def rk_q_X2_beginSpill : rk_Mt := (yX2_beginSpill, cX2_beginSpill, 2, none, 0, 0)
theorem c_X2_beginSpill : rk_Mc base l cI c1 c2 c3 c4 c5 D ad adV rk_q_X2_beginSpill [(2, 2, 0), (0, 0, 1)] [((9, 0, 0), [])] 0 false :=
  rk_chk_ok (rk_hER ad) (ap := (5, 4)) (rk_hap cI c1 c2 c3 c4 c5) (rk_hNw base ad adV) (rk_hNc base ad adV) (mt := rk_mt []) (ctr := rk_look []) (rk_look_ok _ (fun _ h => absurd h List.not_mem_nil))
    (M := rk_q_X2_beginSpill) (P := (cX2_beginSpill, 2, rk_flf rk_ftX2, rk_mlf [], rk_csf [], rk_ssf [], rk_acf [])) rfl rfl (by decide +kernel) (fun s args h hN => rk_flX2 (fun w hw => List.mem_cons_of_mem _ hw) h hN)
    (fun s args h hN => rk_MlOk_of (fun _ h => absurd h List.not_mem_nil) (by decide +kernel))
    (fun s args h i v hi => absurd hi (by simp [rk_csf])) (fun s hN i k hi => absurd hi (by simp [rk_ssf, rk_lk])) (fun s args h idx hi => absurd hi (by simp [rk_acf]))
    (rk := 0) ⟨fun _ => rfl, fun h => absurd h (by decide), fun h => absurd h (by decide), fun h => absurd h (by decide)⟩ (cs := []) (fuel := 3000) (by decide +kernel)
def rk_q_X10_leave : rk_Mt := (yX10_leave, cX10_leave, 5, none, 2, 43)
theorem rk_cm_X8_enter : Jvm.Cond.code rk_q_X8_enter.1 rk_q_X8_enter.2.1 rk_q_X8_enter.2.2.1 rk_q_X8_enter.2.2.2.1 ∈ rk_tbl := rk_tat_ok (i := 582) (by decide +kernel)
theorem rk_lk_X10_106 : rk_mck RX10 106 rk_q_X8_enter 2 8 123 (579, false) 580 581 = true := by decide +kernel
theorem rk_cm_X3_add : Jvm.Cond.code rk_q_X3_add.1 rk_q_X3_add.2.1 rk_q_X3_add.2.2.1 rk_q_X3_add.2.2.2.1 ∈ rk_tbl := rk_tat_ok (i := 590) (by decide +kernel)
theorem rk_lk_X10_119 : rk_mck RX10 119 rk_q_X3_add 4 4 122 (587, false) 588 589 = true := by decide +kernel
theorem rk_cm_X7_add : Jvm.Cond.code rk_q_X7_add.1 rk_q_X7_add.2.1 rk_q_X7_add.2.2.1 rk_q_X7_add.2.2.2.1 ∈ rk_tbl := rk_tat_ok (i := 594) (by decide +kernel)
theorem rk_lk_X10_142 : rk_mck RX10 142 rk_q_X7_add 2 7 124 (591, false) 592 593 = true := by decide +kernel
theorem rk_cm_X7_dropPacket : Jvm.Cond.code rk_q_X7_dropPacket.1 rk_q_X7_dropPacket.2.1 rk_q_X7_dropPacket.2.2.1 rk_q_X7_dropPacket.2.2.2.1 ∈ rk_tbl := rk_tat_ok (i := 598) (by decide +kernel)
theorem rk_lk_X10_155 : rk_mck RX10 155 rk_q_X7_dropPacket 1 7 124 (595, false) 596 597 = true := by decide +kernel
theorem rk_cm_X10_baseOf : Jvm.Cond.code rk_q_X10_baseOf.1 rk_q_X10_baseOf.2.1 rk_q_X10_baseOf.2.2.1 rk_q_X10_baseOf.2.2.2.1 ∈ rk_tbl := rk_tat_ok (i := 605) (by decide +kernel)
theorem rk_lk_X10_161 : rk_mck RX10 161 rk_q_X10_baseOf 1 0 121 (603, false) 604 0 = true := by decide +kernel
theorem rk_cm_X2_beginSpill : Jvm.Cond.code rk_q_X2_beginSpill.1 rk_q_X2_beginSpill.2.1 rk_q_X2_beginSpill.2.2.1 rk_q_X2_beginSpill.2.2.2.1 ∈ rk_tbl := rk_tat_ok (i := 609) (by decide +kernel)
theorem rk_lk_X10_165 : rk_mck RX10 165 rk_q_X2_beginSpill 2 3 126 (606, false) 607 608 = true := by decide +kernel
theorem c_X10_leave : rk_Mc base l cI c1 c2 c3 c4 c5 D ad adV rk_q_X10_leave [(2, 10, 0), (0, 0, 39), (0, -2147483648, 2147483647)] [((9, 0, 0), [])] 1 false :=
  rk_chk_ok (rk_hER ad) (ap := (5, 4)) (rk_hap cI c1 c2 c3 c4 c5) (rk_hNw base ad adV) (rk_hNc base ad adV) (mt := rk_mt [rk_q_X7_dropPacket, rk_q_X10_baseOf, rk_q_X2_beginSpill, rk_q_X8_enter, rk_q_X3_add, rk_q_X7_add]) (ctr := rk_look [(0, [(2, 7, 0)], [((9, 0, 0), [])], 0, false), (1, [(0, 0, 31)], [((0, 0, 24), [])], 0, true), (2, [(2, 2, 0), (0, 0, 1)], [((9, 0, 0), [])], 0, false), (3, [(2, 8, 0), (0, -2147483648, 2147483647)], [((9, 0, 0), [])], 0, false), (4, [(2, 3, 0), (0, -2147483648, 2147483647), (0, -2147483648, 2147483647), (0, -2147483648, 2147483647)], [((9, 0, 0), [])], 1, false), (5, [(2, 6, 0), (0, -2147483648, 2147483647)], [((9, 0, 0), [])], 0, false)]) (rk_look_ok _ (List.forall_mem_cons.mpr ⟨c_X7_dropPacket_1 base l cI c1 c2 c3 c4 c5 D ad adV, List.forall_mem_cons.mpr ⟨c_X10_baseOf base l cI c1 c2 c3 c4 c5 D ad adV, List.forall_mem_cons.mpr ⟨c_X2_beginSpill base l cI c1 c2 c3 c4 c5 D ad adV, List.forall_mem_cons.mpr ⟨c_X8_enter base l cI c1 c2 c3 c4 c5 D ad adV, List.forall_mem_cons.mpr ⟨c_X3_add base l cI c1 c2 c3 c4 c5 D ad adV, List.forall_mem_cons.mpr ⟨c_X7_add_0 base l cI c1 c2 c3 c4 c5 D ad adV, fun _ h => absurd h List.not_mem_nil⟩⟩⟩⟩⟩⟩))
    (M := rk_q_X10_leave) (P := (cX10_leave, 5, rk_flf rk_ftX10, rk_mlf [(106, 3, 2, 8), (119, 4, 4, 4), (142, 5, 2, 7), (155, 0, 1, 7), (161, 1, 1, 0), (165, 2, 2, 3)], rk_csf [], rk_ssf [], rk_acf [])) rfl rfl (by decide +kernel) (fun s args h hN => rk_flX10 (fun w hw => List.mem_cons_of_mem _ hw) h hN)
    (fun s args h hN => rk_MlOk_of (List.forall_mem_cons.mpr ⟨rk_mck_ok (fun w hw => List.mem_cons_of_mem _ hw) h hN rk_cm_X8_enter rk_lk_X10_106, List.forall_mem_cons.mpr ⟨rk_mck_ok (fun w hw => List.mem_cons_of_mem _ hw) h hN rk_cm_X3_add rk_lk_X10_119, List.forall_mem_cons.mpr ⟨rk_mck_ok (fun w hw => List.mem_cons_of_mem _ hw) h hN rk_cm_X7_add rk_lk_X10_142, List.forall_mem_cons.mpr ⟨rk_mck_ok (fun w hw => List.mem_cons_of_mem _ hw) h hN rk_cm_X7_dropPacket rk_lk_X10_155, List.forall_mem_cons.mpr ⟨rk_mck_ok (fun w hw => List.mem_cons_of_mem _ hw) h hN rk_cm_X10_baseOf rk_lk_X10_161, List.forall_mem_cons.mpr ⟨rk_mck_ok (fun w hw => List.mem_cons_of_mem _ hw) h hN rk_cm_X2_beginSpill rk_lk_X10_165, fun _ h => absurd h List.not_mem_nil⟩⟩⟩⟩⟩⟩) (by decide +kernel))
    (fun s args h i v hi => absurd hi (by simp [rk_csf])) (fun s hN i k hi => absurd hi (by simp [rk_ssf, rk_lk])) (fun s args h idx hi => absurd hi (by simp [rk_acf]))
    (rk := 0) ⟨fun _ => rfl, fun h => absurd h (by decide), fun h => absurd h (by decide), fun h => absurd h (by decide)⟩ (cs := []) (fuel := 3000) (by decide +kernel)
def rk_q_X10_settle : rk_Mt := (yX10_settle, cX10_settle, 4, none, 3, 67)
theorem rk_cm_X10_leave : Jvm.Cond.code rk_q_X10_leave.1 rk_q_X10_leave.2.1 rk_q_X10_leave.2.2.1 rk_q_X10_leave.2.2.2.1 ∈ rk_tbl := rk_tat_ok (i := 586) (by decide +kernel)
theorem rk_lk_X10_109 : rk_mck RX10 109 rk_q_X10_leave 3 10 121 (583, false) 585 0 = true := by decide +kernel
theorem c_X10_settle : rk_Mc base l cI c1 c2 c3 c4 c5 D ad adV rk_q_X10_settle [(2, 10, 0), (0, 0, 39)] [((9, 0, 0), [])] 1 false :=
  rk_chk_ok (rk_hER ad) (ap := (5, 4)) (rk_hap cI c1 c2 c3 c4 c5) (rk_hNw base ad adV) (rk_hNc base ad adV) (mt := rk_mt [rk_q_X8_enter, rk_q_X10_leave]) (ctr := rk_look [(0, [(2, 8, 0), (0, -2147483648, 2147483647)], [((9, 0, 0), [])], 0, false), (1, [(2, 10, 0), (0, 0, 39), (0, -2147483648, 2147483647)], [((9, 0, 0), [])], 1, false)]) (rk_look_ok _ (List.forall_mem_cons.mpr ⟨c_X8_enter base l cI c1 c2 c3 c4 c5 D ad adV, List.forall_mem_cons.mpr ⟨c_X10_leave base l cI c1 c2 c3 c4 c5 D ad adV, fun _ h => absurd h List.not_mem_nil⟩⟩))
    (M := rk_q_X10_settle) (P := (cX10_settle, 4, rk_flf rk_ftX10, rk_mlf [(106, 0, 2, 8), (109, 1, 3, 10)], rk_csf [], rk_ssf [], rk_acf [])) rfl rfl (by decide +kernel) (fun s args h hN => rk_flX10 (fun w hw => List.mem_cons_of_mem _ hw) h hN)
    (fun s args h hN => rk_MlOk_of (List.forall_mem_cons.mpr ⟨rk_mck_ok (fun w hw => List.mem_cons_of_mem _ hw) h hN rk_cm_X8_enter rk_lk_X10_106, List.forall_mem_cons.mpr ⟨rk_mck_ok (fun w hw => List.mem_cons_of_mem _ hw) h hN rk_cm_X10_leave rk_lk_X10_109, fun _ h => absurd h List.not_mem_nil⟩⟩) (by decide +kernel))
    (fun s args h i v hi => absurd hi (by simp [rk_csf])) (fun s hN i k hi => absurd hi (by simp [rk_ssf, rk_lk])) (fun s args h idx hi => absurd hi (by simp [rk_acf]))
    (rk := 0) ⟨fun _ => rfl, fun h => absurd h (by decide), fun h => absurd h (by decide), fun h => absurd h (by decide)⟩ (cs := []) (fuel := 3000) (by decide +kernel)
def rk_q_X10_lay : rk_Mt := (yX10_lay, cX10_lay, 3, none, 4, 90)
theorem rk_cm_X10_settle : Jvm.Cond.code rk_q_X10_settle.1 rk_q_X10_settle.2.1 rk_q_X10_settle.2.2.1 rk_q_X10_settle.2.2.2.1 ∈ rk_tbl := rk_tat_ok (i := 578) (by decide +kernel)
theorem rk_lk_X10_92 : rk_mck RX10 92 rk_q_X10_settle 2 10 121 (575, false) 576 577 = true := by decide +kernel
theorem c_X10_lay : rk_Mc base l cI c1 c2 c3 c4 c5 D ad adV rk_q_X10_lay [(2, 10, 0), (0, 0, 39), (0, 0, 39)] [((9, 0, 0), [])] 2 false :=
  rk_chk_ok (rk_hER ad) (ap := (5, 4)) (rk_hap cI c1 c2 c3 c4 c5) (rk_hNw base ad adV) (rk_hNc base ad adV) (mt := rk_mt [rk_q_X10_settle]) (ctr := rk_look [(0, [(2, 10, 0), (0, 0, 39)], [((9, 0, 0), [])], 1, false)]) (rk_look_ok _ (List.forall_mem_cons.mpr ⟨c_X10_settle base l cI c1 c2 c3 c4 c5 D ad adV, fun _ h => absurd h List.not_mem_nil⟩))
    (M := rk_q_X10_lay) (P := (cX10_lay, 3, rk_flf rk_ftX10, rk_mlf [(92, 0, 2, 10)], rk_csf [], rk_ssf [], rk_acf [])) rfl rfl (by decide +kernel) (fun s args h hN => rk_flX10 (fun w hw => List.mem_cons_of_mem _ hw) h hN)
    (fun s args h hN => rk_MlOk_of (List.forall_mem_cons.mpr ⟨rk_mck_ok (fun w hw => List.mem_cons_of_mem _ hw) h hN rk_cm_X10_settle rk_lk_X10_92, fun _ h => absurd h List.not_mem_nil⟩) (by decide +kernel))
    (fun s args h i v hi => absurd hi (by simp [rk_csf])) (fun s hN i k hi => absurd hi (by simp [rk_ssf, rk_lk])) (fun s args h idx hi => absurd hi (by simp [rk_acf]))
    (rk := 0) ⟨fun _ => rfl, fun h => absurd h (by decide), fun h => absurd h (by decide), fun h => absurd h (by decide)⟩ (cs := []) (fuel := 3000) (by decide +kernel)
def rk_q_X11_plug : rk_Mt := (yX11_plug, cX11_plug, 3, (some .boolean), 5, 112)
theorem rk_cm_X11_isSocket : Jvm.Cond.code rk_q_X11_isSocket.1 rk_q_X11_isSocket.2.1 rk_q_X11_isSocket.2.2.1 rk_q_X11_isSocket.2.2.2.1 ∈ rk_tbl := rk_tat_ok (i := 570) (by decide +kernel)
theorem rk_lk_X11_23 : rk_mck RX11 23 rk_q_X11_isSocket 1 0 120 (568, false) 569 0 = true := by decide +kernel
theorem rk_cm_X10_lay : Jvm.Cond.code rk_q_X10_lay.1 rk_q_X10_lay.2.1 rk_q_X10_lay.2.2.1 rk_q_X10_lay.2.2.2.1 ∈ rk_tbl := rk_tat_ok (i := 574) (by decide +kernel)
theorem rk_lk_X11_37 : rk_mck RX11 37 rk_q_X10_lay 3 10 121 (571, false) 572 573 = true := by decide +kernel
theorem c_X11_plug : rk_Mc base l cI c1 c2 c3 c4 c5 D ad adV rk_q_X11_plug [(2, 11, 0), (0, -2147483648, 2147483647), (0, -2147483648, 2147483647)] [((0, 0, 1), [])] 2 false :=
  rk_chk_ok (rk_hER ad) (ap := (5, 4)) (rk_hap cI c1 c2 c3 c4 c5) (rk_hNw base ad adV) (rk_hNc base ad adV) (mt := rk_mt [rk_q_X11_isSocket, rk_q_X10_lay]) (ctr := rk_look [(0, [(0, -2147483648, 2147483647)], [((0, 1, 1), [(0, (0, 0, 39))]), ((0, 0, 0), [])], 0, true), (1, [(2, 10, 0), (0, 0, 39), (0, 0, 39)], [((9, 0, 0), [])], 2, false)]) (rk_look_ok _ (List.forall_mem_cons.mpr ⟨c_X11_isSocket base l cI c1 c2 c3 c4 c5 D ad adV, List.forall_mem_cons.mpr ⟨c_X10_lay base l cI c1 c2 c3 c4 c5 D ad adV, fun _ h => absurd h List.not_mem_nil⟩⟩))
    (M := rk_q_X11_plug) (P := (cX11_plug, 3, rk_flf rk_ftX11, rk_mlf [(23, 0, 1, 0), (37, 1, 3, 10)], rk_csf [], rk_ssf [], rk_acf [])) rfl rfl (by decide +kernel) (fun s args h hN => rk_flX11 (fun w hw => List.mem_cons_of_mem _ hw) h hN)
    (fun s args h hN => rk_MlOk_of (List.forall_mem_cons.mpr ⟨rk_mck_ok (fun w hw => List.mem_cons_of_mem _ hw) h hN rk_cm_X11_isSocket rk_lk_X11_23, List.forall_mem_cons.mpr ⟨rk_mck_ok (fun w hw => List.mem_cons_of_mem _ hw) h hN rk_cm_X10_lay rk_lk_X11_37, fun _ h => absurd h List.not_mem_nil⟩⟩) (by decide +kernel))
    (fun s args h i v hi => absurd hi (by simp [rk_csf])) (fun s hN i k hi => absurd hi (by simp [rk_ssf, rk_lk])) (fun s args h idx hi => absurd hi (by simp [rk_acf]))
    (rk := 2) ⟨fun h => absurd h (by decide), fun h => absurd h (by decide), fun _ => rfl, fun h => absurd h (by decide)⟩ (cs := []) (fuel := 3000) (by decide +kernel)
def rk_q_X10_part : rk_Mt := (yX10_part, cX10_part, 3, (some .int), 4, 90)
theorem rk_lk_X10_96 : rk_mck RX10 96 rk_q_X11_isSocket 1 0 120 (8, true) 569 0 = true := by decide +kernel
theorem c_X10_part : rk_Mc base l cI c1 c2 c3 c4 c5 D ad adV rk_q_X10_part [(2, 10, 0), (0, 0, 39)] [((0, -1, 39), [])] 2 false :=
  rk_chk_ok (rk_hER ad) (ap := (5, 4)) (rk_hap cI c1 c2 c3 c4 c5) (rk_hNw base ad adV) (rk_hNc base ad adV) (mt := rk_mt [rk_q_X11_isSocket, rk_q_X10_settle]) (ctr := rk_look [(0, [(0, -2147483648, 2147483647)], [((0, 1, 1), [(0, (0, 0, 39))]), ((0, 0, 0), [])], 0, true), (1, [(2, 10, 0), (0, 0, 39)], [((9, 0, 0), [])], 1, false)]) (rk_look_ok _ (List.forall_mem_cons.mpr ⟨c_X11_isSocket base l cI c1 c2 c3 c4 c5 D ad adV, List.forall_mem_cons.mpr ⟨c_X10_settle base l cI c1 c2 c3 c4 c5 D ad adV, fun _ h => absurd h List.not_mem_nil⟩⟩))
    (M := rk_q_X10_part) (P := (cX10_part, 3, rk_flf rk_ftX10, rk_mlf [(92, 1, 2, 10), (96, 0, 1, 0)], rk_csf [], rk_ssf [], rk_acf [])) rfl rfl (by decide +kernel) (fun s args h hN => rk_flX10 (fun w hw => List.mem_cons_of_mem _ hw) h hN)
    (fun s args h hN => rk_MlOk_of (List.forall_mem_cons.mpr ⟨rk_mck_ok (fun w hw => List.mem_cons_of_mem _ hw) h hN rk_cm_X10_settle rk_lk_X10_92, List.forall_mem_cons.mpr ⟨rk_mck_ok (fun w hw => List.mem_cons_of_mem _ hw) h hN rk_cm_X11_isSocket rk_lk_X10_96, fun _ h => absurd h List.not_mem_nil⟩⟩) (by decide +kernel))
    (fun s args h i v hi => absurd hi (by simp [rk_csf])) (fun s hN i k hi => absurd hi (by simp [rk_ssf, rk_lk])) (fun s args h idx hi => absurd hi (by simp [rk_acf]))
    (rk := 1) ⟨fun h => absurd h (by decide), fun _ => rfl, fun h => absurd h (by decide), fun h => absurd h (by decide)⟩ (cs := []) (fuel := 3000) (by decide +kernel)
def rk_q_X11_unplug : rk_Mt := (yX11_unplug, cX11_unplug, 2, (some .int), 5, 112)
theorem rk_cm_X10_part : Jvm.Cond.code rk_q_X10_part.1 rk_q_X10_part.2.1 rk_q_X10_part.2.2.1 rk_q_X10_part.2.2.2.1 ∈ rk_tbl := rk_tat_ok (i := 617) (by decide +kernel)
theorem rk_lk_X11_41 : rk_mck RX11 41 rk_q_X10_part 2 10 121 (614, false) 615 616 = true := by decide +kernel
theorem c_X11_unplug : rk_Mc base l cI c1 c2 c3 c4 c5 D ad adV rk_q_X11_unplug [(2, 11, 0), (0, -2147483648, 2147483647)] [((0, -1, 39), [])] 2 false :=
  rk_chk_ok (rk_hER ad) (ap := (5, 4)) (rk_hap cI c1 c2 c3 c4 c5) (rk_hNw base ad adV) (rk_hNc base ad adV) (mt := rk_mt [rk_q_X11_isSocket, rk_q_X10_part]) (ctr := rk_look [(0, [(0, -2147483648, 2147483647)], [((0, 1, 1), [(0, (0, 0, 39))]), ((0, 0, 0), [])], 0, true), (1, [(2, 10, 0), (0, 0, 39)], [((0, -1, 39), [])], 2, false)]) (rk_look_ok _ (List.forall_mem_cons.mpr ⟨c_X11_isSocket base l cI c1 c2 c3 c4 c5 D ad adV, List.forall_mem_cons.mpr ⟨c_X10_part base l cI c1 c2 c3 c4 c5 D ad adV, fun _ h => absurd h List.not_mem_nil⟩⟩))
    (M := rk_q_X11_unplug) (P := (cX11_unplug, 2, rk_flf rk_ftX11, rk_mlf [(23, 0, 1, 0), (41, 1, 2, 10)], rk_csf [], rk_ssf [], rk_acf [])) rfl rfl (by decide +kernel) (fun s args h hN => rk_flX11 (fun w hw => List.mem_cons_of_mem _ hw) h hN)
    (fun s args h hN => rk_MlOk_of (List.forall_mem_cons.mpr ⟨rk_mck_ok (fun w hw => List.mem_cons_of_mem _ hw) h hN rk_cm_X11_isSocket rk_lk_X11_23, List.forall_mem_cons.mpr ⟨rk_mck_ok (fun w hw => List.mem_cons_of_mem _ hw) h hN rk_cm_X10_part rk_lk_X11_41, fun _ h => absurd h List.not_mem_nil⟩⟩) (by decide +kernel))
    (fun s args h i v hi => absurd hi (by simp [rk_csf])) (fun s hN i k hi => absurd hi (by simp [rk_ssf, rk_lk])) (fun s args h idx hi => absurd hi (by simp [rk_acf]))
    (rk := 1) ⟨fun h => absurd h (by decide), fun _ => rfl, fun h => absurd h (by decide), fun h => absurd h (by decide)⟩ (cs := []) (fuel := 3000) (by decide +kernel)
def rk_q_X11_broken : rk_Mt := (yX11_broken, cX11_broken, 4, (some .boolean), 1, 20)
theorem c_X11_broken : rk_Mc base l cI c1 c2 c3 c4 c5 D ad adV rk_q_X11_broken [(2, 11, 0), (0, -2147483648, 2147483647), (0, 0, 1)] [((0, 0, 1), [])] 0 false :=
  rk_chk_ok (rk_hER ad) (ap := (5, 4)) (rk_hap cI c1 c2 c3 c4 c5) (rk_hNw base ad adV) (rk_hNc base ad adV) (mt := rk_mt [rk_q_X11_isSocket]) (ctr := rk_look [(0, [(0, -2147483648, 2147483647)], [((0, 1, 1), [(0, (0, 0, 39))]), ((0, 0, 0), [])], 0, true)]) (rk_look_ok _ (List.forall_mem_cons.mpr ⟨c_X11_isSocket base l cI c1 c2 c3 c4 c5 D ad adV, fun _ h => absurd h List.not_mem_nil⟩))
    (M := rk_q_X11_broken) (P := (cX11_broken, 4, rk_flf rk_ftX11, rk_mlf [(23, 0, 1, 0)], rk_csf [], rk_ssf [], rk_acf [])) rfl rfl (by decide +kernel) (fun s args h hN => rk_flX11 (fun w hw => List.mem_cons_of_mem _ hw) h hN)
    (fun s args h hN => rk_MlOk_of (List.forall_mem_cons.mpr ⟨rk_mck_ok (fun w hw => List.mem_cons_of_mem _ hw) h hN rk_cm_X11_isSocket rk_lk_X11_23, fun _ h => absurd h List.not_mem_nil⟩) (by decide +kernel))
    (fun s args h i v hi => absurd hi (by simp [rk_csf])) (fun s hN i k hi => absurd hi (by simp [rk_ssf, rk_lk])) (fun s args h idx hi => absurd hi (by simp [rk_acf]))
    (rk := 2) ⟨fun h => absurd h (by decide), fun h => absurd h (by decide), fun _ => rfl, fun h => absurd h (by decide)⟩ (cs := []) (fuel := 3000) (by decide +kernel)
def rk_q_X11_turn : rk_Mt := (yX11_turn, cX11_turn, 3, (some .boolean), 4, 90)
theorem rk_lk_X11_52 : rk_mck RX11 52 rk_q_X10_settle 2 10 121 (627, false) 576 577 = true := by decide +kernel
theorem c_X11_turn : rk_Mc base l cI c1 c2 c3 c4 c5 D ad adV rk_q_X11_turn [(2, 11, 0), (0, -2147483648, 2147483647), (0, 0, 1)] [((0, 0, 1), [])] 1 false :=
  rk_chk_ok (rk_hER ad) (ap := (5, 4)) (rk_hap cI c1 c2 c3 c4 c5) (rk_hNw base ad adV) (rk_hNc base ad adV) (mt := rk_mt [rk_q_X11_isSocket, rk_q_X10_settle]) (ctr := rk_look [(0, [(0, -2147483648, 2147483647)], [((0, 1, 1), [(0, (0, 0, 39))]), ((0, 0, 0), [])], 0, true), (1, [(2, 10, 0), (0, 0, 39)], [((9, 0, 0), [])], 1, false)]) (rk_look_ok _ (List.forall_mem_cons.mpr ⟨c_X11_isSocket base l cI c1 c2 c3 c4 c5 D ad adV, List.forall_mem_cons.mpr ⟨c_X10_settle base l cI c1 c2 c3 c4 c5 D ad adV, fun _ h => absurd h List.not_mem_nil⟩⟩))
    (M := rk_q_X11_turn) (P := (cX11_turn, 3, rk_flf rk_ftX11, rk_mlf [(23, 0, 1, 0), (52, 1, 2, 10)], rk_csf [], rk_ssf [], rk_acf [])) rfl rfl (by decide +kernel) (fun s args h hN => rk_flX11 (fun w hw => List.mem_cons_of_mem _ hw) h hN)
    (fun s args h hN => rk_MlOk_of (List.forall_mem_cons.mpr ⟨rk_mck_ok (fun w hw => List.mem_cons_of_mem _ hw) h hN rk_cm_X11_isSocket rk_lk_X11_23, List.forall_mem_cons.mpr ⟨rk_mck_ok (fun w hw => List.mem_cons_of_mem _ hw) h hN rk_cm_X10_settle rk_lk_X11_52, fun _ h => absurd h List.not_mem_nil⟩⟩) (by decide +kernel))
    (fun s args h i v hi => absurd hi (by simp [rk_csf])) (fun s hN i k hi => absurd hi (by simp [rk_ssf, rk_lk])) (fun s args h idx hi => absurd hi (by simp [rk_acf]))
    (rk := 2) ⟨fun h => absurd h (by decide), fun h => absurd h (by decide), fun _ => rfl, fun h => absurd h (by decide)⟩ (cs := []) (fuel := 3000) (by decide +kernel)
def rk_q_X11_watch : rk_Mt := (yX11_watch, cX11_watch, 2, (some .boolean), 0, 0)
theorem c_X11_watch : rk_Mc base l cI c1 c2 c3 c4 c5 D ad adV rk_q_X11_watch [(2, 11, 0), (0, -2147483648, 2147483647)] [((0, 0, 1), [])] 0 false :=
  rk_chk_ok (rk_hER ad) (ap := (5, 4)) (rk_hap cI c1 c2 c3 c4 c5) (rk_hNw base ad adV) (rk_hNc base ad adV) (mt := rk_mt []) (ctr := rk_look []) (rk_look_ok _ (fun _ h => absurd h List.not_mem_nil))
    (M := rk_q_X11_watch) (P := (cX11_watch, 2, rk_flf rk_ftX11, rk_mlf [], rk_csf [], rk_ssf [], rk_acf [])) rfl rfl (by decide +kernel) (fun s args h hN => rk_flX11 (fun w hw => List.mem_cons_of_mem _ hw) h hN)
    (fun s args h hN => rk_MlOk_of (fun _ h => absurd h List.not_mem_nil) (by decide +kernel))
    (fun s args h i v hi => absurd hi (by simp [rk_csf])) (fun s hN i k hi => absurd hi (by simp [rk_ssf, rk_lk])) (fun s args h idx hi => absurd hi (by simp [rk_acf]))
    (rk := 2) ⟨fun h => absurd h (by decide), fun h => absurd h (by decide), fun _ => rfl, fun h => absurd h (by decide)⟩ (cs := []) (fuel := 3000) (by decide +kernel)
def rk_q_X11_odds : rk_Mt := (yX11_odds, cX11_odds, 2, (some .boolean), 0, 0)
theorem c_X11_odds : rk_Mc base l cI c1 c2 c3 c4 c5 D ad adV rk_q_X11_odds [(2, 11, 0), (0, -2147483648, 2147483647)] [((0, 0, 1), [])] 0 false :=
  rk_chk_ok (rk_hER ad) (ap := (5, 4)) (rk_hap cI c1 c2 c3 c4 c5) (rk_hNw base ad adV) (rk_hNc base ad adV) (mt := rk_mt []) (ctr := rk_look []) (rk_look_ok _ (fun _ h => absurd h List.not_mem_nil))
    (M := rk_q_X11_odds) (P := (cX11_odds, 2, rk_flf rk_ftX11, rk_mlf [], rk_csf [], rk_ssf [], rk_acf [])) rfl rfl (by decide +kernel) (fun s args h hN => rk_flX11 (fun w hw => List.mem_cons_of_mem _ hw) h hN)
    (fun s args h hN => rk_MlOk_of (fun _ h => absurd h List.not_mem_nil) (by decide +kernel))
    (fun s args h i v hi => absurd hi (by simp [rk_csf])) (fun s hN i k hi => absurd hi (by simp [rk_ssf, rk_lk])) (fun s args h idx hi => absurd hi (by simp [rk_acf]))
    (rk := 2) ⟨fun h => absurd h (by decide), fun h => absurd h (by decide), fun _ => rfl, fun h => absurd h (by decide)⟩ (cs := []) (fuel := 3000) (by decide +kernel)
def rk_q_X11_state : rk_Mt := (yX11_state, cX11_state, 3, (some .int), 0, 0)
theorem c_X11_state : rk_Mc base l cI c1 c2 c3 c4 c5 D ad adV rk_q_X11_state [(2, 11, 0), (0, -2147483648, 2147483647)] [((0, -2147483648, 2147483647), [])] 0 false :=
  rk_chk_ok (rk_hER ad) (ap := (5, 4)) (rk_hap cI c1 c2 c3 c4 c5) (rk_hNw base ad adV) (rk_hNc base ad adV) (mt := rk_mt []) (ctr := rk_look []) (rk_look_ok _ (fun _ h => absurd h List.not_mem_nil))
    (M := rk_q_X11_state) (P := (cX11_state, 3, rk_flf rk_ftX11, rk_mlf [], rk_csf [], rk_ssf [], rk_acf [])) rfl rfl (by decide +kernel) (fun s args h hN => rk_flX11 (fun w hw => List.mem_cons_of_mem _ hw) h hN)
    (fun s args h hN => rk_MlOk_of (fun _ h => absurd h List.not_mem_nil) (by decide +kernel))
    (fun s args h i v hi => absurd hi (by simp [rk_csf])) (fun s hN i k hi => absurd hi (by simp [rk_ssf, rk_lk])) (fun s args h idx hi => absurd hi (by simp [rk_acf]))
    (rk := 1) ⟨fun h => absurd h (by decide), fun _ => rfl, fun h => absurd h (by decide), fun h => absurd h (by decide)⟩ (cs := []) (fuel := 3000) (by decide +kernel)
def rk_q_X11_isRouter : rk_Mt := (yX11_isRouter, cX11_isRouter, 1, (some .boolean), 0, 0)
theorem c_X11_isRouter : rk_Mc base l cI c1 c2 c3 c4 c5 D ad adV rk_q_X11_isRouter [(0, -2147483648, 2147483647)] [((0, 1, 1), [(0, (0, 0, 3))]), ((0, 0, 0), [])] 0 true :=
  rk_chk_ok (rk_hER ad) (ap := (5, 4)) (rk_hap cI c1 c2 c3 c4 c5) (rk_hNw base ad adV) (rk_hNc base ad adV) (mt := rk_mt []) (ctr := rk_look []) (rk_look_ok _ (fun _ h => absurd h List.not_mem_nil))
    (M := rk_q_X11_isRouter) (P := (cX11_isRouter, 1, rk_flf rk_ftX11, rk_mlf [], rk_csf [], rk_ssf [], rk_acf [])) rfl rfl (by decide +kernel) (fun s args h hN => rk_flX11 (fun w hw => List.mem_cons_of_mem _ hw) h hN)
    (fun s args h hN => rk_MlOk_of (fun _ h => absurd h List.not_mem_nil) (by decide +kernel))
    (fun s args h i v hi => absurd hi (by simp [rk_csf])) (fun s hN i k hi => absurd hi (by simp [rk_ssf, rk_lk])) (fun s args h idx hi => absurd hi (by simp [rk_acf]))
    (rk := 2) ⟨fun h => absurd h (by decide), fun h => absurd h (by decide), fun _ => rfl, fun h => absurd h (by decide)⟩ (cs := []) (fuel := 3000) (by decide +kernel)
def rk_q_X11_isAddress : rk_Mt := (yX11_isAddress, cX11_isAddress, 1, (some .boolean), 0, 0)
theorem c_X11_isAddress : rk_Mc base l cI c1 c2 c3 c4 c5 D ad adV rk_q_X11_isAddress [(0, -2147483648, 2147483647)] [((0, 1, 1), [(0, (0, 32, 95))]), ((0, 0, 0), [])] 0 true :=
  rk_chk_ok (rk_hER ad) (ap := (5, 4)) (rk_hap cI c1 c2 c3 c4 c5) (rk_hNw base ad adV) (rk_hNc base ad adV) (mt := rk_mt []) (ctr := rk_look []) (rk_look_ok _ (fun _ h => absurd h List.not_mem_nil))
    (M := rk_q_X11_isAddress) (P := (cX11_isAddress, 1, rk_flf rk_ftX11, rk_mlf [], rk_csf [], rk_ssf [], rk_acf [])) rfl rfl (by decide +kernel) (fun s args h hN => rk_flX11 (fun w hw => List.mem_cons_of_mem _ hw) h hN)
    (fun s args h hN => rk_MlOk_of (fun _ h => absurd h List.not_mem_nil) (by decide +kernel))
    (fun s args h i v hi => absurd hi (by simp [rk_csf])) (fun s hN i k hi => absurd hi (by simp [rk_ssf, rk_lk])) (fun s args h idx hi => absurd hi (by simp [rk_acf]))
    (rk := 2) ⟨fun h => absurd h (by decide), fun h => absurd h (by decide), fun _ => rfl, fun h => absurd h (by decide)⟩ (cs := []) (fuel := 3000) (by decide +kernel)
def rk_q_X11_isPortSet : rk_Mt := (yX11_isPortSet, cX11_isPortSet, 1, (some .boolean), 0, 0)
theorem c_X11_isPortSet : rk_Mc base l cI c1 c2 c3 c4 c5 D ad adV rk_q_X11_isPortSet [(0, -2147483648, 2147483647)] [((0, 1, 1), [(0, (0, 0, 255))]), ((0, 0, 0), [])] 0 true :=
  rk_chk_ok (rk_hER ad) (ap := (5, 4)) (rk_hap cI c1 c2 c3 c4 c5) (rk_hNw base ad adV) (rk_hNc base ad adV) (mt := rk_mt []) (ctr := rk_look []) (rk_look_ok _ (fun _ h => absurd h List.not_mem_nil))
    (M := rk_q_X11_isPortSet) (P := (cX11_isPortSet, 1, rk_flf rk_ftX11, rk_mlf [], rk_csf [], rk_ssf [], rk_acf [])) rfl rfl (by decide +kernel) (fun s args h hN => rk_flX11 (fun w hw => List.mem_cons_of_mem _ hw) h hN)
    (fun s args h hN => rk_MlOk_of (fun _ h => absurd h List.not_mem_nil) (by decide +kernel))
    (fun s args h i v hi => absurd hi (by simp [rk_csf])) (fun s hN i k hi => absurd hi (by simp [rk_ssf, rk_lk])) (fun s args h idx hi => absurd hi (by simp [rk_acf]))
    (rk := 2) ⟨fun h => absurd h (by decide), fun h => absurd h (by decide), fun _ => rfl, fun h => absurd h (by decide)⟩ (cs := []) (fuel := 3000) (by decide +kernel)
def rk_q_X6_write : rk_Mt := (yX6_write, cX6_write, 4, (some .boolean), 1, 20)
theorem rk_cm_X11_isAddress : Jvm.Cond.code rk_q_X11_isAddress.1 rk_q_X11_isAddress.2.1 rk_q_X11_isAddress.2.2.1 rk_q_X11_isAddress.2.2.2.1 ∈ rk_tbl := rk_tat_ok (i := 653) (by decide +kernel)
theorem rk_lk_X6_57 : rk_mck RX6 57 rk_q_X11_isAddress 1 0 120 (9, true) 652 0 = true := by decide +kernel
theorem rk_cm_X11_isPortSet : Jvm.Cond.code rk_q_X11_isPortSet.1 rk_q_X11_isPortSet.2.1 rk_q_X11_isPortSet.2.2.1 rk_q_X11_isPortSet.2.2.2.1 ∈ rk_tbl := rk_tat_ok (i := 656) (by decide +kernel)
theorem rk_lk_X6_61 : rk_mck RX6 61 rk_q_X11_isPortSet 1 0 120 (10, true) 655 0 = true := by decide +kernel
theorem c_X6_write : rk_Mc base l cI c1 c2 c3 c4 c5 D ad adV rk_q_X6_write [(2, 5, 0), (0, -2147483648, 2147483647), (0, -2147483648, 2147483647), (0, 0, 1)] [((0, 0, 1), [])] 0 false :=
  rk_chk_ok (rk_hER ad) (ap := (5, 4)) (rk_hap cI c1 c2 c3 c4 c5) (rk_hNw base ad adV) (rk_hNc base ad adV) (mt := rk_mt [rk_q_X11_isAddress, rk_q_X11_isPortSet]) (ctr := rk_look [(0, [(0, -2147483648, 2147483647)], [((0, 1, 1), [(0, (0, 32, 95))]), ((0, 0, 0), [])], 0, true), (1, [(0, -2147483648, 2147483647)], [((0, 1, 1), [(0, (0, 0, 255))]), ((0, 0, 0), [])], 0, true)]) (rk_look_ok _ (List.forall_mem_cons.mpr ⟨c_X11_isAddress base l cI c1 c2 c3 c4 c5 D ad adV, List.forall_mem_cons.mpr ⟨c_X11_isPortSet base l cI c1 c2 c3 c4 c5 D ad adV, fun _ h => absurd h List.not_mem_nil⟩⟩))
    (M := rk_q_X6_write) (P := (cX6_write, 4, rk_flf rk_ftX6, rk_mlf [(57, 0, 1, 0), (61, 1, 1, 0)], rk_csf [], rk_ssf [], rk_acf [])) rfl rfl (by decide +kernel) (fun s args h hN => rk_flX6 (fun w hw => List.mem_cons_of_mem _ hw) h hN)
    (fun s args h hN => rk_MlOk_of (List.forall_mem_cons.mpr ⟨rk_mck_ok (fun w hw => List.mem_cons_of_mem _ hw) h hN rk_cm_X11_isAddress rk_lk_X6_57, List.forall_mem_cons.mpr ⟨rk_mck_ok (fun w hw => List.mem_cons_of_mem _ hw) h hN rk_cm_X11_isPortSet rk_lk_X6_61, fun _ h => absurd h List.not_mem_nil⟩⟩) (by decide +kernel))
    (fun s args h i v hi => absurd hi (by simp [rk_csf])) (fun s hN i k hi => absurd hi (by simp [rk_ssf, rk_lk])) (fun s args h idx hi => absurd hi (by simp [rk_acf]))
    (rk := 2) ⟨fun h => absurd h (by decide), fun h => absurd h (by decide), fun _ => rfl, fun h => absurd h (by decide)⟩ (cs := []) (fuel := 3000) (by decide +kernel)
def rk_q_X11_table : rk_Mt := (yX11_table, cX11_table, 5, (some .boolean), 2, 43)
theorem rk_cm_X11_isRouter : Jvm.Cond.code rk_q_X11_isRouter.1 rk_q_X11_isRouter.2.1 rk_q_X11_isRouter.2.2.1 rk_q_X11_isRouter.2.2.2.1 ∈ rk_tbl := rk_tat_ok (i := 646) (by decide +kernel)
theorem rk_lk_X11_65 : rk_mck RX11 65 rk_q_X11_isRouter 1 0 120 (644, false) 645 0 = true := by decide +kernel
theorem rk_cm_X6_write : Jvm.Cond.code rk_q_X6_write.1 rk_q_X6_write.2.1 rk_q_X6_write.2.2.1 rk_q_X6_write.2.2.2.1 ∈ rk_tbl := rk_tat_ok (i := 650) (by decide +kernel)
theorem rk_lk_X11_72 : rk_mck RX11 72 rk_q_X6_write 4 6 127 (647, false) 648 649 = true := by decide +kernel
theorem c_X11_table : rk_Mc base l cI c1 c2 c3 c4 c5 D ad adV rk_q_X11_table [(2, 11, 0), (0, -2147483648, 2147483647), (0, -2147483648, 2147483647), (0, -2147483648, 2147483647), (0, 0, 1)] [((0, 0, 1), [])] 0 false :=
  rk_chk_ok (rk_hER ad) (ap := (5, 4)) (rk_hap cI c1 c2 c3 c4 c5) (rk_hNw base ad adV) (rk_hNc base ad adV) (mt := rk_mt [rk_q_X11_isRouter, rk_q_X6_write]) (ctr := rk_look [(0, [(0, -2147483648, 2147483647)], [((0, 1, 1), [(0, (0, 0, 3))]), ((0, 0, 0), [])], 0, true), (1, [(2, 5, 0), (0, -2147483648, 2147483647), (0, -2147483648, 2147483647), (0, 0, 1)], [((0, 0, 1), [])], 0, false)]) (rk_look_ok _ (List.forall_mem_cons.mpr ⟨c_X11_isRouter base l cI c1 c2 c3 c4 c5 D ad adV, List.forall_mem_cons.mpr ⟨c_X6_write base l cI c1 c2 c3 c4 c5 D ad adV, fun _ h => absurd h List.not_mem_nil⟩⟩))
    (M := rk_q_X11_table) (P := (cX11_table, 5, rk_flf rk_ftX11, rk_mlf [(65, 0, 1, 0), (72, 1, 4, 6)], rk_csf [], rk_ssf [], rk_acf [])) rfl rfl (by decide +kernel) (fun s args h hN => rk_flX11 (fun w hw => List.mem_cons_of_mem _ hw) h hN)
    (fun s args h hN => rk_MlOk_of (List.forall_mem_cons.mpr ⟨rk_mck_ok (fun w hw => List.mem_cons_of_mem _ hw) h hN rk_cm_X11_isRouter rk_lk_X11_65, List.forall_mem_cons.mpr ⟨rk_mck_ok (fun w hw => List.mem_cons_of_mem _ hw) h hN rk_cm_X6_write rk_lk_X11_72, fun _ h => absurd h List.not_mem_nil⟩⟩) (by decide +kernel))
    (fun s args h i v hi => absurd hi (by simp [rk_csf])) (fun s hN i k hi => absurd hi (by simp [rk_ssf, rk_lk])) (fun s args h idx hi => absurd hi (by simp [rk_acf]))
    (rk := 2) ⟨fun h => absurd h (by decide), fun h => absurd h (by decide), fun _ => rfl, fun h => absurd h (by decide)⟩ (cs := []) (fuel := 3000) (by decide +kernel)
def rk_q_X11_isEnd : rk_Mt := (yX11_isEnd, cX11_isEnd, 1, (some .boolean), 0, 0)
theorem c_X11_isEnd : rk_Mc base l cI c1 c2 c3 c4 c5 D ad adV rk_q_X11_isEnd [(0, -2147483648, 2147483647)] [((0, 1, 1), [(0, (0, 0, 7))]), ((0, 0, 0), [])] 0 true :=
  rk_chk_ok (rk_hER ad) (ap := (5, 4)) (rk_hap cI c1 c2 c3 c4 c5) (rk_hNw base ad adV) (rk_hNc base ad adV) (mt := rk_mt []) (ctr := rk_look []) (rk_look_ok _ (fun _ h => absurd h List.not_mem_nil))
    (M := rk_q_X11_isEnd) (P := (cX11_isEnd, 1, rk_flf rk_ftX11, rk_mlf [], rk_csf [], rk_ssf [], rk_acf [])) rfl rfl (by decide +kernel) (fun s args h hN => rk_flX11 (fun w hw => List.mem_cons_of_mem _ hw) h hN)
    (fun s args h hN => rk_MlOk_of (fun _ h => absurd h List.not_mem_nil) (by decide +kernel))
    (fun s args h i v hi => absurd hi (by simp [rk_csf])) (fun s hN i k hi => absurd hi (by simp [rk_ssf, rk_lk])) (fun s args h idx hi => absurd hi (by simp [rk_acf]))
    (rk := 2) ⟨fun h => absurd h (by decide), fun h => absurd h (by decide), fun _ => rfl, fun h => absurd h (by decide)⟩ (cs := []) (fuel := 3000) (by decide +kernel)
def rk_q_X11_hold : rk_Mt := (yX11_hold, cX11_hold, 3, (some .boolean), 1, 20)
theorem rk_cm_X11_isEnd : Jvm.Cond.code rk_q_X11_isEnd.1 rk_q_X11_isEnd.2.1 rk_q_X11_isEnd.2.2.1 rk_q_X11_isEnd.2.2.2.1 ∈ rk_tbl := rk_tat_ok (i := 663) (by decide +kernel)
theorem rk_lk_X11_78 : rk_mck RX11 78 rk_q_X11_isEnd 1 0 120 (661, false) 662 0 = true := by decide +kernel
theorem c_X11_hold : rk_Mc base l cI c1 c2 c3 c4 c5 D ad adV rk_q_X11_hold [(2, 11, 0), (0, -2147483648, 2147483647), (0, 0, 1)] [((0, 0, 1), [])] 0 false :=
  rk_chk_ok (rk_hER ad) (ap := (5, 4)) (rk_hap cI c1 c2 c3 c4 c5) (rk_hNw base ad adV) (rk_hNc base ad adV) (mt := rk_mt [rk_q_X11_isEnd]) (ctr := rk_look [(0, [(0, -2147483648, 2147483647)], [((0, 1, 1), [(0, (0, 0, 7))]), ((0, 0, 0), [])], 0, true)]) (rk_look_ok _ (List.forall_mem_cons.mpr ⟨c_X11_isEnd base l cI c1 c2 c3 c4 c5 D ad adV, fun _ h => absurd h List.not_mem_nil⟩))
    (M := rk_q_X11_hold) (P := (cX11_hold, 3, rk_flf rk_ftX11, rk_mlf [(78, 0, 1, 0)], rk_csf [], rk_ssf [], rk_acf [])) rfl rfl (by decide +kernel) (fun s args h hN => rk_flX11 (fun w hw => List.mem_cons_of_mem _ hw) h hN)
    (fun s args h hN => rk_MlOk_of (List.forall_mem_cons.mpr ⟨rk_mck_ok (fun w hw => List.mem_cons_of_mem _ hw) h hN rk_cm_X11_isEnd rk_lk_X11_78, fun _ h => absurd h List.not_mem_nil⟩) (by decide +kernel))
    (fun s args h i v hi => absurd hi (by simp [rk_csf])) (fun s hN i k hi => absurd hi (by simp [rk_ssf, rk_lk])) (fun s args h idx hi => absurd hi (by simp [rk_acf]))
    (rk := 2) ⟨fun h => absurd h (by decide), fun h => absurd h (by decide), fun _ => rfl, fun h => absurd h (by decide)⟩ (cs := []) (fuel := 3000) (by decide +kernel)
def rk_q_X10_draw : rk_Mt := (yX10_draw, cX10_draw, 1, (some .int), 0, 0)
theorem c_X10_draw : rk_Mc base l cI c1 c2 c3 c4 c5 D ad adV rk_q_X10_draw [(2, 10, 0)] [((0, 0, 999), [])] 0 false :=
  rk_chk_ok (rk_hER ad) (ap := (5, 4)) (rk_hap cI c1 c2 c3 c4 c5) (rk_hNw base ad adV) (rk_hNc base ad adV) (mt := rk_mt []) (ctr := rk_look []) (rk_look_ok _ (fun _ h => absurd h List.not_mem_nil))
    (M := rk_q_X10_draw) (P := (cX10_draw, 1, rk_flf rk_ftX10, rk_mlf [], rk_csf [(219, 1664525), (220, 1013904223)], rk_ssf [], rk_acf [])) rfl rfl (by decide +kernel) (fun s args h hN => rk_flX10 (fun w hw => List.mem_cons_of_mem _ hw) h hN)
    (fun s args h hN => rk_MlOk_of (fun _ h => absurd h List.not_mem_nil) (by decide +kernel))
    (fun s args h i v hi => (show ∀ q ∈ [(219, (1664525 : Int32)), (220, (1013904223 : Int32))], (Jvm.Cond.constant RX10 q.1 q.2).before args s = true from List.forall_mem_cons.mpr ⟨h _ (List.mem_cons_of_mem _ (rk_tat_ok (i := 681) (by decide +kernel))), List.forall_mem_cons.mpr ⟨h _ (List.mem_cons_of_mem _ (rk_tat_ok (i := 682) (by decide +kernel))), fun _ h => absurd h List.not_mem_nil⟩⟩) (i, v) (rk_csf_ok _ hi)) (fun s hN i k hi => absurd hi (by simp [rk_ssf, rk_lk])) (fun s args h idx hi => absurd hi (by simp [rk_acf]))
    (rk := 1) ⟨fun h => absurd h (by decide), fun _ => rfl, fun h => absurd h (by decide), fun h => absurd h (by decide)⟩ (cs := []) (fuel := 3000) (by decide +kernel)
def rk_q_X10_hearCredit : rk_Mt := (yX10_hearCredit, cX10_hearCredit, 3, none, 3, 67)
theorem c_X10_hearCredit : rk_Mc base l cI c1 c2 c3 c4 c5 D ad adV rk_q_X10_hearCredit [(2, 10, 0), (0, 0, 39)] [((9, 0, 0), [])] 1 false :=
  rk_chk_ok (rk_hER ad) (ap := (5, 4)) (rk_hap cI c1 c2 c3 c4 c5) (rk_hNw base ad adV) (rk_hNc base ad adV) (mt := rk_mt [rk_q_X10_leave]) (ctr := rk_look [(0, [(2, 10, 0), (0, 0, 39), (0, -2147483648, 2147483647)], [((9, 0, 0), [])], 1, false)]) (rk_look_ok _ (List.forall_mem_cons.mpr ⟨c_X10_leave base l cI c1 c2 c3 c4 c5 D ad adV, fun _ h => absurd h List.not_mem_nil⟩))
    (M := rk_q_X10_hearCredit) (P := (cX10_hearCredit, 3, rk_flf rk_ftX10, rk_mlf [(109, 0, 3, 10)], rk_csf [], rk_ssf [], rk_acf [])) rfl rfl (by decide +kernel) (fun s args h hN => rk_flX10 (fun w hw => List.mem_cons_of_mem _ hw) h hN)
    (fun s args h hN => rk_MlOk_of (List.forall_mem_cons.mpr ⟨rk_mck_ok (fun w hw => List.mem_cons_of_mem _ hw) h hN rk_cm_X10_leave rk_lk_X10_109, fun _ h => absurd h List.not_mem_nil⟩) (by decide +kernel))
    (fun s args h i v hi => absurd hi (by simp [rk_csf])) (fun s hN i k hi => absurd hi (by simp [rk_ssf, rk_lk])) (fun s args h idx hi => absurd hi (by simp [rk_acf]))
    (rk := 0) ⟨fun _ => rfl, fun h => absurd h (by decide), fun h => absurd h (by decide), fun h => absurd h (by decide)⟩ (cs := []) (fuel := 3000) (by decide +kernel)
def rk_q_X0_next : rk_Mt := (yX0_next, cX0_next, 1, (some .int), 0, 0)
theorem c_X0_next : rk_Mc base l cI c1 c2 c3 c4 c5 D ad adV rk_q_X0_next [(2, 0, 0)] [((0, -2147483648, 2147483647), [])] 0 true :=
  rk_chk_ok (rk_hER ad) (ap := (5, 4)) (rk_hap cI c1 c2 c3 c4 c5) (rk_hNw base ad adV) (rk_hNc base ad adV) (mt := rk_mt []) (ctr := rk_look []) (rk_look_ok _ (fun _ h => absurd h List.not_mem_nil))
    (M := rk_q_X0_next) (P := (cX0_next, 1, rk_flf rk_ftX0, rk_mlf [], rk_csf [], rk_ssf [], rk_acf [])) rfl rfl (by decide +kernel) (fun s args h hN => rk_flX0 (fun w hw => List.mem_cons_of_mem _ hw) h hN)
    (fun s args h hN => rk_MlOk_of (fun _ h => absurd h List.not_mem_nil) (by decide +kernel))
    (fun s args h i v hi => absurd hi (by simp [rk_csf])) (fun s hN i k hi => absurd hi (by simp [rk_ssf, rk_lk])) (fun s args h idx hi => absurd hi (by simp [rk_acf]))
    (rk := 1) ⟨fun h => absurd h (by decide), fun _ => rfl, fun h => absurd h (by decide), fun h => absurd h (by decide)⟩ (cs := []) (fuel := 3000) (by decide +kernel)
def rk_q_X0_hears : rk_Mt := (yX0_hears, cX0_hears, 3, (some .boolean), 1, 20)
theorem rk_cm_X0_next : Jvm.Cond.code rk_q_X0_next.1 rk_q_X0_next.2.1 rk_q_X0_next.2.2.1 rk_q_X0_next.2.2.2.1 ∈ rk_tbl := rk_tat_ok (i := 698) (by decide +kernel)
theorem rk_lk_X0_21 : rk_mck RX0 21 rk_q_X0_next 1 1 128 (695, false) 696 697 = true := by decide +kernel
theorem c_X0_hears : rk_Mc base l cI c1 c2 c3 c4 c5 D ad adV rk_q_X0_hears [(2, 0, 0), (0, -2147483648, 2147483647)] [((0, 0, 1), [])] 0 false :=
  rk_chk_ok (rk_hER ad) (ap := (5, 4)) (rk_hap cI c1 c2 c3 c4 c5) (rk_hNw base ad adV) (rk_hNc base ad adV) (mt := rk_mt [rk_q_X0_next]) (ctr := rk_look [(0, [(2, 0, 0)], [((0, -2147483648, 2147483647), [])], 0, true)]) (rk_look_ok _ (List.forall_mem_cons.mpr ⟨c_X0_next base l cI c1 c2 c3 c4 c5 D ad adV, fun _ h => absurd h List.not_mem_nil⟩))
    (M := rk_q_X0_hears) (P := (cX0_hears, 3, rk_flf rk_ftX0, rk_mlf [(21, 0, 1, 1)], rk_csf [], rk_ssf [], rk_acf [])) rfl rfl (by decide +kernel) (fun s args h hN => rk_flX0 (fun w hw => List.mem_cons_of_mem _ hw) h hN)
    (fun s args h hN => rk_MlOk_of (List.forall_mem_cons.mpr ⟨rk_mck_ok (fun w hw => List.mem_cons_of_mem _ hw) h hN rk_cm_X0_next rk_lk_X0_21, fun _ h => absurd h List.not_mem_nil⟩) (by decide +kernel))
    (fun s args h i v hi => absurd hi (by simp [rk_csf])) (fun s hN i k hi => absurd hi (by simp [rk_ssf, rk_lk])) (fun s args h idx hi => absurd hi (by simp [rk_acf]))
    (rk := 2) ⟨fun h => absurd h (by decide), fun h => absurd h (by decide), fun _ => rfl, fun h => absurd h (by decide)⟩ (cs := []) (fuel := 3000) (by decide +kernel)
def rk_q_X10_hearTime : rk_Mt := (yX10_hearTime, cX10_hearTime, 5, none, 2, 42)
theorem rk_cm_X0_hears : Jvm.Cond.code rk_q_X0_hears.1 rk_q_X0_hears.2.1 rk_q_X0_hears.2.2.1 rk_q_X0_hears.2.2.2.1 ∈ rk_tbl := rk_tat_ok (i := 694) (by decide +kernel)
theorem rk_lk_X10_225 : rk_mck RX10 225 rk_q_X0_hears 2 1 128 (691, false) 692 693 = true := by decide +kernel
theorem c_X10_hearTime : rk_Mc base l cI c1 c2 c3 c4 c5 D ad adV rk_q_X10_hearTime [(2, 10, 0), (0, 0, 39), (0, -2147483648, 2147483647)] [((9, 0, 0), [])] 0 false :=
  rk_chk_ok (rk_hER ad) (ap := (5, 4)) (rk_hap cI c1 c2 c3 c4 c5) (rk_hNw base ad adV) (rk_hNc base ad adV) (mt := rk_mt [rk_q_X0_hears, rk_q_X10_baseOf]) (ctr := rk_look [(0, [(2, 0, 0), (0, -2147483648, 2147483647)], [((0, 0, 1), [])], 0, false), (1, [(0, 0, 31)], [((0, 0, 24), [])], 0, true)]) (rk_look_ok _ (List.forall_mem_cons.mpr ⟨c_X0_hears base l cI c1 c2 c3 c4 c5 D ad adV, List.forall_mem_cons.mpr ⟨c_X10_baseOf base l cI c1 c2 c3 c4 c5 D ad adV, fun _ h => absurd h List.not_mem_nil⟩⟩))
    (M := rk_q_X10_hearTime) (P := (cX10_hearTime, 5, rk_flf rk_ftX10, rk_mlf [(161, 1, 1, 0), (225, 0, 2, 1)], rk_csf [], rk_ssf [], rk_acf [])) rfl rfl (by decide +kernel) (fun s args h hN => rk_flX10 (fun w hw => List.mem_cons_of_mem _ hw) h hN)
    (fun s args h hN => rk_MlOk_of (List.forall_mem_cons.mpr ⟨rk_mck_ok (fun w hw => List.mem_cons_of_mem _ hw) h hN rk_cm_X10_baseOf rk_lk_X10_161, List.forall_mem_cons.mpr ⟨rk_mck_ok (fun w hw => List.mem_cons_of_mem _ hw) h hN rk_cm_X0_hears rk_lk_X10_225, fun _ h => absurd h List.not_mem_nil⟩⟩) (by decide +kernel))
    (fun s args h i v hi => absurd hi (by simp [rk_csf])) (fun s hN i k hi => absurd hi (by simp [rk_ssf, rk_lk])) (fun s args h idx hi => absurd hi (by simp [rk_acf]))
    (rk := 0) ⟨fun _ => rfl, fun h => absurd h (by decide), fun h => absurd h (by decide), fun h => absurd h (by decide)⟩ (cs := [(60, [(2, 10, 0), (0, 0, 31), (0, -2147483648, 2147483647), (0, 1, 8), (4, 0, 0)], [], (8, [(3, -1)]), (0, []))]) (fuel := 3000) (by decide +kernel)
def rk_q_X10_hearData : rk_Mt := (yX10_hearData, cX10_hearData, 4, none, 3, 67)
theorem c_X10_hearData : rk_Mc base l cI c1 c2 c3 c4 c5 D ad adV rk_q_X10_hearData [(2, 10, 0), (0, 0, 39), (0, -2147483648, 2147483647)] [((9, 0, 0), [])] 1 false :=
  rk_chk_ok (rk_hER ad) (ap := (5, 4)) (rk_hap cI c1 c2 c3 c4 c5) (rk_hNw base ad adV) (rk_hNc base ad adV) (mt := rk_mt [rk_q_X10_leave, rk_q_X7_add]) (ctr := rk_look [(0, [(2, 10, 0), (0, 0, 39), (0, -2147483648, 2147483647)], [((9, 0, 0), [])], 1, false), (1, [(2, 6, 0), (0, -2147483648, 2147483647)], [((9, 0, 0), [])], 0, false)]) (rk_look_ok _ (List.forall_mem_cons.mpr ⟨c_X10_leave base l cI c1 c2 c3 c4 c5 D ad adV, List.forall_mem_cons.mpr ⟨c_X7_add_0 base l cI c1 c2 c3 c4 c5 D ad adV, fun _ h => absurd h List.not_mem_nil⟩⟩))
    (M := rk_q_X10_hearData) (P := (cX10_hearData, 4, rk_flf rk_ftX10, rk_mlf [(109, 0, 3, 10), (142, 1, 2, 7)], rk_csf [], rk_ssf [], rk_acf [])) rfl rfl (by decide +kernel) (fun s args h hN => rk_flX10 (fun w hw => List.mem_cons_of_mem _ hw) h hN)
    (fun s args h hN => rk_MlOk_of (List.forall_mem_cons.mpr ⟨rk_mck_ok (fun w hw => List.mem_cons_of_mem _ hw) h hN rk_cm_X10_leave rk_lk_X10_109, List.forall_mem_cons.mpr ⟨rk_mck_ok (fun w hw => List.mem_cons_of_mem _ hw) h hN rk_cm_X7_add rk_lk_X10_142, fun _ h => absurd h List.not_mem_nil⟩⟩) (by decide +kernel))
    (fun s args h i v hi => absurd hi (by simp [rk_csf])) (fun s hN i k hi => absurd hi (by simp [rk_ssf, rk_lk])) (fun s args h idx hi => absurd hi (by simp [rk_acf]))
    (rk := 0) ⟨fun _ => rfl, fun h => absurd h (by decide), fun h => absurd h (by decide), fun h => absurd h (by decide)⟩ (cs := []) (fuel := 3000) (by decide +kernel)
def rk_q_X10_hear : rk_Mt := (yX10_hear, cX10_hear, 4, none, 4, 90)
theorem rk_cm_X10_draw : Jvm.Cond.code rk_q_X10_draw.1 rk_q_X10_draw.2.1 rk_q_X10_draw.2.2.1 rk_q_X10_draw.2.2.2.1 ∈ rk_tbl := rk_tat_ok (i := 680) (by decide +kernel)
theorem rk_lk_X10_203 : rk_mck RX10 203 rk_q_X10_draw 1 10 121 (677, false) 679 2 = true := by decide +kernel
theorem rk_cm_X10_hearCredit : Jvm.Cond.code rk_q_X10_hearCredit.1 rk_q_X10_hearCredit.2.1 rk_q_X10_hearCredit.2.2.1 rk_q_X10_hearCredit.2.2.2.1 ∈ rk_tbl := rk_tat_ok (i := 686) (by decide +kernel)
theorem rk_lk_X10_210 : rk_mck RX10 210 rk_q_X10_hearCredit 2 10 121 (683, false) 685 3 = true := by decide +kernel
theorem rk_cm_X10_hearTime : Jvm.Cond.code rk_q_X10_hearTime.1 rk_q_X10_hearTime.2.1 rk_q_X10_hearTime.2.2.1 rk_q_X10_hearTime.2.2.2.1 ∈ rk_tbl := rk_tat_ok (i := 690) (by decide +kernel)
theorem rk_lk_X10_213 : rk_mck RX10 213 rk_q_X10_hearTime 3 10 121 (687, false) 689 4 = true := by decide +kernel
theorem rk_cm_X10_hearData : Jvm.Cond.code rk_q_X10_hearData.1 rk_q_X10_hearData.2.1 rk_q_X10_hearData.2.2.1 rk_q_X10_hearData.2.2.2.1 ∈ rk_tbl := rk_tat_ok (i := 702) (by decide +kernel)
theorem rk_lk_X10_216 : rk_mck RX10 216 rk_q_X10_hearData 3 10 121 (699, false) 701 5 = true := by decide +kernel
theorem c_X10_hear : rk_Mc base l cI c1 c2 c3 c4 c5 D ad adV rk_q_X10_hear [(2, 10, 0), (0, 0, 39)] [((9, 0, 0), [])] 2 false :=
  rk_chk_ok (rk_hER ad) (ap := (5, 4)) (rk_hap cI c1 c2 c3 c4 c5) (rk_hNw base ad adV) (rk_hNc base ad adV) (mt := rk_mt [rk_q_X3_add, rk_q_X10_leave, rk_q_X10_hearCredit, rk_q_X10_hearTime, rk_q_X10_hearData, rk_q_X11_isSocket, rk_q_X10_draw]) (ctr := rk_look [(0, [(2, 3, 0), (0, -2147483648, 2147483647), (0, -2147483648, 2147483647), (0, -2147483648, 2147483647)], [((9, 0, 0), [])], 1, false), (1, [(2, 10, 0), (0, 0, 39), (0, -2147483648, 2147483647)], [((9, 0, 0), [])], 1, false), (2, [(2, 10, 0), (0, 0, 39)], [((9, 0, 0), [])], 1, false), (3, [(2, 10, 0), (0, 0, 39), (0, -2147483648, 2147483647)], [((9, 0, 0), [])], 0, false), (4, [(2, 10, 0), (0, 0, 39), (0, -2147483648, 2147483647)], [((9, 0, 0), [])], 1, false), (5, [(0, -2147483648, 2147483647)], [((0, 1, 1), [(0, (0, 0, 39))]), ((0, 0, 0), [])], 0, true), (6, [(2, 10, 0)], [((0, 0, 999), [])], 0, false)]) (rk_look_ok _ (List.forall_mem_cons.mpr ⟨c_X3_add base l cI c1 c2 c3 c4 c5 D ad adV, List.forall_mem_cons.mpr ⟨c_X10_leave base l cI c1 c2 c3 c4 c5 D ad adV, List.forall_mem_cons.mpr ⟨c_X10_hearCredit base l cI c1 c2 c3 c4 c5 D ad adV, List.forall_mem_cons.mpr ⟨c_X10_hearTime base l cI c1 c2 c3 c4 c5 D ad adV, List.forall_mem_cons.mpr ⟨c_X10_hearData base l cI c1 c2 c3 c4 c5 D ad adV, List.forall_mem_cons.mpr ⟨c_X11_isSocket base l cI c1 c2 c3 c4 c5 D ad adV, List.forall_mem_cons.mpr ⟨c_X10_draw base l cI c1 c2 c3 c4 c5 D ad adV, fun _ h => absurd h List.not_mem_nil⟩⟩⟩⟩⟩⟩⟩))
    (M := rk_q_X10_hear) (P := (cX10_hear, 4, rk_flf rk_ftX10, rk_mlf [(96, 5, 1, 0), (109, 1, 3, 10), (119, 0, 4, 4), (203, 6, 1, 10), (210, 2, 2, 10), (213, 3, 3, 10), (216, 4, 3, 10)], rk_csf [], rk_ssf [], rk_acf [])) rfl rfl (by decide +kernel) (fun s args h hN => rk_flX10 (fun w hw => List.mem_cons_of_mem _ hw) h hN)
    (fun s args h hN => rk_MlOk_of (List.forall_mem_cons.mpr ⟨rk_mck_ok (fun w hw => List.mem_cons_of_mem _ hw) h hN rk_cm_X11_isSocket rk_lk_X10_96, List.forall_mem_cons.mpr ⟨rk_mck_ok (fun w hw => List.mem_cons_of_mem _ hw) h hN rk_cm_X10_leave rk_lk_X10_109, List.forall_mem_cons.mpr ⟨rk_mck_ok (fun w hw => List.mem_cons_of_mem _ hw) h hN rk_cm_X3_add rk_lk_X10_119, List.forall_mem_cons.mpr ⟨rk_mck_ok (fun w hw => List.mem_cons_of_mem _ hw) h hN rk_cm_X10_draw rk_lk_X10_203, List.forall_mem_cons.mpr ⟨rk_mck_ok (fun w hw => List.mem_cons_of_mem _ hw) h hN rk_cm_X10_hearCredit rk_lk_X10_210, List.forall_mem_cons.mpr ⟨rk_mck_ok (fun w hw => List.mem_cons_of_mem _ hw) h hN rk_cm_X10_hearTime rk_lk_X10_213, List.forall_mem_cons.mpr ⟨rk_mck_ok (fun w hw => List.mem_cons_of_mem _ hw) h hN rk_cm_X10_hearData rk_lk_X10_216, fun _ h => absurd h List.not_mem_nil⟩⟩⟩⟩⟩⟩⟩) (by decide +kernel))
    (fun s args h i v hi => absurd hi (by simp [rk_csf])) (fun s hN i k hi => absurd hi (by simp [rk_ssf, rk_lk])) (fun s args h idx hi => absurd hi (by simp [rk_acf]))
    (rk := 0) ⟨fun _ => rfl, fun h => absurd h (by decide), fun h => absurd h (by decide), fun h => absurd h (by decide)⟩ (cs := []) (fuel := 3000) (by decide +kernel)
def rk_q_X10_growOn : rk_Mt := (yX10_growOn, cX10_growOn, 3, none, 3, 67)
theorem c_X10_growOn : rk_Mc base l cI c1 c2 c3 c4 c5 D ad adV rk_q_X10_growOn [(2, 10, 0), (0, 0, 39)] [((9, 0, 0), [])] 1 false :=
  rk_chk_ok (rk_hER ad) (ap := (5, 4)) (rk_hap cI c1 c2 c3 c4 c5) (rk_hNw base ad adV) (rk_hNc base ad adV) (mt := rk_mt [rk_q_X8_enter, rk_q_X3_add, rk_q_X10_leave]) (ctr := rk_look [(0, [(2, 8, 0), (0, -2147483648, 2147483647)], [((9, 0, 0), [])], 0, false), (1, [(2, 3, 0), (0, -2147483648, 2147483647), (0, -2147483648, 2147483647), (0, -2147483648, 2147483647)], [((9, 0, 0), [])], 1, false), (2, [(2, 10, 0), (0, 0, 39), (0, -2147483648, 2147483647)], [((9, 0, 0), [])], 1, false)]) (rk_look_ok _ (List.forall_mem_cons.mpr ⟨c_X8_enter base l cI c1 c2 c3 c4 c5 D ad adV, List.forall_mem_cons.mpr ⟨c_X3_add base l cI c1 c2 c3 c4 c5 D ad adV, List.forall_mem_cons.mpr ⟨c_X10_leave base l cI c1 c2 c3 c4 c5 D ad adV, fun _ h => absurd h List.not_mem_nil⟩⟩⟩))
    (M := rk_q_X10_growOn) (P := (cX10_growOn, 3, rk_flf rk_ftX10, rk_mlf [(106, 0, 2, 8), (109, 2, 3, 10), (119, 1, 4, 4)], rk_csf [], rk_ssf [], rk_acf [])) rfl rfl (by decide +kernel) (fun s args h hN => rk_flX10 (fun w hw => List.mem_cons_of_mem _ hw) h hN)
    (fun s args h hN => rk_MlOk_of (List.forall_mem_cons.mpr ⟨rk_mck_ok (fun w hw => List.mem_cons_of_mem _ hw) h hN rk_cm_X8_enter rk_lk_X10_106, List.forall_mem_cons.mpr ⟨rk_mck_ok (fun w hw => List.mem_cons_of_mem _ hw) h hN rk_cm_X10_leave rk_lk_X10_109, List.forall_mem_cons.mpr ⟨rk_mck_ok (fun w hw => List.mem_cons_of_mem _ hw) h hN rk_cm_X3_add rk_lk_X10_119, fun _ h => absurd h List.not_mem_nil⟩⟩⟩) (by decide +kernel))
    (fun s args h i v hi => absurd hi (by simp [rk_csf])) (fun s hN i k hi => absurd hi (by simp [rk_ssf, rk_lk])) (fun s args h idx hi => absurd hi (by simp [rk_acf]))
    (rk := 0) ⟨fun _ => rfl, fun h => absurd h (by decide), fun h => absurd h (by decide), fun h => absurd h (by decide)⟩ (cs := []) (fuel := 3000) (by decide +kernel)
def rk_q_X10_grow : rk_Mt := (yX10_grow, cX10_grow, 3, none, 4, 89)
theorem rk_cm_X10_growOn : Jvm.Cond.code rk_q_X10_growOn.1 rk_q_X10_growOn.2.1 rk_q_X10_growOn.2.2.1 rk_q_X10_growOn.2.2.2.1 ∈ rk_tbl := rk_tat_ok (i := 710) (by decide +kernel)
theorem rk_lk_X10_240 : rk_mck RX10 240 rk_q_X10_growOn 2 10 121 (707, false) 709 7 = true := by decide +kernel
theorem c_X10_grow : rk_Mc base l cI c1 c2 c3 c4 c5 D ad adV rk_q_X10_grow [(2, 10, 0), (0, 0, 39)] [((9, 0, 0), [])] 2 false :=
  rk_chk_ok (rk_hER ad) (ap := (5, 4)) (rk_hap cI c1 c2 c3 c4 c5) (rk_hNw base ad adV) (rk_hNc base ad adV) (mt := rk_mt [rk_q_X8_enter, rk_q_X10_growOn, rk_q_X3_add, rk_q_X10_leave]) (ctr := rk_look [(0, [(2, 8, 0), (0, -2147483648, 2147483647)], [((9, 0, 0), [])], 0, false), (1, [(2, 10, 0), (0, 0, 39)], [((9, 0, 0), [])], 1, false), (2, [(2, 3, 0), (0, -2147483648, 2147483647), (0, -2147483648, 2147483647), (0, -2147483648, 2147483647)], [((9, 0, 0), [])], 1, false), (3, [(2, 10, 0), (0, 0, 39), (0, -2147483648, 2147483647)], [((9, 0, 0), [])], 1, false)]) (rk_look_ok _ (List.forall_mem_cons.mpr ⟨c_X8_enter base l cI c1 c2 c3 c4 c5 D ad adV, List.forall_mem_cons.mpr ⟨c_X10_growOn base l cI c1 c2 c3 c4 c5 D ad adV, List.forall_mem_cons.mpr ⟨c_X3_add base l cI c1 c2 c3 c4 c5 D ad adV, List.forall_mem_cons.mpr ⟨c_X10_leave base l cI c1 c2 c3 c4 c5 D ad adV, fun _ h => absurd h List.not_mem_nil⟩⟩⟩⟩))
    (M := rk_q_X10_grow) (P := (cX10_grow, 3, rk_flf rk_ftX10, rk_mlf [(106, 0, 2, 8), (109, 3, 3, 10), (119, 2, 4, 4), (240, 1, 2, 10)], rk_csf [], rk_ssf [], rk_acf [])) rfl rfl (by decide +kernel) (fun s args h hN => rk_flX10 (fun w hw => List.mem_cons_of_mem _ hw) h hN)
    (fun s args h hN => rk_MlOk_of (List.forall_mem_cons.mpr ⟨rk_mck_ok (fun w hw => List.mem_cons_of_mem _ hw) h hN rk_cm_X8_enter rk_lk_X10_106, List.forall_mem_cons.mpr ⟨rk_mck_ok (fun w hw => List.mem_cons_of_mem _ hw) h hN rk_cm_X10_leave rk_lk_X10_109, List.forall_mem_cons.mpr ⟨rk_mck_ok (fun w hw => List.mem_cons_of_mem _ hw) h hN rk_cm_X3_add rk_lk_X10_119, List.forall_mem_cons.mpr ⟨rk_mck_ok (fun w hw => List.mem_cons_of_mem _ hw) h hN rk_cm_X10_growOn rk_lk_X10_240, fun _ h => absurd h List.not_mem_nil⟩⟩⟩⟩) (by decide +kernel))
    (fun s args h i v hi => absurd hi (by simp [rk_csf])) (fun s hN i k hi => absurd hi (by simp [rk_ssf, rk_lk])) (fun s args h idx hi => absurd hi (by simp [rk_acf]))
    (rk := 0) ⟨fun _ => rfl, fun h => absurd h (by decide), fun h => absurd h (by decide), fun h => absurd h (by decide)⟩ (cs := []) (fuel := 3000) (by decide +kernel)
end RKX
