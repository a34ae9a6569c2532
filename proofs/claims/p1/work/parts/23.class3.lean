section RKX
variable (base : Nat) (l : Launch) (cI c1 c2 c3 c4 c5 : ClassId) (D : va_G) (ad adV : Nat → Nat)
def rk_q_X4_at : rk_Mt := (yX4_at, cX4_at, 2, (some .int), 0, 0)
theorem c_X4_at : rk_Mc base l cI c1 c2 c3 c4 c5 D ad adV rk_q_X4_at [(2, 4, 0), (0, -2147483648, 2147483647)] [((0, -2147483648, 2147483647), [])] 0 true :=
  rk_chk_ok (rk_hER ad) (ap := (5, 4)) (rk_hap cI c1 c2 c3 c4 c5) (rk_hNw base ad adV) (rk_hNc base ad adV) (mt := rk_mt []) (ctr := rk_look []) (rk_look_ok _ (fun _ h => absurd h List.not_mem_nil))
    (M := rk_q_X4_at) (P := (cX4_at, 2, rk_flf rk_ftX4, rk_mlf [], rk_csf [], rk_ssf [], rk_acf [])) rfl rfl (by decide +kernel) (fun s args h hN => rk_flX4 (fun w hw => List.mem_cons_of_mem _ hw) h hN)
    (fun s args h hN => rk_MlOk_of (fun _ h => absurd h List.not_mem_nil) (by decide +kernel))
    (fun s args h i v hi => absurd hi (by simp [rk_csf])) (fun s hN i k hi => absurd hi (by simp [rk_ssf, rk_lk])) (fun s args h idx hi => absurd hi (by simp [rk_acf]))
    (rk := 1) ⟨fun h => absurd h (by decide), fun _ => rfl, fun h => absurd h (by decide), fun h => absurd h (by decide)⟩ (cs := []) (fuel := 3000) (by decide +kernel)
def rk_q_X11_byteOf : rk_Mt := (yX11_byteOf, cX11_byteOf, 5, (some .int), 2, 43)
theorem rk_cm_X4_at : Jvm.Cond.code rk_q_X4_at.1 rk_q_X4_at.2.1 rk_q_X4_at.2.2.1 rk_q_X4_at.2.2.2.1 ∈ rk_tbl := rk_tat_ok (i := 1028) (by decide +kernel)
theorem rk_lk_X11_180 : rk_mck RX11 180 rk_q_X4_at 2 5 130 (1025, false) 1026 1027 = true := by decide +kernel
theorem c_X11_byteOf : rk_Mc base l cI c1 c2 c3 c4 c5 D ad adV rk_q_X11_byteOf [(2, 11, 0), (0, -2147483648, 2147483647), (0, -2147483648, 2147483647), (0, -2147483648, 2147483647)] [((0, -2147483648, 2147483647), [])] 0 true :=
  rk_chk_ok (rk_hER ad) (ap := (5, 4)) (rk_hap cI c1 c2 c3 c4 c5) (rk_hNw base ad adV) (rk_hNc base ad adV) (mt := rk_mt [rk_q_X4_at, rk_q_X11_keptPacket]) (ctr := rk_look [(0, [(2, 4, 0), (0, -2147483648, 2147483647)], [((0, -2147483648, 2147483647), [])], 0, true), (1, [(2, 11, 0), (0, -2147483648, 2147483647), (0, -2147483648, 2147483647)], [((3, 4, 0), [])], 0, true)]) (rk_look_ok _ (List.forall_mem_cons.mpr ⟨c_X4_at base l cI c1 c2 c3 c4 c5 D ad adV, List.forall_mem_cons.mpr ⟨c_X11_keptPacket base l cI c1 c2 c3 c4 c5 D ad adV, fun _ h => absurd h List.not_mem_nil⟩⟩))
    (M := rk_q_X11_byteOf) (P := (cX11_byteOf, 5, rk_flf rk_ftX11, rk_mlf [(173, 1, 3, 11), (180, 0, 2, 5)], rk_csf [], rk_ssf [], rk_acf [])) rfl rfl (by decide +kernel) (fun s args h hN => rk_flX11 (fun w hw => List.mem_cons_of_mem _ hw) h hN)
    (fun s args h hN => rk_MlOk_of (List.forall_mem_cons.mpr ⟨rk_mck_ok (fun w hw => List.mem_cons_of_mem _ hw) h hN rk_cm_X11_keptPacket rk_lk_X11_173, List.forall_mem_cons.mpr ⟨rk_mck_ok (fun w hw => List.mem_cons_of_mem _ hw) h hN rk_cm_X4_at rk_lk_X11_180, fun _ h => absurd h List.not_mem_nil⟩⟩) (by decide +kernel))
    (fun s args h i v hi => absurd hi (by simp [rk_csf])) (fun s hN i k hi => absurd hi (by simp [rk_ssf, rk_lk])) (fun s args h idx hi => absurd hi (by simp [rk_acf]))
    (rk := 1) ⟨fun h => absurd h (by decide), fun _ => rfl, fun h => absurd h (by decide), fun h => absurd h (by decide)⟩ (cs := []) (fuel := 3000) (by decide +kernel)
def rk_q_X5_routerAt : rk_Mt := (yX5_routerAt, cX5_routerAt, 3, (some .int), 0, 0)
theorem c_X5_routerAt : rk_Mc base l cI c1 c2 c3 c4 c5 D ad adV rk_q_X5_routerAt [(2, 10, 0), (0, 0, 31)] [((0, -1, 3), [])] 0 true :=
  rk_chk_ok (rk_hER ad) (ap := (5, 4)) (rk_hap cI c1 c2 c3 c4 c5) (rk_hNw base ad adV) (rk_hNc base ad adV) (mt := rk_mt []) (ctr := rk_look []) (rk_look_ok _ (fun _ h => absurd h List.not_mem_nil))
    (M := rk_q_X5_routerAt) (P := (cX5_routerAt, 3, rk_flf rk_ftX5, rk_mlf [], rk_csf [], rk_ssf [], rk_acf [])) rfl rfl (by decide +kernel) (fun s args h hN => rk_flX5 (fun w hw => List.mem_cons_of_mem _ hw) h hN)
    (fun s args h hN => rk_MlOk_of (fun _ h => absurd h List.not_mem_nil) (by decide +kernel))
    (fun s args h i v hi => absurd hi (by simp [rk_csf])) (fun s hN i k hi => absurd hi (by simp [rk_ssf, rk_lk])) (fun s args h idx hi => absurd hi (by simp [rk_acf]))
    (rk := 1) ⟨fun h => absurd h (by decide), fun _ => rfl, fun h => absurd h (by decide), fun h => absurd h (by decide)⟩ (cs := []) (fuel := 3000) (by decide +kernel)
def rk_q_X5_isMeant : rk_Mt := (yX5_isMeant, cX5_isMeant, 3, (some .boolean), 2, 41)
theorem rk_lk_X5_53 : rk_mck RX5 53 rk_q_X6_tableFor 2 6 127 (1056, false) 750 751 = true := by decide +kernel
theorem c_X5_isMeant : rk_Mc base l cI c1 c2 c3 c4 c5 D ad adV rk_q_X5_isMeant [(2, 10, 0), (0, 0, 31), (0, -2147483648, 2147483647)] [((0, 0, 1), [])] 0 true :=
  rk_chk_ok (rk_hER ad) (ap := (5, 4)) (rk_hap cI c1 c2 c3 c4 c5) (rk_hNw base ad adV) (rk_hNc base ad adV) (mt := rk_mt [rk_q_X6_tableFor]) (ctr := rk_look [(0, [(2, 5, 0), (0, -2147483648, 2147483647)], [((0, -2147483648, 2147483647), [])], 0, true)]) (rk_look_ok _ (List.forall_mem_cons.mpr ⟨c_X6_tableFor base l cI c1 c2 c3 c4 c5 D ad adV, fun _ h => absurd h List.not_mem_nil⟩))
    (M := rk_q_X5_isMeant) (P := (cX5_isMeant, 3, rk_flf rk_ftX5, rk_mlf [(53, 0, 2, 6)], rk_csf [], rk_ssf [], rk_acf [])) rfl rfl (by decide +kernel) (fun s args h hN => rk_flX5 (fun w hw => List.mem_cons_of_mem _ hw) h hN)
    (fun s args h hN => rk_MlOk_of (List.forall_mem_cons.mpr ⟨rk_mck_ok (fun w hw => List.mem_cons_of_mem _ hw) h hN rk_cm_X6_tableFor rk_lk_X5_53, fun _ h => absurd h List.not_mem_nil⟩) (by decide +kernel))
    (fun s args h i v hi => absurd hi (by simp [rk_csf])) (fun s hN i k hi => absurd hi (by simp [rk_ssf, rk_lk])) (fun s args h idx hi => absurd hi (by simp [rk_acf]))
    (rk := 2) ⟨fun h => absurd h (by decide), fun h => absurd h (by decide), fun _ => rfl, fun h => absurd h (by decide)⟩ (cs := []) (fuel := 3000) (by decide +kernel)
def rk_q_X5_routersBehind : rk_Mt := (yX5_routersBehind, cX5_routersBehind, 10, (some .int), 3, 63)
theorem rk_cm_X5_routerAt : Jvm.Cond.code rk_q_X5_routerAt.1 rk_q_X5_routerAt.2.1 rk_q_X5_routerAt.2.2.1 rk_q_X5_routerAt.2.2.2.1 ∈ rk_tbl := rk_tat_ok (i := 1042) (by decide +kernel)
theorem rk_lk_X5_31 : rk_mck RX5 31 rk_q_X5_routerAt 2 0 138 (1040, false) 1041 0 = true := by decide +kernel
theorem rk_cm_X5_isMeant : Jvm.Cond.code rk_q_X5_isMeant.1 rk_q_X5_isMeant.2.1 rk_q_X5_isMeant.2.2.1 rk_q_X5_isMeant.2.2.2.1 ∈ rk_tbl := rk_tat_ok (i := 1059) (by decide +kernel)
theorem rk_lk_X5_45 : rk_mck RX5 45 rk_q_X5_isMeant 3 0 138 (1057, false) 1058 0 = true := by decide +kernel
theorem c_X5_routersBehind : rk_Mc base l cI c1 c2 c3 c4 c5 D ad adV rk_q_X5_routersBehind [(2, 10, 0), (0, 0, 3), (0, -2147483648, 2147483647)] [((0, -2147483648, 2147483647), [])] 0 true :=
  rk_chk_ok (rk_hER ad) (ap := (5, 4)) (rk_hap cI c1 c2 c3 c4 c5) (rk_hNw base ad adV) (rk_hNc base ad adV) (mt := rk_mt [rk_q_X5_isMeant, rk_q_X5_routerAt, rk_q_X6_tableFor]) (ctr := rk_look [(0, [(2, 10, 0), (0, 0, 31), (0, -2147483648, 2147483647)], [((0, 0, 1), [])], 0, true), (1, [(2, 10, 0), (0, 0, 31)], [((0, -1, 3), [])], 0, true), (2, [(2, 5, 0), (0, -2147483648, 2147483647)], [((0, -2147483648, 2147483647), [])], 0, true)]) (rk_look_ok _ (List.forall_mem_cons.mpr ⟨c_X5_isMeant base l cI c1 c2 c3 c4 c5 D ad adV, List.forall_mem_cons.mpr ⟨c_X5_routerAt base l cI c1 c2 c3 c4 c5 D ad adV, List.forall_mem_cons.mpr ⟨c_X6_tableFor base l cI c1 c2 c3 c4 c5 D ad adV, fun _ h => absurd h List.not_mem_nil⟩⟩⟩))
    (M := rk_q_X5_routersBehind) (P := (cX5_routersBehind, 10, rk_flf rk_ftX5, rk_mlf [(31, 1, 2, 0), (45, 0, 3, 0), (53, 2, 2, 6)], rk_csf [], rk_ssf [], rk_acf [])) rfl rfl (by decide +kernel) (fun s args h hN => rk_flX5 (fun w hw => List.mem_cons_of_mem _ hw) h hN)
    (fun s args h hN => rk_MlOk_of (List.forall_mem_cons.mpr ⟨rk_mck_ok (fun w hw => List.mem_cons_of_mem _ hw) h hN rk_cm_X5_routerAt rk_lk_X5_31, List.forall_mem_cons.mpr ⟨rk_mck_ok (fun w hw => List.mem_cons_of_mem _ hw) h hN rk_cm_X5_isMeant rk_lk_X5_45, List.forall_mem_cons.mpr ⟨rk_mck_ok (fun w hw => List.mem_cons_of_mem _ hw) h hN rk_cm_X6_tableFor rk_lk_X5_53, fun _ h => absurd h List.not_mem_nil⟩⟩⟩) (by decide +kernel))
    (fun s args h i v hi => absurd hi (by simp [rk_csf])) (fun s hN i k hi => absurd hi (by simp [rk_ssf, rk_lk])) (fun s args h idx hi => absurd hi (by simp [rk_acf]))
    (rk := 1) ⟨fun h => absurd h (by decide), fun _ => rfl, fun h => absurd h (by decide), fun h => absurd h (by decide)⟩ (cs := [(5, [(2, 10, 0), (0, 0, 3), (0, -2147483648, 2147483647), (0, -2147483648, 2147483647), (0, 0, 4), (4, 0, 0), (4, 0, 0), (4, 0, 0), (4, 0, 0), (4, 0, 0)], [], (169, [(4, -34)]), (0, [])), (28, [(2, 10, 0), (0, 0, 3), (0, -2147483648, 2147483647), (0, -2147483648, 2147483647), (0, 0, 3), (0, -2147483648, 2147483647), (0, 0, 32), (4, 0, 0), (4, 0, 0), (4, 0, 0)], [], (168, [(4, -34), (6, -1)]), (0, []))]) (fuel := 3000) (by decide +kernel)
def rk_q_X5_endsOf : rk_Mt := (yX5_endsOf, cX5_endsOf, 7, (some .int), 4, 92)
theorem rk_cm_X5_routersBehind : Jvm.Cond.code rk_q_X5_routersBehind.1 rk_q_X5_routersBehind.2.1 rk_q_X5_routersBehind.2.2.1 rk_q_X5_routersBehind.2.2.2.1 ∈ rk_tbl := rk_tat_ok (i := 1055) (by decide +kernel)
theorem rk_lk_X5_41 : rk_mck RX5 41 rk_q_X5_routersBehind 3 0 138 (1053, false) 1054 0 = true := by decide +kernel
theorem c_X5_endsOf : rk_Mc base l cI c1 c2 c3 c4 c5 D ad adV rk_q_X5_endsOf [(2, 10, 0), (0, 0, 3), (0, -2147483648, 2147483647)] [((0, -2147483648, 2147483647), [])] 0 true :=
  rk_chk_ok (rk_hER ad) (ap := (5, 4)) (rk_hap cI c1 c2 c3 c4 c5) (rk_hNw base ad adV) (rk_hNc base ad adV) (mt := rk_mt [rk_q_X5_routersBehind, rk_q_X5_isMeant]) (ctr := rk_look [(0, [(2, 10, 0), (0, 0, 3), (0, -2147483648, 2147483647)], [((0, -2147483648, 2147483647), [])], 0, true), (1, [(2, 10, 0), (0, 0, 31), (0, -2147483648, 2147483647)], [((0, 0, 1), [])], 0, true)]) (rk_look_ok _ (List.forall_mem_cons.mpr ⟨c_X5_routersBehind base l cI c1 c2 c3 c4 c5 D ad adV, List.forall_mem_cons.mpr ⟨c_X5_isMeant base l cI c1 c2 c3 c4 c5 D ad adV, fun _ h => absurd h List.not_mem_nil⟩⟩))
    (M := rk_q_X5_endsOf) (P := (cX5_endsOf, 7, rk_flf rk_ftX5, rk_mlf [(41, 0, 3, 0), (45, 1, 3, 0)], rk_csf [], rk_ssf [], rk_acf [])) rfl rfl (by decide +kernel) (fun s args h hN => rk_flX5 (fun w hw => List.mem_cons_of_mem _ hw) h hN)
    (fun s args h hN => rk_MlOk_of (List.forall_mem_cons.mpr ⟨rk_mck_ok (fun w hw => List.mem_cons_of_mem _ hw) h hN rk_cm_X5_routersBehind rk_lk_X5_41, List.forall_mem_cons.mpr ⟨rk_mck_ok (fun w hw => List.mem_cons_of_mem _ hw) h hN rk_cm_X5_isMeant rk_lk_X5_45, fun _ h => absurd h List.not_mem_nil⟩⟩) (by decide +kernel))
    (fun s args h i v hi => absurd hi (by simp [rk_csf])) (fun s hN i k hi => absurd hi (by simp [rk_ssf, rk_lk])) (fun s args h idx hi => absurd hi (by simp [rk_acf]))
    (rk := 1) ⟨fun h => absurd h (by decide), fun _ => rfl, fun h => absurd h (by decide), fun h => absurd h (by decide)⟩ (cs := [(17, [(2, 10, 0), (0, 0, 3), (0, -2147483648, 2147483647), (0, -2147483648, 2147483647), (0, -2147483648, 2147483647), (0, 0, 32), (4, 0, 0)], [], (32, [(5, -1)]), (0, []))]) (fuel := 3000) (by decide +kernel)
def rk_q_X11_spread : rk_Mt := (yX11_spread, cX11_spread, 3, (some .int), 5, 118)
theorem rk_cm_X5_endsOf : Jvm.Cond.code rk_q_X5_endsOf.1 rk_q_X5_endsOf.2.1 rk_q_X5_endsOf.2.2.1 rk_q_X5_endsOf.2.2.2.1 ∈ rk_tbl := rk_tat_ok (i := 1052) (by decide +kernel)
theorem rk_lk_X11_187 : rk_mck RX11 187 rk_q_X5_endsOf 3 0 138 (1050, false) 1051 0 = true := by decide +kernel
theorem c_X11_spread : rk_Mc base l cI c1 c2 c3 c4 c5 D ad adV rk_q_X11_spread [(2, 11, 0), (0, -2147483648, 2147483647), (0, -2147483648, 2147483647)] [((0, -2147483648, 2147483647), [])] 0 true :=
  rk_chk_ok (rk_hER ad) (ap := (5, 4)) (rk_hap cI c1 c2 c3 c4 c5) (rk_hNw base ad adV) (rk_hNc base ad adV) (mt := rk_mt [rk_q_X11_isRouter, rk_q_X5_endsOf, rk_q_X11_isAddress]) (ctr := rk_look [(0, [(0, -2147483648, 2147483647)], [((0, 1, 1), [(0, (0, 0, 3))]), ((0, 0, 0), [])], 0, true), (1, [(2, 10, 0), (0, 0, 3), (0, -2147483648, 2147483647)], [((0, -2147483648, 2147483647), [])], 0, true), (2, [(0, -2147483648, 2147483647)], [((0, 1, 1), [(0, (0, 32, 95))]), ((0, 0, 0), [])], 0, true)]) (rk_look_ok _ (List.forall_mem_cons.mpr ⟨c_X11_isRouter base l cI c1 c2 c3 c4 c5 D ad adV, List.forall_mem_cons.mpr ⟨c_X5_endsOf base l cI c1 c2 c3 c4 c5 D ad adV, List.forall_mem_cons.mpr ⟨c_X11_isAddress base l cI c1 c2 c3 c4 c5 D ad adV, fun _ h => absurd h List.not_mem_nil⟩⟩⟩))
    (M := rk_q_X11_spread) (P := (cX11_spread, 3, rk_flf rk_ftX11, rk_mlf [(65, 0, 1, 0), (166, 2, 1, 0), (187, 1, 3, 0)], rk_csf [], rk_ssf [], rk_acf [])) rfl rfl (by decide +kernel) (fun s args h hN => rk_flX11 (fun w hw => List.mem_cons_of_mem _ hw) h hN)
    (fun s args h hN => rk_MlOk_of (List.forall_mem_cons.mpr ⟨rk_mck_ok (fun w hw => List.mem_cons_of_mem _ hw) h hN rk_cm_X11_isRouter rk_lk_X11_65, List.forall_mem_cons.mpr ⟨rk_mck_ok (fun w hw => List.mem_cons_of_mem _ hw) h hN rk_cm_X11_isAddress rk_lk_X11_166, List.forall_mem_cons.mpr ⟨rk_mck_ok (fun w hw => List.mem_cons_of_mem _ hw) h hN rk_cm_X5_endsOf rk_lk_X11_187, fun _ h => absurd h List.not_mem_nil⟩⟩⟩) (by decide +kernel))
    (fun s args h i v hi => absurd hi (by simp [rk_csf])) (fun s hN i k hi => absurd hi (by simp [rk_ssf, rk_lk])) (fun s args h idx hi => absurd hi (by simp [rk_acf]))
    (rk := 1) ⟨fun h => absurd h (by decide), fun _ => rfl, fun h => absurd h (by decide), fun h => absurd h (by decide)⟩ (cs := []) (fuel := 3000) (by decide +kernel)
def rk_q_X5_comesAgain : rk_Mt := (yX5_comesAgain, cX5_comesAgain, 5, (some .boolean), 4, 92)
theorem c_X5_comesAgain : rk_Mc base l cI c1 c2 c3 c4 c5 D ad adV rk_q_X5_comesAgain [(2, 10, 0), (0, 0, 3), (0, -2147483648, 2147483647)] [((0, 0, 1), [])] 0 true :=
  rk_chk_ok (rk_hER ad) (ap := (5, 4)) (rk_hap cI c1 c2 c3 c4 c5) (rk_hNw base ad adV) (rk_hNc base ad adV) (mt := rk_mt [rk_q_X5_routersBehind]) (ctr := rk_look [(0, [(2, 10, 0), (0, 0, 3), (0, -2147483648, 2147483647)], [((0, -2147483648, 2147483647), [])], 0, true)]) (rk_look_ok _ (List.forall_mem_cons.mpr ⟨c_X5_routersBehind base l cI c1 c2 c3 c4 c5 D ad adV, fun _ h => absurd h List.not_mem_nil⟩))
    (M := rk_q_X5_comesAgain) (P := (cX5_comesAgain, 5, rk_flf rk_ftX5, rk_mlf [(41, 0, 3, 0)], rk_csf [], rk_ssf [], rk_acf [])) rfl rfl (by decide +kernel) (fun s args h hN => rk_flX5 (fun w hw => List.mem_cons_of_mem _ hw) h hN)
    (fun s args h hN => rk_MlOk_of (List.forall_mem_cons.mpr ⟨rk_mck_ok (fun w hw => List.mem_cons_of_mem _ hw) h hN rk_cm_X5_routersBehind rk_lk_X5_41, fun _ h => absurd h List.not_mem_nil⟩) (by decide +kernel))
    (fun s args h i v hi => absurd hi (by simp [rk_csf])) (fun s hN i k hi => absurd hi (by simp [rk_ssf, rk_lk])) (fun s args h idx hi => absurd hi (by simp [rk_acf]))
    (rk := 2) ⟨fun h => absurd h (by decide), fun h => absurd h (by decide), fun _ => rfl, fun h => absurd h (by decide)⟩ (cs := [(10, [(2, 10, 0), (0, 0, 3), (0, -2147483648, 2147483647), (0, -2147483648, 2147483647), (0, 0, 4)], [], (4, [(4, -1)]), (0, []))]) (fuel := 3000) (by decide +kernel)
def rk_q_X11_loops : rk_Mt := (yX11_loops, cX11_loops, 3, (some .int), 5, 116)
theorem rk_cm_X5_comesAgain : Jvm.Cond.code rk_q_X5_comesAgain.1 rk_q_X5_comesAgain.2.1 rk_q_X5_comesAgain.2.2.1 rk_q_X5_comesAgain.2.2.2.1 ∈ rk_tbl := rk_tat_ok (i := 1066) (by decide +kernel)
theorem rk_lk_X11_191 : rk_mck RX11 191 rk_q_X5_comesAgain 3 0 138 (1064, false) 1065 0 = true := by decide +kernel
theorem rk_lk_X11_195 : rk_mck RX11 195 rk_q_X11_bit 1 0 120 (1067, false) 773 0 = true := by decide +kernel
theorem c_X11_loops : rk_Mc base l cI c1 c2 c3 c4 c5 D ad adV rk_q_X11_loops [(2, 11, 0), (0, -2147483648, 2147483647), (0, -2147483648, 2147483647)] [((0, -1, 1), [])] 0 true :=
  rk_chk_ok (rk_hER ad) (ap := (5, 4)) (rk_hap cI c1 c2 c3 c4 c5) (rk_hNw base ad adV) (rk_hNc base ad adV) (mt := rk_mt [rk_q_X11_isRouter, rk_q_X5_comesAgain, rk_q_X11_bit, rk_q_X11_isAddress]) (ctr := rk_look [(0, [(0, -2147483648, 2147483647)], [((0, 1, 1), [(0, (0, 0, 3))]), ((0, 0, 0), [])], 0, true), (1, [(2, 10, 0), (0, 0, 3), (0, -2147483648, 2147483647)], [((0, 0, 1), [])], 0, true), (2, [(0, 0, 1)], [((0, 0, 1), [])], 0, true), (3, [(0, -2147483648, 2147483647)], [((0, 1, 1), [(0, (0, 32, 95))]), ((0, 0, 0), [])], 0, true)]) (rk_look_ok _ (List.forall_mem_cons.mpr ⟨c_X11_isRouter base l cI c1 c2 c3 c4 c5 D ad adV, List.forall_mem_cons.mpr ⟨c_X5_comesAgain base l cI c1 c2 c3 c4 c5 D ad adV, List.forall_mem_cons.mpr ⟨c_X11_bit base l cI c1 c2 c3 c4 c5 D ad adV, List.forall_mem_cons.mpr ⟨c_X11_isAddress base l cI c1 c2 c3 c4 c5 D ad adV, fun _ h => absurd h List.not_mem_nil⟩⟩⟩⟩))
    (M := rk_q_X11_loops) (P := (cX11_loops, 3, rk_flf rk_ftX11, rk_mlf [(65, 0, 1, 0), (166, 3, 1, 0), (191, 1, 3, 0), (195, 2, 1, 0)], rk_csf [], rk_ssf [], rk_acf [])) rfl rfl (by decide +kernel) (fun s args h hN => rk_flX11 (fun w hw => List.mem_cons_of_mem _ hw) h hN)
    (fun s args h hN => rk_MlOk_of (List.forall_mem_cons.mpr ⟨rk_mck_ok (fun w hw => List.mem_cons_of_mem _ hw) h hN rk_cm_X11_isRouter rk_lk_X11_65, List.forall_mem_cons.mpr ⟨rk_mck_ok (fun w hw => List.mem_cons_of_mem _ hw) h hN rk_cm_X11_isAddress rk_lk_X11_166, List.forall_mem_cons.mpr ⟨rk_mck_ok (fun w hw => List.mem_cons_of_mem _ hw) h hN rk_cm_X5_comesAgain rk_lk_X11_191, List.forall_mem_cons.mpr ⟨rk_mck_ok (fun w hw => List.mem_cons_of_mem _ hw) h hN rk_cm_X11_bit rk_lk_X11_195, fun _ h => absurd h List.not_mem_nil⟩⟩⟩⟩) (by decide +kernel))
    (fun s args h i v hi => absurd hi (by simp [rk_csf])) (fun s hN i k hi => absurd hi (by simp [rk_ssf, rk_lk])) (fun s args h idx hi => absurd hi (by simp [rk_acf]))
    (rk := 1) ⟨fun h => absurd h (by decide), fun _ => rfl, fun h => absurd h (by decide), fun h => absurd h (by decide)⟩ (cs := []) (fuel := 3000) (by decide +kernel)
def rk_q_X3_tell : rk_Mt := (yX3_tell, cX3_tell, 4, (some .int), 0, 0)
theorem c_X3_tell : rk_Mc base l cI c1 c2 c3 c4 c5 D ad adV rk_q_X3_tell [(2, 3, 0), (0, -2147483648, 2147483647), (0, -2147483648, 2147483647)] [((0, -2147483648, 2147483647), [])] 0 true :=
  rk_chk_ok (rk_hER ad) (ap := (5, 4)) (rk_hap cI c1 c2 c3 c4 c5) (rk_hNw base ad adV) (rk_hNc base ad adV) (mt := rk_mt []) (ctr := rk_look []) (rk_look_ok _ (fun _ h => absurd h List.not_mem_nil))
    (M := rk_q_X3_tell) (P := (cX3_tell, 4, rk_flf rk_ftX3, rk_mlf [], rk_csf [], rk_ssf [], rk_acf [])) rfl rfl (by decide +kernel) (fun s args h hN => rk_flX3 (fun w hw => List.mem_cons_of_mem _ hw) h hN)
    (fun s args h hN => rk_MlOk_of (fun _ h => absurd h List.not_mem_nil) (by decide +kernel))
    (fun s args h i v hi => absurd hi (by simp [rk_csf])) (fun s hN i k hi => absurd hi (by simp [rk_ssf, rk_lk])) (fun s args h idx hi => absurd hi (by simp [rk_acf]))
    (rk := 1) ⟨fun h => absurd h (by decide), fun _ => rfl, fun h => absurd h (by decide), fun h => absurd h (by decide)⟩ (cs := []) (fuel := 3000) (by decide +kernel)
def rk_q_X11_log : rk_Mt := (yX11_log, cX11_log, 3, (some .int), 1, 23)
theorem rk_cm_X3_tell : Jvm.Cond.code rk_q_X3_tell.1 rk_q_X3_tell.2.1 rk_q_X3_tell.2.2.1 rk_q_X3_tell.2.2.2.1 ∈ rk_tbl := rk_tat_ok (i := 1075) (by decide +kernel)
theorem rk_lk_X11_203 : rk_mck RX11 203 rk_q_X3_tell 3 4 122 (1072, false) 1073 1074 = true := by decide +kernel
theorem c_X11_log : rk_Mc base l cI c1 c2 c3 c4 c5 D ad adV rk_q_X11_log [(2, 11, 0), (0, -2147483648, 2147483647), (0, -2147483648, 2147483647)] [((0, -2147483648, 2147483647), [])] 0 true :=
  rk_chk_ok (rk_hER ad) (ap := (5, 4)) (rk_hap cI c1 c2 c3 c4 c5) (rk_hNw base ad adV) (rk_hNc base ad adV) (mt := rk_mt [rk_q_X3_tell]) (ctr := rk_look [(0, [(2, 3, 0), (0, -2147483648, 2147483647), (0, -2147483648, 2147483647)], [((0, -2147483648, 2147483647), [])], 0, true)]) (rk_look_ok _ (List.forall_mem_cons.mpr ⟨c_X3_tell base l cI c1 c2 c3 c4 c5 D ad adV, fun _ h => absurd h List.not_mem_nil⟩))
    (M := rk_q_X11_log) (P := (cX11_log, 3, rk_flf rk_ftX11, rk_mlf [(203, 0, 3, 4)], rk_csf [], rk_ssf [], rk_acf [])) rfl rfl (by decide +kernel) (fun s args h hN => rk_flX11 (fun w hw => List.mem_cons_of_mem _ hw) h hN)
    (fun s args h hN => rk_MlOk_of (List.forall_mem_cons.mpr ⟨rk_mck_ok (fun w hw => List.mem_cons_of_mem _ hw) h hN rk_cm_X3_tell rk_lk_X11_203, fun _ h => absurd h List.not_mem_nil⟩) (by decide +kernel))
    (fun s args h i v hi => absurd hi (by simp [rk_csf])) (fun s hN i k hi => absurd hi (by simp [rk_ssf, rk_lk])) (fun s args h idx hi => absurd hi (by simp [rk_acf]))
    (rk := 1) ⟨fun h => absurd h (by decide), fun _ => rfl, fun h => absurd h (by decide), fun h => absurd h (by decide)⟩ (cs := []) (fuel := 3000) (by decide +kernel)
theorem c_J9_min_7cf53_0 : rk_Mc base l cI c1 c2 c3 c4 c5 D ad adV rk_q_J9_min_7cf53 [(0, 0, 25), (0, 25, 25)] [((0, 0, 25), [])] 0 true :=
  rk_chk_ok (rk_hER ad) (ap := (5, 4)) (rk_hap cI c1 c2 c3 c4 c5) (rk_hNw base ad adV) (rk_hNc base ad adV) (mt := rk_mt []) (ctr := rk_look []) (rk_look_ok _ (fun _ h => absurd h List.not_mem_nil))
    (M := rk_q_J9_min_7cf53) (P := (cJ9_min_7cf53, 2, rk_flf [], rk_mlf [], rk_csf [], rk_ssf [], rk_acf [])) rfl rfl (by decide +kernel) (fun s args h hN => rk_FlOk_of (fun _ h => absurd h List.not_mem_nil))
    (fun s args h hN => rk_MlOk_of (fun _ h => absurd h List.not_mem_nil) (by decide +kernel))
    (fun s args h i v hi => absurd hi (by simp [rk_csf])) (fun s hN i k hi => absurd hi (by simp [rk_ssf, rk_lk])) (fun s args h idx hi => absurd hi (by simp [rk_acf]))
    (rk := 1) ⟨fun h => absurd h (by decide), fun _ => rfl, fun h => absurd h (by decide), fun h => absurd h (by decide)⟩ (cs := []) (fuel := 3000) (by decide +kernel)
def rk_q_X7_copyFrom : rk_Mt := (yX7_copyFrom, cX7_copyFrom, 3, none, 1, 22)
theorem rk_lk_X7_28 : rk_mck RX7 28 rk_q_J9_min_7cf53 2 0 125 (1092, false) 923 0 = true := by decide +kernel
theorem rk_lk_X7_31 : rk_mck RX7 31 rk_q_X7_at 2 7 124 (1093, false) 742 743 = true := by decide +kernel
theorem c_X7_copyFrom_0 : rk_Mc base l cI c1 c2 c3 c4 c5 D ad adV rk_q_X7_copyFrom [(2, 6, 0), (2, 6, 0)] [((9, 0, 0), [])] 0 false :=
  rk_chk_ok (rk_hER ad) (ap := (5, 4)) (rk_hap cI c1 c2 c3 c4 c5) (rk_hNw base ad adV) (rk_hNc base ad adV) (mt := rk_mt [rk_q_J9_min_7cf53, rk_q_X7_at]) (ctr := rk_look [(0, [(0, 0, 25), (0, 25, 25)], [((0, 0, 25), [])], 0, true), (1, [(2, 6, 0), (0, -2147483648, 2147483647)], [((0, -2147483648, 2147483647), [])], 0, true)]) (rk_look_ok _ (List.forall_mem_cons.mpr ⟨c_J9_min_7cf53_0 base l cI c1 c2 c3 c4 c5 D ad adV, List.forall_mem_cons.mpr ⟨c_X7_at_0 base l cI c1 c2 c3 c4 c5 D ad adV, fun _ h => absurd h List.not_mem_nil⟩⟩))
    (M := rk_q_X7_copyFrom) (P := (cX7_copyFrom, 3, rk_flf rk_ftX7, rk_mlf [(28, 0, 2, 0), (31, 1, 2, 7)], rk_csf [], rk_ssf [], rk_acf [])) rfl rfl (by decide +kernel) (fun s args h hN => rk_flX7 (fun w hw => List.mem_cons_of_mem _ hw) h hN)
    (fun s args h hN => rk_MlOk_of (List.forall_mem_cons.mpr ⟨rk_mck_ok (fun w hw => List.mem_cons_of_mem _ hw) h hN rk_cm_J9_min_7cf53 rk_lk_X7_28, List.forall_mem_cons.mpr ⟨rk_mck_ok (fun w hw => List.mem_cons_of_mem _ hw) h hN rk_cm_X7_at rk_lk_X7_31, fun _ h => absurd h List.not_mem_nil⟩⟩) (by decide +kernel))
    (fun s args h i v hi => absurd hi (by simp [rk_csf])) (fun s hN i k hi => absurd hi (by simp [rk_ssf, rk_lk])) (fun s args h idx hi => absurd hi (by simp [rk_acf]))
    (rk := 0) ⟨fun _ => rfl, fun h => absurd h (by decide), fun h => absurd h (by decide), fun h => absurd h (by decide)⟩ (cs := [(23, [(2, 6, 0), (2, 6, 0), (0, 0, 25)], [], (25, [(2, -1)]), (0, []))]) (fuel := 3000) (by decide +kernel)
def rk_q_X8_copyFrom : rk_Mt := (yX8_copyFrom, cX8_copyFrom, 2, none, 2, 44)
theorem rk_cm_X7_copyFrom : Jvm.Cond.code rk_q_X7_copyFrom.1 rk_q_X7_copyFrom.2.1 rk_q_X7_copyFrom.2.2.1 rk_q_X7_copyFrom.2.2.2.1 ∈ rk_tbl := rk_tat_ok (i := 1091) (by decide +kernel)
theorem rk_lk_X8_37 : rk_mck RX8 37 rk_q_X7_copyFrom 2 7 124 (1088, false) 1089 1090 = true := by decide +kernel
theorem c_X8_copyFrom : rk_Mc base l cI c1 c2 c3 c4 c5 D ad adV rk_q_X8_copyFrom [(2, 8, 0), (2, 8, 0)] [((9, 0, 0), [])] 0 false :=
  rk_chk_ok (rk_hER ad) (ap := (5, 4)) (rk_hap cI c1 c2 c3 c4 c5) (rk_hNw base ad adV) (rk_hNc base ad adV) (mt := rk_mt [rk_q_X7_copyFrom]) (ctr := rk_look [(0, [(2, 6, 0), (2, 6, 0)], [((9, 0, 0), [])], 0, false)]) (rk_look_ok _ (List.forall_mem_cons.mpr ⟨c_X7_copyFrom_0 base l cI c1 c2 c3 c4 c5 D ad adV, fun _ h => absurd h List.not_mem_nil⟩))
    (M := rk_q_X8_copyFrom) (P := (cX8_copyFrom, 2, rk_flf rk_ftX8, rk_mlf [(37, 0, 2, 7)], rk_csf [], rk_ssf [], rk_acf [])) rfl rfl (by decide +kernel) (fun s args h hN => rk_flX8 (fun w hw => List.mem_cons_of_mem _ hw) h hN)
    (fun s args h hN => rk_MlOk_of (List.forall_mem_cons.mpr ⟨rk_mck_ok (fun w hw => List.mem_cons_of_mem _ hw) h hN rk_cm_X7_copyFrom rk_lk_X8_37, fun _ h => absurd h List.not_mem_nil⟩) (by decide +kernel))
    (fun s args h i v hi => absurd hi (by simp [rk_csf])) (fun s hN i k hi => absurd hi (by simp [rk_ssf, rk_lk])) (fun s args h idx hi => absurd hi (by simp [rk_acf]))
    (rk := 0) ⟨fun _ => rfl, fun h => absurd h (by decide), fun h => absurd h (by decide), fun h => absurd h (by decide)⟩ (cs := []) (fuel := 3000) (by decide +kernel)
def rk_q_X2_copyFrom : rk_Mt := (yX2_copyFrom, cX2_copyFrom, 2, none, 1, 60)
theorem c_X2_copyFrom : rk_Mc base l cI c1 c2 c3 c4 c5 D ad adV rk_q_X2_copyFrom [(2, 2, 0), (2, 2, 0)] [((9, 0, 0), [])] 0 false :=
  rk_chk_ok (rk_hER ad) (ap := (5, 4)) (rk_hap cI c1 c2 c3 c4 c5) (rk_hNw base ad adV) (rk_hNc base ad adV) (mt := rk_mt []) (ctr := rk_look []) (rk_look_ok _ (fun _ h => absurd h List.not_mem_nil))
    (M := rk_q_X2_copyFrom) (P := (cX2_copyFrom, 2, rk_flf rk_ftX2, rk_mlf [], rk_csf [], rk_ssf [], rk_acf [25])) rfl rfl (by decide +kernel) (fun s args h hN => rk_flX2 (fun w hw => List.mem_cons_of_mem _ hw) h hN)
    (fun s args h hN => rk_MlOk_of (fun _ h => absurd h List.not_mem_nil) (by decide +kernel))
    (fun s args h i v hi => absurd hi (by simp [rk_csf])) (fun s hN i k hi => absurd hi (by simp [rk_ssf, rk_lk])) (fun s args h idx hi => by
    have hi : idx = 25 := by simpa [rk_acf] using hi.symm
    subst hi
    exact ⟨h _ (List.mem_cons_of_mem _ (rk_tat_ok (i := 1098) (by decide +kernel))), h _ (List.mem_cons_of_mem _ (rk_tat_ok (i := 1100) (by decide +kernel))), h _ (List.mem_cons_of_mem _ (rk_tat_ok (i := 1099) (by decide +kernel))), h _ (List.mem_cons_of_mem _ (rk_tat_ok (i := 139) (by decide +kernel))), by decide +kernel, by decide +kernel⟩)
    (rk := 0) ⟨fun _ => rfl, fun h => absurd h (by decide), fun h => absurd h (by decide), fun h => absurd h (by decide)⟩ (cs := []) (fuel := 3000) (by decide +kernel)
def rk_q_X0_copyFrom : rk_Mt := (yX0_copyFrom, cX0_copyFrom, 2, none, 0, 0)
theorem c_X0_copyFrom : rk_Mc base l cI c1 c2 c3 c4 c5 D ad adV rk_q_X0_copyFrom [(2, 0, 0), (2, 0, 0)] [((9, 0, 0), [])] 0 false :=
  rk_chk_ok (rk_hER ad) (ap := (5, 4)) (rk_hap cI c1 c2 c3 c4 c5) (rk_hNw base ad adV) (rk_hNc base ad adV) (mt := rk_mt []) (ctr := rk_look []) (rk_look_ok _ (fun _ h => absurd h List.not_mem_nil))
    (M := rk_q_X0_copyFrom) (P := (cX0_copyFrom, 2, rk_flf rk_ftX0, rk_mlf [], rk_csf [], rk_ssf [], rk_acf [])) rfl rfl (by decide +kernel) (fun s args h hN => rk_flX0 (fun w hw => List.mem_cons_of_mem _ hw) h hN)
    (fun s args h hN => rk_MlOk_of (fun _ h => absurd h List.not_mem_nil) (by decide +kernel))
    (fun s args h i v hi => absurd hi (by simp [rk_csf])) (fun s hN i k hi => absurd hi (by simp [rk_ssf, rk_lk])) (fun s args h idx hi => absurd hi (by simp [rk_acf]))
    (rk := 0) ⟨fun _ => rfl, fun h => absurd h (by decide), fun h => absurd h (by decide), fun h => absurd h (by decide)⟩ (cs := []) (fuel := 3000) (by decide +kernel)
def rk_q_X6_copyFrom : rk_Mt := (yX6_copyFrom, cX6_copyFrom, 2, none, 1, 60)
theorem rk_cm_X0_copyFrom : Jvm.Cond.code rk_q_X0_copyFrom.1 rk_q_X0_copyFrom.2.1 rk_q_X0_copyFrom.2.2.1 rk_q_X0_copyFrom.2.2.2.1 ∈ rk_tbl := rk_tat_ok (i := 1109) (by decide +kernel)
theorem rk_lk_X6_32 : rk_mck RX6 32 rk_q_X0_copyFrom 2 1 128 (1106, false) 1107 1108 = true := by decide +kernel
theorem c_X6_copyFrom : rk_Mc base l cI c1 c2 c3 c4 c5 D ad adV rk_q_X6_copyFrom [(2, 5, 0), (2, 5, 0)] [((9, 0, 0), [])] 0 false :=
  rk_chk_ok (rk_hER ad) (ap := (5, 4)) (rk_hap cI c1 c2 c3 c4 c5) (rk_hNw base ad adV) (rk_hNc base ad adV) (mt := rk_mt [rk_q_X0_copyFrom]) (ctr := rk_look [(0, [(2, 0, 0), (2, 0, 0)], [((9, 0, 0), [])], 0, false)]) (rk_look_ok _ (List.forall_mem_cons.mpr ⟨c_X0_copyFrom base l cI c1 c2 c3 c4 c5 D ad adV, fun _ h => absurd h List.not_mem_nil⟩))
    (M := rk_q_X6_copyFrom) (P := (cX6_copyFrom, 2, rk_flf rk_ftX6, rk_mlf [(32, 0, 2, 1)], rk_csf [], rk_ssf [], rk_acf [26])) rfl rfl (by decide +kernel) (fun s args h hN => rk_flX6 (fun w hw => List.mem_cons_of_mem _ hw) h hN)
    (fun s args h hN => rk_MlOk_of (List.forall_mem_cons.mpr ⟨rk_mck_ok (fun w hw => List.mem_cons_of_mem _ hw) h hN rk_cm_X0_copyFrom rk_lk_X6_32, fun _ h => absurd h List.not_mem_nil⟩) (by decide +kernel))
    (fun s args h i v hi => absurd hi (by simp [rk_csf])) (fun s hN i k hi => absurd hi (by simp [rk_ssf, rk_lk])) (fun s args h idx hi => by
    have hi : idx = 26 := by simpa [rk_acf] using hi.symm
    subst hi
    exact ⟨h _ (List.mem_cons_of_mem _ (rk_tat_ok (i := 1105) (by decide +kernel))), h _ (List.mem_cons_of_mem _ (rk_tat_ok (i := 1100) (by decide +kernel))), h _ (List.mem_cons_of_mem _ (rk_tat_ok (i := 1099) (by decide +kernel))), h _ (List.mem_cons_of_mem _ (rk_tat_ok (i := 139) (by decide +kernel))), by decide +kernel, by decide +kernel⟩)
    (rk := 0) ⟨fun _ => rfl, fun h => absurd h (by decide), fun h => absurd h (by decide), fun h => absurd h (by decide)⟩ (cs := []) (fuel := 3000) (by decide +kernel)
theorem c_J9_min_7cf53_1 : rk_Mc base l cI c1 c2 c3 c4 c5 D ad adV rk_q_J9_min_7cf53 [(0, 0, 120), (0, 120, 120)] [((0, 0, 120), [])] 0 true :=
  rk_chk_ok (rk_hER ad) (ap := (5, 4)) (rk_hap cI c1 c2 c3 c4 c5) (rk_hNw base ad adV) (rk_hNc base ad adV) (mt := rk_mt []) (ctr := rk_look []) (rk_look_ok _ (fun _ h => absurd h List.not_mem_nil))
    (M := rk_q_J9_min_7cf53) (P := (cJ9_min_7cf53, 2, rk_flf [], rk_mlf [], rk_csf [], rk_ssf [], rk_acf [])) rfl rfl (by decide +kernel) (fun s args h hN => rk_FlOk_of (fun _ h => absurd h List.not_mem_nil))
    (fun s args h hN => rk_MlOk_of (fun _ h => absurd h List.not_mem_nil) (by decide +kernel))
    (fun s args h i v hi => absurd hi (by simp [rk_csf])) (fun s hN i k hi => absurd hi (by simp [rk_ssf, rk_lk])) (fun s args h idx hi => absurd hi (by simp [rk_acf]))
    (rk := 1) ⟨fun h => absurd h (by decide), fun _ => rfl, fun h => absurd h (by decide), fun h => absurd h (by decide)⟩ (cs := []) (fuel := 3000) (by decide +kernel)
theorem c_X7_at_1 : rk_Mc base l cI c1 c2 c3 c4 c5 D ad adV rk_q_X7_at [(2, 7, 0), (0, -2147483648, 2147483647)] [((0, -2147483648, 2147483647), [])] 0 true :=
  rk_chk_ok (rk_hER ad) (ap := (5, 4)) (rk_hap cI c1 c2 c3 c4 c5) (rk_hNw base ad adV) (rk_hNc base ad adV) (mt := rk_mt []) (ctr := rk_look []) (rk_look_ok _ (fun _ h => absurd h List.not_mem_nil))
    (M := rk_q_X7_at) (P := (cX7_at, 3, rk_flf rk_ftX7, rk_mlf [], rk_csf [], rk_ssf [], rk_acf [])) rfl rfl (by decide +kernel) (fun s args h hN => rk_flX7 (fun w hw => List.mem_cons_of_mem _ hw) h hN)
    (fun s args h hN => rk_MlOk_of (fun _ h => absurd h List.not_mem_nil) (by decide +kernel))
    (fun s args h i v hi => absurd hi (by simp [rk_csf])) (fun s hN i k hi => absurd hi (by simp [rk_ssf, rk_lk])) (fun s args h idx hi => absurd hi (by simp [rk_acf]))
    (rk := 1) ⟨fun h => absurd h (by decide), fun _ => rfl, fun h => absurd h (by decide), fun h => absurd h (by decide)⟩ (cs := []) (fuel := 3000) (by decide +kernel)
theorem c_X7_copyFrom_1 : rk_Mc base l cI c1 c2 c3 c4 c5 D ad adV rk_q_X7_copyFrom [(2, 7, 0), (2, 7, 0)] [((9, 0, 0), [])] 0 false :=
  rk_chk_ok (rk_hER ad) (ap := (5, 4)) (rk_hap cI c1 c2 c3 c4 c5) (rk_hNw base ad adV) (rk_hNc base ad adV) (mt := rk_mt [rk_q_J9_min_7cf53, rk_q_X7_at]) (ctr := rk_look [(0, [(0, 0, 120), (0, 120, 120)], [((0, 0, 120), [])], 0, true), (1, [(2, 7, 0), (0, -2147483648, 2147483647)], [((0, -2147483648, 2147483647), [])], 0, true)]) (rk_look_ok _ (List.forall_mem_cons.mpr ⟨c_J9_min_7cf53_1 base l cI c1 c2 c3 c4 c5 D ad adV, List.forall_mem_cons.mpr ⟨c_X7_at_1 base l cI c1 c2 c3 c4 c5 D ad adV, fun _ h => absurd h List.not_mem_nil⟩⟩))
    (M := rk_q_X7_copyFrom) (P := (cX7_copyFrom, 3, rk_flf rk_ftX7, rk_mlf [(28, 0, 2, 0), (31, 1, 2, 7)], rk_csf [], rk_ssf [], rk_acf [])) rfl rfl (by decide +kernel) (fun s args h hN => rk_flX7 (fun w hw => List.mem_cons_of_mem _ hw) h hN)
    (fun s args h hN => rk_MlOk_of (List.forall_mem_cons.mpr ⟨rk_mck_ok (fun w hw => List.mem_cons_of_mem _ hw) h hN rk_cm_J9_min_7cf53 rk_lk_X7_28, List.forall_mem_cons.mpr ⟨rk_mck_ok (fun w hw => List.mem_cons_of_mem _ hw) h hN rk_cm_X7_at rk_lk_X7_31, fun _ h => absurd h List.not_mem_nil⟩⟩) (by decide +kernel))
    (fun s args h i v hi => absurd hi (by simp [rk_csf])) (fun s hN i k hi => absurd hi (by simp [rk_ssf, rk_lk])) (fun s args h idx hi => absurd hi (by simp [rk_acf]))
    (rk := 0) ⟨fun _ => rfl, fun h => absurd h (by decide), fun h => absurd h (by decide), fun h => absurd h (by decide)⟩ (cs := [(23, [(2, 7, 0), (2, 7, 0), (0, 0, 120)], [], (120, [(2, -1)]), (0, []))]) (fuel := 3000) (by decide +kernel)
def rk_q_X4_copyFrom : rk_Mt := (yX4_copyFrom, cX4_copyFrom, 2, none, 1, 60)
theorem c_X4_copyFrom : rk_Mc base l cI c1 c2 c3 c4 c5 D ad adV rk_q_X4_copyFrom [(2, 4, 0), (2, 4, 0)] [((9, 0, 0), [])] 0 false :=
  rk_chk_ok (rk_hER ad) (ap := (5, 4)) (rk_hap cI c1 c2 c3 c4 c5) (rk_hNw base ad adV) (rk_hNc base ad adV) (mt := rk_mt []) (ctr := rk_look []) (rk_look_ok _ (fun _ h => absurd h List.not_mem_nil))
    (M := rk_q_X4_copyFrom) (P := (cX4_copyFrom, 2, rk_flf rk_ftX4, rk_mlf [], rk_csf [], rk_ssf [], rk_acf [26])) rfl rfl (by decide +kernel) (fun s args h hN => rk_flX4 (fun w hw => List.mem_cons_of_mem _ hw) h hN)
    (fun s args h hN => rk_MlOk_of (fun _ h => absurd h List.not_mem_nil) (by decide +kernel))
    (fun s args h i v hi => absurd hi (by simp [rk_csf])) (fun s hN i k hi => absurd hi (by simp [rk_ssf, rk_lk])) (fun s args h idx hi => by
    have hi : idx = 26 := by simpa [rk_acf] using hi.symm
    subst hi
    exact ⟨h _ (List.mem_cons_of_mem _ (rk_tat_ok (i := 1120) (by decide +kernel))), h _ (List.mem_cons_of_mem _ (rk_tat_ok (i := 1100) (by decide +kernel))), h _ (List.mem_cons_of_mem _ (rk_tat_ok (i := 1099) (by decide +kernel))), h _ (List.mem_cons_of_mem _ (rk_tat_ok (i := 139) (by decide +kernel))), by decide +kernel, by decide +kernel⟩)
    (rk := 0) ⟨fun _ => rfl, fun h => absurd h (by decide), fun h => absurd h (by decide), fun h => absurd h (by decide)⟩ (cs := []) (fuel := 3000) (by decide +kernel)
def rk_q_X1_copyFrom : rk_Mt := (yX1_copyFrom, cX1_copyFrom, 3, none, 2, 81)
theorem rk_lk_X1_38 : rk_mck RX1 38 rk_q_X7_copyFrom 2 7 124 (1114, false) 1089 1090 = true := by decide +kernel
theorem rk_lk_X1_42 : rk_mck RX1 42 rk_q_X0_copyFrom 2 1 128 (1115, false) 1107 1108 = true := by decide +kernel
theorem rk_cm_X4_copyFrom : Jvm.Cond.code rk_q_X4_copyFrom.1 rk_q_X4_copyFrom.2.1 rk_q_X4_copyFrom.2.2.1 rk_q_X4_copyFrom.2.2.2.1 ∈ rk_tbl := rk_tat_ok (i := 1119) (by decide +kernel)
theorem rk_lk_X1_45 : rk_mck RX1 45 rk_q_X4_copyFrom 2 5 130 (1116, false) 1117 1118 = true := by decide +kernel
theorem c_X1_copyFrom : rk_Mc base l cI c1 c2 c3 c4 c5 D ad adV rk_q_X1_copyFrom [(2, 1, 0), (2, 1, 0)] [((9, 0, 0), [])] 0 false :=
  rk_chk_ok (rk_hER ad) (ap := (5, 4)) (rk_hap cI c1 c2 c3 c4 c5) (rk_hNw base ad adV) (rk_hNc base ad adV) (mt := rk_mt [rk_q_X0_copyFrom, rk_q_X4_copyFrom, rk_q_X7_copyFrom]) (ctr := rk_look [(0, [(2, 0, 0), (2, 0, 0)], [((9, 0, 0), [])], 0, false), (1, [(2, 4, 0), (2, 4, 0)], [((9, 0, 0), [])], 0, false), (2, [(2, 7, 0), (2, 7, 0)], [((9, 0, 0), [])], 0, false)]) (rk_look_ok _ (List.forall_mem_cons.mpr ⟨c_X0_copyFrom base l cI c1 c2 c3 c4 c5 D ad adV, List.forall_mem_cons.mpr ⟨c_X4_copyFrom base l cI c1 c2 c3 c4 c5 D ad adV, List.forall_mem_cons.mpr ⟨c_X7_copyFrom_1 base l cI c1 c2 c3 c4 c5 D ad adV, fun _ h => absurd h List.not_mem_nil⟩⟩⟩))
    (M := rk_q_X1_copyFrom) (P := (cX1_copyFrom, 3, rk_flf rk_ftX1, rk_mlf [(38, 2, 2, 7), (42, 0, 2, 1), (45, 1, 2, 5)], rk_csf [], rk_ssf [], rk_acf [])) rfl rfl (by decide +kernel) (fun s args h hN => rk_flX1 (fun w hw => List.mem_cons_of_mem _ hw) h hN)
    (fun s args h hN => rk_MlOk_of (List.forall_mem_cons.mpr ⟨rk_mck_ok (fun w hw => List.mem_cons_of_mem _ hw) h hN rk_cm_X7_copyFrom rk_lk_X1_38, List.forall_mem_cons.mpr ⟨rk_mck_ok (fun w hw => List.mem_cons_of_mem _ hw) h hN rk_cm_X0_copyFrom rk_lk_X1_42, List.forall_mem_cons.mpr ⟨rk_mck_ok (fun w hw => List.mem_cons_of_mem _ hw) h hN rk_cm_X4_copyFrom rk_lk_X1_45, fun _ h => absurd h List.not_mem_nil⟩⟩⟩) (by decide +kernel))
    (fun s args h i v hi => absurd hi (by simp [rk_csf])) (fun s hN i k hi => absurd hi (by simp [rk_ssf, rk_lk])) (fun s args h idx hi => absurd hi (by simp [rk_acf]))
    (rk := 0) ⟨fun _ => rfl, fun h => absurd h (by decide), fun h => absurd h (by decide), fun h => absurd h (by decide)⟩ (cs := [(24, [(2, 1, 0), (2, 1, 0), (0, 0, 6)], [], (6, [(2, -1)]), (0, []))]) (fuel := 3000) (by decide +kernel)
def rk_q_X3_copyFrom : rk_Mt := (yX3_copyFrom, cX3_copyFrom, 2, none, 1, 60)
theorem c_X3_copyFrom : rk_Mc base l cI c1 c2 c3 c4 c5 D ad adV rk_q_X3_copyFrom [(2, 3, 0), (2, 3, 0)] [((9, 0, 0), [])] 0 false :=
  rk_chk_ok (rk_hER ad) (ap := (5, 4)) (rk_hap cI c1 c2 c3 c4 c5) (rk_hNw base ad adV) (rk_hNc base ad adV) (mt := rk_mt []) (ctr := rk_look []) (rk_look_ok _ (fun _ h => absurd h List.not_mem_nil))
    (M := rk_q_X3_copyFrom) (P := (cX3_copyFrom, 2, rk_flf rk_ftX3, rk_mlf [], rk_csf [], rk_ssf [], rk_acf [21, 21, 21])) rfl rfl (by decide +kernel) (fun s args h hN => rk_flX3 (fun w hw => List.mem_cons_of_mem _ hw) h hN)
    (fun s args h hN => rk_MlOk_of (fun _ h => absurd h List.not_mem_nil) (by decide +kernel))
    (fun s args h i v hi => absurd hi (by simp [rk_csf])) (fun s hN i k hi => absurd hi (by simp [rk_ssf, rk_lk])) (fun s args h idx hi => by
    have hi : idx = 21 := by simpa [rk_acf] using hi.symm
    subst hi
    exact ⟨h _ (List.mem_cons_of_mem _ (rk_tat_ok (i := 1125) (by decide +kernel))), h _ (List.mem_cons_of_mem _ (rk_tat_ok (i := 1100) (by decide +kernel))), h _ (List.mem_cons_of_mem _ (rk_tat_ok (i := 1099) (by decide +kernel))), h _ (List.mem_cons_of_mem _ (rk_tat_ok (i := 139) (by decide +kernel))), by decide +kernel, by decide +kernel⟩)
    (rk := 0) ⟨fun _ => rfl, fun h => absurd h (by decide), fun h => absurd h (by decide), fun h => absurd h (by decide)⟩ (cs := []) (fuel := 3000) (by decide +kernel)
def rk_q_X10_copyFrom : rk_Mt := (yX10_copyFrom, cX10_copyFrom, 3, none, 3, 103)
theorem rk_cm_X8_copyFrom : Jvm.Cond.code rk_q_X8_copyFrom.1 rk_q_X8_copyFrom.2.1 rk_q_X8_copyFrom.2.2.1 rk_q_X8_copyFrom.2.2.2.1 ∈ rk_tbl := rk_tat_ok (i := 1087) (by decide +kernel)
theorem rk_lk_X10_54 : rk_mck RX10 54 rk_q_X8_copyFrom 2 8 123 (1084, false) 1085 1086 = true := by decide +kernel
theorem rk_cm_X2_copyFrom : Jvm.Cond.code rk_q_X2_copyFrom.1 rk_q_X2_copyFrom.2.1 rk_q_X2_copyFrom.2.2.1 rk_q_X2_copyFrom.2.2.2.1 ∈ rk_tbl := rk_tat_ok (i := 1097) (by decide +kernel)
theorem rk_lk_X10_58 : rk_mck RX10 58 rk_q_X2_copyFrom 2 3 126 (1094, false) 1095 1096 = true := by decide +kernel
theorem rk_cm_X6_copyFrom : Jvm.Cond.code rk_q_X6_copyFrom.1 rk_q_X6_copyFrom.2.1 rk_q_X6_copyFrom.2.2.1 rk_q_X6_copyFrom.2.2.2.1 ∈ rk_tbl := rk_tat_ok (i := 1104) (by decide +kernel)
theorem rk_lk_X10_61 : rk_mck RX10 61 rk_q_X6_copyFrom 2 6 127 (1101, false) 1102 1103 = true := by decide +kernel
theorem rk_cm_X1_copyFrom : Jvm.Cond.code rk_q_X1_copyFrom.1 rk_q_X1_copyFrom.2.1 rk_q_X1_copyFrom.2.2.1 rk_q_X1_copyFrom.2.2.2.1 ∈ rk_tbl := rk_tat_ok (i := 1113) (by decide +kernel)
theorem rk_lk_X10_64 : rk_mck RX10 64 rk_q_X1_copyFrom 2 2 129 (1110, false) 1111 1112 = true := by decide +kernel
theorem rk_cm_X3_copyFrom : Jvm.Cond.code rk_q_X3_copyFrom.1 rk_q_X3_copyFrom.2.1 rk_q_X3_copyFrom.2.2.1 rk_q_X3_copyFrom.2.2.2.1 ∈ rk_tbl := rk_tat_ok (i := 1124) (by decide +kernel)
theorem rk_lk_X10_67 : rk_mck RX10 67 rk_q_X3_copyFrom 2 4 122 (1121, false) 1122 1123 = true := by decide +kernel
theorem c_X10_copyFrom : rk_Mc base l cI c1 c2 c3 c4 c5 D ad adV rk_q_X10_copyFrom [(2, 10, 0), (2, 10, 0)] [((9, 0, 0), [])] 0 false :=
  rk_chk_ok (rk_hER ad) (ap := (5, 4)) (rk_hap cI c1 c2 c3 c4 c5) (rk_hNw base ad adV) (rk_hNc base ad adV) (mt := rk_mt [rk_q_X1_copyFrom, rk_q_X3_copyFrom, rk_q_X8_copyFrom, rk_q_X2_copyFrom, rk_q_X6_copyFrom]) (ctr := rk_look [(0, [(2, 1, 0), (2, 1, 0)], [((9, 0, 0), [])], 0, false), (1, [(2, 3, 0), (2, 3, 0)], [((9, 0, 0), [])], 0, false), (2, [(2, 8, 0), (2, 8, 0)], [((9, 0, 0), [])], 0, false), (3, [(2, 2, 0), (2, 2, 0)], [((9, 0, 0), [])], 0, false), (4, [(2, 5, 0), (2, 5, 0)], [((9, 0, 0), [])], 0, false)]) (rk_look_ok _ (List.forall_mem_cons.mpr ⟨c_X1_copyFrom base l cI c1 c2 c3 c4 c5 D ad adV, List.forall_mem_cons.mpr ⟨c_X3_copyFrom base l cI c1 c2 c3 c4 c5 D ad adV, List.forall_mem_cons.mpr ⟨c_X8_copyFrom base l cI c1 c2 c3 c4 c5 D ad adV, List.forall_mem_cons.mpr ⟨c_X2_copyFrom base l cI c1 c2 c3 c4 c5 D ad adV, List.forall_mem_cons.mpr ⟨c_X6_copyFrom base l cI c1 c2 c3 c4 c5 D ad adV, fun _ h => absurd h List.not_mem_nil⟩⟩⟩⟩⟩))
    (M := rk_q_X10_copyFrom) (P := (cX10_copyFrom, 3, rk_flf rk_ftX10, rk_mlf [(54, 2, 2, 8), (58, 3, 2, 3), (61, 4, 2, 6), (64, 0, 2, 2), (67, 1, 2, 4)], rk_csf [], rk_ssf [], rk_acf [70])) rfl rfl (by decide +kernel) (fun s args h hN => rk_flX10 (fun w hw => List.mem_cons_of_mem _ hw) h hN)
    (fun s args h hN => rk_MlOk_of (List.forall_mem_cons.mpr ⟨rk_mck_ok (fun w hw => List.mem_cons_of_mem _ hw) h hN rk_cm_X8_copyFrom rk_lk_X10_54, List.forall_mem_cons.mpr ⟨rk_mck_ok (fun w hw => List.mem_cons_of_mem _ hw) h hN rk_cm_X2_copyFrom rk_lk_X10_58, List.forall_mem_cons.mpr ⟨rk_mck_ok (fun w hw => List.mem_cons_of_mem _ hw) h hN rk_cm_X6_copyFrom rk_lk_X10_61, List.forall_mem_cons.mpr ⟨rk_mck_ok (fun w hw => List.mem_cons_of_mem _ hw) h hN rk_cm_X1_copyFrom rk_lk_X10_64, List.forall_mem_cons.mpr ⟨rk_mck_ok (fun w hw => List.mem_cons_of_mem _ hw) h hN rk_cm_X3_copyFrom rk_lk_X10_67, fun _ h => absurd h List.not_mem_nil⟩⟩⟩⟩⟩) (by decide +kernel))
    (fun s args h i v hi => absurd hi (by simp [rk_csf])) (fun s hN i k hi => absurd hi (by simp [rk_ssf, rk_lk])) (fun s args h idx hi => by
    have hi : idx = 70 := by simpa [rk_acf] using hi.symm
    subst hi
    exact ⟨h _ (List.mem_cons_of_mem _ (rk_tat_ok (i := 1126) (by decide +kernel))), h _ (List.mem_cons_of_mem _ (rk_tat_ok (i := 1100) (by decide +kernel))), h _ (List.mem_cons_of_mem _ (rk_tat_ok (i := 1099) (by decide +kernel))), h _ (List.mem_cons_of_mem _ (rk_tat_ok (i := 139) (by decide +kernel))), by decide +kernel, by decide +kernel⟩)
    (rk := 0) ⟨fun _ => rfl, fun h => absurd h (by decide), fun h => absurd h (by decide), fun h => absurd h (by decide)⟩ (cs := [(2, [(2, 10, 0), (2, 10, 0), (0, 0, 40)], [], (87, [(2, -1)]), (0, [])), (31, [(2, 10, 0), (2, 10, 0), (0, 0, 32)], [], (46, [(2, -1)]), (0, [])), (60, [(2, 10, 0), (2, 10, 0), (0, 0, 4)], [], (13, [(2, -1)]), (0, [])), (88, [(2, 10, 0), (2, 10, 0), (0, 0, 8)], [], (8, [(2, -1)]), (0, []))]) (fuel := 3000) (by decide +kernel)
def rk_q_X8_isPaidFor : rk_Mt := (yX8_isPaidFor, cX8_isPaidFor, 4, (some .boolean), 0, 0)
theorem c_X8_isPaidFor : rk_Mc base l cI c1 c2 c3 c4 c5 D ad adV rk_q_X8_isPaidFor [(2, 8, 0), (2, 8, 0)] [((0, 0, 1), [])] 0 true :=
  rk_chk_ok (rk_hER ad) (ap := (5, 4)) (rk_hap cI c1 c2 c3 c4 c5) (rk_hNw base ad adV) (rk_hNc base ad adV) (mt := rk_mt []) (ctr := rk_look []) (rk_look_ok _ (fun _ h => absurd h List.not_mem_nil))
    (M := rk_q_X8_isPaidFor) (P := (cX8_isPaidFor, 4, rk_flf rk_ftX8, rk_mlf [], rk_csf [], rk_ssf [], rk_acf [])) rfl rfl (by decide +kernel) (fun s args h hN => rk_flX8 (fun w hw => List.mem_cons_of_mem _ hw) h hN)
    (fun s args h hN => rk_MlOk_of (fun _ h => absurd h List.not_mem_nil) (by decide +kernel))
    (fun s args h i v hi => absurd hi (by simp [rk_csf])) (fun s hN i k hi => absurd hi (by simp [rk_ssf, rk_lk])) (fun s args h idx hi => absurd hi (by simp [rk_acf]))
    (rk := 2) ⟨fun h => absurd h (by decide), fun h => absurd h (by decide), fun _ => rfl, fun h => absurd h (by decide)⟩ (cs := []) (fuel := 3000) (by decide +kernel)
def rk_q_X11_sound : rk_Mt := (yX11_sound, cX11_sound, 4, (some .int), 1, 23)
theorem rk_cm_X8_isPaidFor : Jvm.Cond.code rk_q_X8_isPaidFor.1 rk_q_X8_isPaidFor.2.1 rk_q_X8_isPaidFor.2.2.1 rk_q_X8_isPaidFor.2.2.2.1 ∈ rk_tbl := rk_tat_ok (i := 1134) (by decide +kernel)
theorem rk_lk_X11_218 : rk_mck RX11 218 rk_q_X8_isPaidFor 2 8 123 (1131, false) 1132 1133 = true := by decide +kernel
theorem c_X11_sound : rk_Mc base l cI c1 c2 c3 c4 c5 D ad adV rk_q_X11_sound [(2, 11, 0), (0, -2147483648, 2147483647)] [((0, -1, 1), [])] 0 true :=
  rk_chk_ok (rk_hER ad) (ap := (5, 4)) (rk_hap cI c1 c2 c3 c4 c5) (rk_hNw base ad adV) (rk_hNc base ad adV) (mt := rk_mt [rk_q_X11_isSocket, rk_q_X8_isPaidFor, rk_q_X11_bit]) (ctr := rk_look [(0, [(0, -2147483648, 2147483647)], [((0, 1, 1), [(0, (0, 0, 39))]), ((0, 0, 0), [])], 0, true), (1, [(2, 8, 0), (2, 8, 0)], [((0, 0, 1), [])], 0, true), (2, [(0, 0, 1)], [((0, 0, 1), [])], 0, true)]) (rk_look_ok _ (List.forall_mem_cons.mpr ⟨c_X11_isSocket base l cI c1 c2 c3 c4 c5 D ad adV, List.forall_mem_cons.mpr ⟨c_X8_isPaidFor base l cI c1 c2 c3 c4 c5 D ad adV, List.forall_mem_cons.mpr ⟨c_X11_bit base l cI c1 c2 c3 c4 c5 D ad adV, fun _ h => absurd h List.not_mem_nil⟩⟩⟩))
    (M := rk_q_X11_sound) (P := (cX11_sound, 4, rk_flf rk_ftX11, rk_mlf [(23, 0, 1, 0), (195, 2, 1, 0), (218, 1, 2, 8)], rk_csf [], rk_ssf [], rk_acf [])) rfl rfl (by decide +kernel) (fun s args h hN => rk_flX11 (fun w hw => List.mem_cons_of_mem _ hw) h hN)
    (fun s args h hN => rk_MlOk_of (List.forall_mem_cons.mpr ⟨rk_mck_ok (fun w hw => List.mem_cons_of_mem _ hw) h hN rk_cm_X11_isSocket rk_lk_X11_23, List.forall_mem_cons.mpr ⟨rk_mck_ok (fun w hw => List.mem_cons_of_mem _ hw) h hN rk_cm_X11_bit rk_lk_X11_195, List.forall_mem_cons.mpr ⟨rk_mck_ok (fun w hw => List.mem_cons_of_mem _ hw) h hN rk_cm_X8_isPaidFor rk_lk_X11_218, fun _ h => absurd h List.not_mem_nil⟩⟩⟩) (by decide +kernel))
    (fun s args h i v hi => absurd hi (by simp [rk_csf])) (fun s hN i k hi => absurd hi (by simp [rk_ssf, rk_lk])) (fun s args h idx hi => absurd hi (by simp [rk_acf]))
    (rk := 1) ⟨fun h => absurd h (by decide), fun _ => rfl, fun h => absurd h (by decide), fun h => absurd h (by decide)⟩ (cs := []) (fuel := 3000) (by decide +kernel)
def rk_q_X10_total : rk_Mt := (yX10_total, cX10_total, 5, (some .int), 1, 20)
theorem rk_lk_X10_364 : rk_mck RX10 364 rk_q_X11_bit 1 0 120 (15, true) 773 0 = true := by decide +kernel
theorem c_X10_total : rk_Mc base l cI c1 c2 c3 c4 c5 D ad adV rk_q_X10_total [(2, 10, 0), (0, -2147483648, 2147483647)] [((0, -2147483648, 2147483647), [])] 0 true :=
  rk_chk_ok (rk_hER ad) (ap := (5, 4)) (rk_hap cI c1 c2 c3 c4 c5) (rk_hNw base ad adV) (rk_hNc base ad adV) (mt := rk_mt [rk_q_X11_bit]) (ctr := rk_look [(0, [(0, 0, 1)], [((0, 0, 1), [])], 0, true)]) (rk_look_ok _ (List.forall_mem_cons.mpr ⟨c_X11_bit base l cI c1 c2 c3 c4 c5 D ad adV, fun _ h => absurd h List.not_mem_nil⟩))
    (M := rk_q_X10_total) (P := (cX10_total, 5, rk_flf rk_ftX10, rk_mlf [(364, 0, 1, 0)], rk_csf [], rk_ssf [], rk_acf [])) rfl rfl (by decide +kernel) (fun s args h hN => rk_flX10 (fun w hw => List.mem_cons_of_mem _ hw) h hN)
    (fun s args h hN => rk_MlOk_of (List.forall_mem_cons.mpr ⟨rk_mck_ok (fun w hw => List.mem_cons_of_mem _ hw) h hN rk_cm_X11_bit rk_lk_X10_364, fun _ h => absurd h List.not_mem_nil⟩) (by decide +kernel))
    (fun s args h i v hi => absurd hi (by simp [rk_csf])) (fun s hN i k hi => absurd hi (by simp [rk_ssf, rk_lk])) (fun s args h idx hi => absurd hi (by simp [rk_acf]))
    (rk := 1) ⟨fun h => absurd h (by decide), fun _ => rfl, fun h => absurd h (by decide), fun h => absurd h (by decide)⟩ (cs := [(4, [(2, 10, 0), (0, -2147483648, 2147483647), (0, -2147483648, 2147483647), (0, 0, 40), (4, 0, 0)], [], (40, [(3, -1)]), (0, []))]) (fuel := 3000) (by decide +kernel)
def rk_q_X10_received : rk_Mt := (yX10_received, cX10_received, 4, (some .int), 0, 0)
theorem c_X10_received : rk_Mc base l cI c1 c2 c3 c4 c5 D ad adV rk_q_X10_received [(2, 10, 0), (0, 0, 1)] [((0, -2147483648, 2147483647), [])] 0 true :=
  rk_chk_ok (rk_hER ad) (ap := (5, 4)) (rk_hap cI c1 c2 c3 c4 c5) (rk_hNw base ad adV) (rk_hNc base ad adV) (mt := rk_mt []) (ctr := rk_look []) (rk_look_ok _ (fun _ h => absurd h List.not_mem_nil))
    (M := rk_q_X10_received) (P := (cX10_received, 4, rk_flf rk_ftX10, rk_mlf [], rk_csf [], rk_ssf [], rk_acf [])) rfl rfl (by decide +kernel) (fun s args h hN => rk_flX10 (fun w hw => List.mem_cons_of_mem _ hw) h hN)
    (fun s args h hN => rk_MlOk_of (fun _ h => absurd h List.not_mem_nil) (by decide +kernel))
    (fun s args h i v hi => absurd hi (by simp [rk_csf])) (fun s hN i k hi => absurd hi (by simp [rk_ssf, rk_lk])) (fun s args h idx hi => absurd hi (by simp [rk_acf]))
    (rk := 1) ⟨fun h => absurd h (by decide), fun _ => rfl, fun h => absurd h (by decide), fun h => absurd h (by decide)⟩ (cs := [(4, [(2, 10, 0), (0, 0, 1), (0, -2147483648, 2147483647), (0, 0, 8)], [], (8, [(3, -1)]), (0, []))]) (fuel := 3000) (by decide +kernel)
def rk_q_X11_look : rk_Mt := (yX11_look, cX11_look, 2, (some .int), 2, 44)
theorem rk_cm_X10_received : Jvm.Cond.code rk_q_X10_received.1 rk_q_X10_received.2.1 rk_q_X10_received.2.2.1 rk_q_X10_received.2.2.2.1 ∈ rk_tbl := rk_tat_ok (i := 1146) (by decide +kernel)
theorem rk_lk_X11_225 : rk_mck RX11 225 rk_q_X10_received 2 10 121 (1143, false) 1144 1145 = true := by decide +kernel
theorem rk_cm_X10_total : Jvm.Cond.code rk_q_X10_total.1 rk_q_X10_total.2.1 rk_q_X10_total.2.2.1 rk_q_X10_total.2.2.2.1 ∈ rk_tbl := rk_tat_ok (i := 1150) (by decide +kernel)
theorem rk_lk_X11_233 : rk_mck RX11 233 rk_q_X10_total 2 10 121 (1147, false) 1148 1149 = true := by decide +kernel
theorem c_X11_look : rk_Mc base l cI c1 c2 c3 c4 c5 D ad adV rk_q_X11_look [(2, 11, 0), (0, -2147483648, 2147483647)] [((0, -2147483648, 2147483647), [])] 0 true :=
  rk_chk_ok (rk_hER ad) (ap := (5, 4)) (rk_hap cI c1 c2 c3 c4 c5) (rk_hNw base ad adV) (rk_hNc base ad adV) (mt := rk_mt [rk_q_X10_received, rk_q_X10_total]) (ctr := rk_look [(0, [(2, 10, 0), (0, 0, 1)], [((0, -2147483648, 2147483647), [])], 0, true), (1, [(2, 10, 0), (0, -2147483648, 2147483647)], [((0, -2147483648, 2147483647), [])], 0, true)]) (rk_look_ok _ (List.forall_mem_cons.mpr ⟨c_X10_received base l cI c1 c2 c3 c4 c5 D ad adV, List.forall_mem_cons.mpr ⟨c_X10_total base l cI c1 c2 c3 c4 c5 D ad adV, fun _ h => absurd h List.not_mem_nil⟩⟩))
    (M := rk_q_X11_look) (P := (cX11_look, 2, rk_flf rk_ftX11, rk_mlf [(225, 0, 2, 10), (233, 1, 2, 10)], rk_csf [], rk_ssf [], rk_acf [])) rfl rfl (by decide +kernel) (fun s args h hN => rk_flX11 (fun w hw => List.mem_cons_of_mem _ hw) h hN)
    (fun s args h hN => rk_MlOk_of (List.forall_mem_cons.mpr ⟨rk_mck_ok (fun w hw => List.mem_cons_of_mem _ hw) h hN rk_cm_X10_received rk_lk_X11_225, List.forall_mem_cons.mpr ⟨rk_mck_ok (fun w hw => List.mem_cons_of_mem _ hw) h hN rk_cm_X10_total rk_lk_X11_233, fun _ h => absurd h List.not_mem_nil⟩⟩) (by decide +kernel))
    (fun s args h i v hi => absurd hi (by simp [rk_csf])) (fun s hN i k hi => absurd hi (by simp [rk_ssf, rk_lk])) (fun s args h idx hi => absurd hi (by simp [rk_acf]))
    (rk := 1) ⟨fun h => absurd h (by decide), fun _ => rfl, fun h => absurd h (by decide), fun h => absurd h (by decide)⟩ (cs := []) (fuel := 3000) (by decide +kernel)
def rk_q_X5_portToward : rk_Mt := (yX5_portToward, cX5_portToward, 7, (some .int), 1, 22)
theorem c_X5_portToward : rk_Mc base l cI c1 c2 c3 c4 c5 D ad adV rk_q_X5_portToward [(2, 10, 0), (2, 23, 0), (0, 0, 3), (0, 0, 7)] [((0, -1, 7), [])] 0 true :=
  rk_chk_ok (rk_hER ad) (ap := (5, 4)) (rk_hap cI c1 c2 c3 c4 c5) (rk_hNw base ad adV) (rk_hNc base ad adV) (mt := rk_mt [rk_q_X5_routerAt]) (ctr := rk_look [(0, [(2, 10, 0), (0, 0, 31)], [((0, -1, 3), [])], 0, true)]) (rk_look_ok _ (List.forall_mem_cons.mpr ⟨c_X5_routerAt base l cI c1 c2 c3 c4 c5 D ad adV, fun _ h => absurd h List.not_mem_nil⟩))
    (M := rk_q_X5_portToward) (P := (cX5_portToward, 7, rk_flf rk_ftX5, rk_mlf [(31, 0, 2, 0)], rk_csf [], rk_ssf [], rk_acf [])) rfl rfl (by decide +kernel) (fun s args h hN => rk_flX5 (fun w hw => List.mem_cons_of_mem _ hw) h hN)
    (fun s args h hN => rk_MlOk_of (List.forall_mem_cons.mpr ⟨rk_mck_ok (fun w hw => List.mem_cons_of_mem _ hw) h hN rk_cm_X5_routerAt rk_lk_X5_31, fun _ h => absurd h List.not_mem_nil⟩) (by decide +kernel))
    (fun s args h i v hi => absurd hi (by simp [rk_csf])) (fun s hN i k hi => absurd hi (by simp [rk_ssf, rk_lk])) (fun s args h idx hi => absurd hi (by simp [rk_acf]))
    (rk := 1) ⟨fun h => absurd h (by decide), fun _ => rfl, fun h => absurd h (by decide), fun h => absurd h (by decide)⟩ (cs := [(3, [(2, 10, 0), (2, 23, 0), (0, 0, 3), (0, 0, 7), (0, 1, 8), (4, 0, 0), (4, 0, 0)], [], (8, [(4, -1)]), (0, []))]) (fuel := 3000) (by decide +kernel)
theorem c_X7_dropPacket_0 : rk_Mc base l cI c1 c2 c3 c4 c5 D ad adV rk_q_X7_dropPacket [(2, 6, 0)] [((9, 0, 0), [])] 0 false :=
  rk_chk_ok (rk_hER ad) (ap := (5, 4)) (rk_hap cI c1 c2 c3 c4 c5) (rk_hNw base ad adV) (rk_hNc base ad adV) (mt := rk_mt [rk_q_X7_take]) (ctr := rk_look [(0, [(2, 6, 0)], [((0, -2147483648, 2147483647), [])], 0, false)]) (rk_look_ok _ (List.forall_mem_cons.mpr ⟨c_X7_take_0 base l cI c1 c2 c3 c4 c5 D ad adV, fun _ h => absurd h List.not_mem_nil⟩))
    (M := rk_q_X7_dropPacket) (P := (cX7_dropPacket, 3, rk_flf rk_ftX7, rk_mlf [(35, 0, 1, 7)], rk_csf [], rk_ssf [], rk_acf [])) rfl rfl (by decide +kernel) (fun s args h hN => rk_flX7 (fun w hw => List.mem_cons_of_mem _ hw) h hN)
    (fun s args h hN => rk_MlOk_of (List.forall_mem_cons.mpr ⟨rk_mck_ok (fun w hw => List.mem_cons_of_mem _ hw) h hN rk_cm_X7_take rk_lk_X7_35, fun _ h => absurd h List.not_mem_nil⟩) (by decide +kernel))
    (fun s args h i v hi => absurd hi (by simp [rk_csf])) (fun s hN i k hi => absurd hi (by simp [rk_ssf, rk_lk])) (fun s args h idx hi => absurd hi (by simp [rk_acf]))
    (rk := 0) ⟨fun _ => rfl, fun h => absurd h (by decide), fun h => absurd h (by decide), fun h => absurd h (by decide)⟩ (cs := [(7, [(2, 6, 0), (0, -2147483648, 2147483647), (0, 0, 25)], [], (0, [(2, 1)]), (0, []))]) (fuel := 3000) (by decide +kernel)
def rk_q_X9_isLetter : rk_Mt := (yX9_isLetter, cX9_isLetter, 1, (some .boolean), 0, 0)
theorem c_X9_isLetter : rk_Mc base l cI c1 c2 c3 c4 c5 D ad adV rk_q_X9_isLetter [(0, -2147483648, 2147483647)] [((0, 1, 1), [(0, (0, 97, 122))]), ((0, 0, 0), [])] 0 true :=
  rk_chk_ok (rk_hER ad) (ap := (5, 4)) (rk_hap cI c1 c2 c3 c4 c5) (rk_hNw base ad adV) (rk_hNc base ad adV) (mt := rk_mt []) (ctr := rk_look []) (rk_look_ok _ (fun _ h => absurd h List.not_mem_nil))
    (M := rk_q_X9_isLetter) (P := (cX9_isLetter, 1, rk_flf rk_ftX9, rk_mlf [], rk_csf [], rk_ssf [], rk_acf [])) rfl rfl (by decide +kernel) (fun s args h hN => rk_flX9 (fun w hw => List.mem_cons_of_mem _ hw) h hN)
    (fun s args h hN => rk_MlOk_of (fun _ h => absurd h List.not_mem_nil) (by decide +kernel))
    (fun s args h i v hi => absurd hi (by simp [rk_csf])) (fun s hN i k hi => absurd hi (by simp [rk_ssf, rk_lk])) (fun s args h idx hi => absurd hi (by simp [rk_acf]))
    (rk := 2) ⟨fun h => absurd h (by decide), fun h => absurd h (by decide), fun _ => rfl, fun h => absurd h (by decide)⟩ (cs := []) (fuel := 3000) (by decide +kernel)
end RKX
