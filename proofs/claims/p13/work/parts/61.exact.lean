theorem ex_alt {G : Nat → Option Nat} {X : Int} {av : List Value} {v : Option Value} {a b p q : Int} {x : Int32} (hx : av[1]? = some (.int x)) (h : rk_alt G X av [((0, 1, 1), [(1, (0, a, b))]), ((0, 0, 0), [(1, (0, -2147483648, p))]), ((0, 0, 0), [(1, (0, q, 2147483647))])] v) : ∃ w : Int32, v = some (.int w) ∧ ((w.toInt = 1 ∧ a ≤ x.toInt ∧ x.toInt ≤ b) ∨ (w.toInt = 0 ∧ (x.toInt ≤ p ∨ q ≤ x.toInt))) := by
  obtain ⟨y, hy, h1, h2⟩ := h
  rcases List.mem_cons.mp hy with rfl | hy
  · obtain ⟨w, rfl, k, rfl, k1, k2⟩ := (h1 : ∃ w, v = some w ∧ rk_has G X (0, 1, 1) w)
    obtain ⟨w9, e9, x9, e10, y1, y2⟩ := h2 _ List.mem_cons_self
    rw [hx] at e9
    cases e9
    cases e10
    exact ⟨k, rfl, Or.inl ⟨by omega, y1, y2⟩⟩
  rcases List.mem_cons.mp hy with rfl | hy
  · obtain ⟨w, rfl, k, rfl, k1, k2⟩ := (h1 : ∃ w, v = some w ∧ rk_has G X (0, 0, 0) w)
    obtain ⟨w9, e9, x9, e10, y1, y2⟩ := h2 _ List.mem_cons_self
    rw [hx] at e9
    cases e9
    cases e10
    exact ⟨k, rfl, Or.inr ⟨by omega, Or.inl y2⟩⟩
  · rw [List.mem_singleton] at hy
    subst hy
    obtain ⟨w, rfl, k, rfl, k1, k2⟩ := (h1 : ∃ w, v = some w ∧ rk_has G X (0, 0, 0) w)
    obtain ⟨w9, e9, x9, e10, y1, y2⟩ := h2 _ List.mem_cons_self
    rw [hx] at e9
    cases e9
    cases e10
    exact ⟨k, rfl, Or.inr ⟨by omega, Or.inr y1⟩⟩
section RKX
variable (base : Nat) (l : Launch) (cI c1 c2 c3 c4 c5 : ClassId) (D : va_G) (ad adV : Nat → Nat)
theorem c_X11_watchE : rk_Mc base l cI c1 c2 c3 c4 c5 D ad adV rk_q_X11_watch [(2, 11, 0), (0, -2147483648, 2147483647)] [((0, 1, 1), [(1, (0, 5, 200))]), ((0, 0, 0), [(1, (0, -2147483648, 4))]), ((0, 0, 0), [(1, (0, 201, 2147483647))])] 0 1 :=
  rk_chk_ok (rk_hER ad) (ap := (5, 4)) (rk_hap cI c1 c2 c3 c4 c5) (rk_hNw base ad adV) (rk_hNc base ad adV) rc_LvOk (mt := rk_mt []) (ctr := rk_look []) (rk_look_ok _ (fun _ h => absurd h List.not_mem_nil))
    (M := rk_q_X11_watch) (P := (cX11_watch, 2, rk_flf rk_ftX11, rk_mlf [], rk_csf [], rk_ssf [], rk_acf [] [])) rfl rfl (by decide +kernel) (fun s args h hN => rk_flX11 (fun w hw => List.mem_cons_of_mem _ hw) h hN)
    (fun s args h hN => rk_MlOk_of (fun _ h => absurd h List.not_mem_nil) (by decide +kernel))
    (fun s args h i v hi => absurd hi (by simp [rk_csf])) (fun s hN i k hi => absurd hi (by simp [rk_ssf, rk_lk])) (fun s args h => rk_acf_ok (fun _ h => absurd h List.not_mem_nil) (fun _ h => absurd h List.not_mem_nil))
    (fun _ _ _ _ h => h) (rk := 2) ⟨fun h => absurd h (by decide), fun h => absurd h (by decide), fun _ => rfl, fun h => absurd h (by decide)⟩ (cs := []) (fuel := 3000) (by decide +kernel)
theorem c_X12_isInE_watch : rm_Mc base l cI c1 c2 c3 c4 c5 D ad adV rk_q_X12_isIn [(2, 12, 0), (0, -2147483648, 2147483647), (0, 5, 5), (0, 200, 200)] [((0, 1, 1), [(1, (0, 5, 200))]), ((0, 0, 0), [(1, (0, -2147483648, 4))]), ((0, 0, 0), [(1, (0, 201, 2147483647))])] 0 0 :=
  rk_chk_ok (rk_hER ad) (ap := (5, 4)) (rk_hap cI c1 c2 c3 c4 c5) (rk_hNw base ad adV) (rk_hNc base ad adV) rm_LvOk (mt := rk_mt []) (ctr := rk_look []) (rk_look_ok _ (fun _ h => absurd h List.not_mem_nil))
    (M := rk_q_X12_isIn) (P := (cX12_isIn, 4, rk_flf rk_ftX12, rk_mlf [], rk_csf [], rk_ssf [], rk_acf [] [])) rfl rfl (by decide +kernel) (fun s args h hN => rk_flX12 (fun w hw => List.mem_cons_of_mem _ hw) h hN)
    (fun s args h hN => rk_MlOk_of (fun _ h => absurd h List.not_mem_nil) (by decide +kernel))
    (fun s args h i v hi => absurd hi (by simp [rk_csf])) (fun s hN i k hi => absurd hi (by simp [rk_ssf, rk_lk])) (fun s args h => rk_acf_ok (fun _ h => absurd h List.not_mem_nil) (fun _ h => absurd h List.not_mem_nil))
    (fun _ _ _ _ h => h) (rk := 2) ⟨fun h => absurd h (by decide), fun h => absurd h (by decide), fun _ => rfl, fun h => absurd h (by decide)⟩ (cs := []) (fuel := 3000) (by decide +kernel)
theorem c_X12_watchE : rm_Mc base l cI c1 c2 c3 c4 c5 D ad adV rk_q_X12_watch [(2, 12, 0), (0, -2147483648, 2147483647)] [((0, 1, 1), [(1, (0, 5, 200))]), ((0, 0, 0), [(1, (0, -2147483648, 4))]), ((0, 0, 0), [(1, (0, 201, 2147483647))])] 0 1 :=
  rk_chk_ok (rk_hER ad) (ap := (5, 4)) (rk_hap cI c1 c2 c3 c4 c5) (rk_hNw base ad adV) (rk_hNc base ad adV) rm_LvOk (mt := rk_mt [rk_q_X12_isIn]) (ctr := rk_look [(0, [(2, 12, 0), (0, -2147483648, 2147483647), (0, 5, 5), (0, 200, 200)], [((0, 1, 1), [(1, (0, 5, 200))]), ((0, 0, 0), [(1, (0, -2147483648, 4))]), ((0, 0, 0), [(1, (0, 201, 2147483647))])], 0, 0)]) (rk_look_ok _ (List.forall_mem_cons.mpr ⟨c_X12_isInE_watch base l cI c1 c2 c3 c4 c5 D ad adV, fun _ h => absurd h List.not_mem_nil⟩))
    (M := rk_q_X12_watch) (P := (cX12_watch, 2, rk_flf rk_ftX12, rk_mlf [(104, 0, 4, 12)], rk_csf [], rk_ssf [], rk_acf [] [])) rfl rfl (by decide +kernel) (fun s args h hN => rk_flX12 (fun w hw => List.mem_cons_of_mem _ hw) h hN)
    (fun s args h hN => rk_MlOk_of (List.forall_mem_cons.mpr ⟨rk_mck_ok (fun w hw => List.mem_cons_of_mem _ hw) h hN rk_cm_X12_isIn rk_lk_X12_104, fun _ h => absurd h List.not_mem_nil⟩) (by decide +kernel))
    (fun s args h i v hi => absurd hi (by simp [rk_csf])) (fun s hN i k hi => absurd hi (by simp [rk_ssf, rk_lk])) (fun s args h => rk_acf_ok (fun _ h => absurd h List.not_mem_nil) (fun _ h => absurd h List.not_mem_nil))
    (fun _ _ _ _ h => h) (rk := 2) ⟨fun h => absurd h (by decide), fun h => absurd h (by decide), fun _ => rfl, fun h => absurd h (by decide)⟩ (cs := []) (fuel := 3000) (by decide +kernel)
theorem c_X11_oddsE : rk_Mc base l cI c1 c2 c3 c4 c5 D ad adV rk_q_X11_odds [(2, 11, 0), (0, -2147483648, 2147483647)] [((0, 1, 1), [(1, (0, 0, 1000))]), ((0, 0, 0), [(1, (0, -2147483648, -1))]), ((0, 0, 0), [(1, (0, 1001, 2147483647))])] 0 1 :=
  rk_chk_ok (rk_hER ad) (ap := (5, 4)) (rk_hap cI c1 c2 c3 c4 c5) (rk_hNw base ad adV) (rk_hNc base ad adV) rc_LvOk (mt := rk_mt []) (ctr := rk_look []) (rk_look_ok _ (fun _ h => absurd h List.not_mem_nil))
    (M := rk_q_X11_odds) (P := (cX11_odds, 2, rk_flf rk_ftX11, rk_mlf [], rk_csf [], rk_ssf [], rk_acf [] [])) rfl rfl (by decide +kernel) (fun s args h hN => rk_flX11 (fun w hw => List.mem_cons_of_mem _ hw) h hN)
    (fun s args h hN => rk_MlOk_of (fun _ h => absurd h List.not_mem_nil) (by decide +kernel))
    (fun s args h i v hi => absurd hi (by simp [rk_csf])) (fun s hN i k hi => absurd hi (by simp [rk_ssf, rk_lk])) (fun s args h => rk_acf_ok (fun _ h => absurd h List.not_mem_nil) (fun _ h => absurd h List.not_mem_nil))
    (fun _ _ _ _ h => h) (rk := 2) ⟨fun h => absurd h (by decide), fun h => absurd h (by decide), fun _ => rfl, fun h => absurd h (by decide)⟩ (cs := []) (fuel := 3000) (by decide +kernel)
theorem c_X12_isInE_odds : rm_Mc base l cI c1 c2 c3 c4 c5 D ad adV rk_q_X12_isIn [(2, 12, 0), (0, -2147483648, 2147483647), (0, 0, 0), (0, 1000, 1000)] [((0, 1, 1), [(1, (0, 0, 1000))]), ((0, 0, 0), [(1, (0, -2147483648, -1))]), ((0, 0, 0), [(1, (0, 1001, 2147483647))])] 0 0 :=
  rk_chk_ok (rk_hER ad) (ap := (5, 4)) (rk_hap cI c1 c2 c3 c4 c5) (rk_hNw base ad adV) (rk_hNc base ad adV) rm_LvOk (mt := rk_mt []) (ctr := rk_look []) (rk_look_ok _ (fun _ h => absurd h List.not_mem_nil))
    (M := rk_q_X12_isIn) (P := (cX12_isIn, 4, rk_flf rk_ftX12, rk_mlf [], rk_csf [], rk_ssf [], rk_acf [] [])) rfl rfl (by decide +kernel) (fun s args h hN => rk_flX12 (fun w hw => List.mem_cons_of_mem _ hw) h hN)
    (fun s args h hN => rk_MlOk_of (fun _ h => absurd h List.not_mem_nil) (by decide +kernel))
    (fun s args h i v hi => absurd hi (by simp [rk_csf])) (fun s hN i k hi => absurd hi (by simp [rk_ssf, rk_lk])) (fun s args h => rk_acf_ok (fun _ h => absurd h List.not_mem_nil) (fun _ h => absurd h List.not_mem_nil))
    (fun _ _ _ _ h => h) (rk := 2) ⟨fun h => absurd h (by decide), fun h => absurd h (by decide), fun _ => rfl, fun h => absurd h (by decide)⟩ (cs := []) (fuel := 3000) (by decide +kernel)
theorem c_X12_oddsE : rm_Mc base l cI c1 c2 c3 c4 c5 D ad adV rk_q_X12_odds [(2, 12, 0), (0, -2147483648, 2147483647)] [((0, 1, 1), [(1, (0, 0, 1000))]), ((0, 0, 0), [(1, (0, -2147483648, -1))]), ((0, 0, 0), [(1, (0, 1001, 2147483647))])] 0 1 :=
  rk_chk_ok (rk_hER ad) (ap := (5, 4)) (rk_hap cI c1 c2 c3 c4 c5) (rk_hNw base ad adV) (rk_hNc base ad adV) rm_LvOk (mt := rk_mt [rk_q_X12_isIn]) (ctr := rk_look [(0, [(2, 12, 0), (0, -2147483648, 2147483647), (0, 0, 0), (0, 1000, 1000)], [((0, 1, 1), [(1, (0, 0, 1000))]), ((0, 0, 0), [(1, (0, -2147483648, -1))]), ((0, 0, 0), [(1, (0, 1001, 2147483647))])], 0, 0)]) (rk_look_ok _ (List.forall_mem_cons.mpr ⟨c_X12_isInE_odds base l cI c1 c2 c3 c4 c5 D ad adV, fun _ h => absurd h List.not_mem_nil⟩))
    (M := rk_q_X12_odds) (P := (cX12_odds, 2, rk_flf rk_ftX12, rk_mlf [(104, 0, 4, 12)], rk_csf [], rk_ssf [], rk_acf [] [])) rfl rfl (by decide +kernel) (fun s args h hN => rk_flX12 (fun w hw => List.mem_cons_of_mem _ hw) h hN)
    (fun s args h hN => rk_MlOk_of (List.forall_mem_cons.mpr ⟨rk_mck_ok (fun w hw => List.mem_cons_of_mem _ hw) h hN rk_cm_X12_isIn rk_lk_X12_104, fun _ h => absurd h List.not_mem_nil⟩) (by decide +kernel))
    (fun s args h i v hi => absurd hi (by simp [rk_csf])) (fun s hN i k hi => absurd hi (by simp [rk_ssf, rk_lk])) (fun s args h => rk_acf_ok (fun _ h => absurd h List.not_mem_nil) (fun _ h => absurd h List.not_mem_nil))
    (fun _ _ _ _ h => h) (rk := 2) ⟨fun h => absurd h (by decide), fun h => absurd h (by decide), fun _ => rfl, fun h => absurd h (by decide)⟩ (cs := []) (fuel := 3000) (by decide +kernel)
end RKX
