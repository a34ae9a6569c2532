section RKX
variable (base : Nat) (l : Launch) (cI c1 c2 c3 c4 c5 : ClassId) (D : va_G) (ad adV : Nat → Nat)
theorem c_X9_skipBlanks : rk_Mc base l cI c1 c2 c3 c4 c5 D ad adV rk_q_X9_skipBlanks [(2, 9, 0)] [((9, 0, 0), [])] 0 1 :=
  rk_chk_ok (rk_hER ad) (ap := (5, 4)) (rk_hap cI c1 c2 c3 c4 c5) (rk_hNw base ad adV) (rk_hNc base ad adV) rc_LvOk (mt := rk_mt []) (ctr := rk_look []) (rk_look_ok _ (fun _ h => absurd h List.not_mem_nil))
    (M := rk_q_X9_skipBlanks) (P := (cX9_skipBlanks, 1, rk_flf rk_ftX9, rk_mlf [], rk_csf [], rk_ssf [], rk_acf [] [])) rfl rfl (by decide +kernel) (fun s args h hN => rk_flX9 (fun w hw => List.mem_cons_of_mem _ hw) h hN)
    (fun s args h hN => rk_MlOk_of (fun _ h => absurd h List.not_mem_nil) (by decide +kernel))
    (fun s args h i v hi => absurd hi (by simp [rk_csf])) (fun s hN i k hi => absurd hi (by simp [rk_ssf, rk_lk])) (fun s args h => rk_acf_ok (fun _ h => absurd h List.not_mem_nil) (fun _ h => absurd h List.not_mem_nil))
    (fun _ _ _ _ h => h) (rk := 0) ⟨fun _ => rfl, fun h => absurd h (by decide), fun h => absurd h (by decide), fun h => absurd h (by decide)⟩ (cs := [(0, [(2, 9, 0), (0, 1, 400)], [(0, 4)], (400, [(1, -1)]), (0, []))]) (fuel := 3000) (by decide +kernel)
theorem c_X9_at : rk_Mc base l cI c1 c2 c3 c4 c5 D ad adV rk_q_X9_at [(2, 9, 0), (0, -2147483648, 2147483647)] [((0, -2147483648, 2147483647), [(1, (0, 0, 399))]), ((0, -1, -1), [])] 0 0 :=
  rk_chk_ok (rk_hER ad) (ap := (5, 4)) (rk_hap cI c1 c2 c3 c4 c5) (rk_hNw base ad adV) (rk_hNc base ad adV) rc_LvOk (mt := rk_mt []) (ctr := rk_look []) (rk_look_ok _ (fun _ h => absurd h List.not_mem_nil))
    (M := rk_q_X9_at) (P := (cX9_at, 2, rk_flf rk_ftX9, rk_mlf [], rk_csf [], rk_ssf [], rk_acf [] [])) rfl rfl (by decide +kernel) (fun s args h hN => rk_flX9 (fun w hw => List.mem_cons_of_mem _ hw) h hN)
    (fun s args h hN => rk_MlOk_of (fun _ h => absurd h List.not_mem_nil) (by decide +kernel))
    (fun s args h i v hi => absurd hi (by simp [rk_csf])) (fun s hN i k hi => absurd hi (by simp [rk_ssf, rk_lk])) (fun s args h => rk_acf_ok (fun _ h => absurd h List.not_mem_nil) (fun _ h => absurd h List.not_mem_nil))
    (fun _ _ _ _ h => h) (rk := 1) ⟨fun h => absurd h (by decide), fun _ => rfl, fun h => absurd h (by decide), fun h => absurd h (by decide)⟩ (cs := []) (fuel := 3000) (by decide +kernel)
theorem c_X9_isLetter : rk_Mc base l cI c1 c2 c3 c4 c5 D ad adV rk_q_X9_isLetter [(0, -2147483648, 2147483647)] [((0, 1, 1), [(0, (0, 97, 122))]), ((0, 0, 0), [])] 0 0 :=
  rk_chk_ok (rk_hER ad) (ap := (5, 4)) (rk_hap cI c1 c2 c3 c4 c5) (rk_hNw base ad adV) (rk_hNc base ad adV) rc_LvOk (mt := rk_mt []) (ctr := rk_look []) (rk_look_ok _ (fun _ h => absurd h List.not_mem_nil))
    (M := rk_q_X9_isLetter) (P := (cX9_isLetter, 1, rk_flf rk_ftX9, rk_mlf [], rk_csf [], rk_ssf [], rk_acf [] [])) rfl rfl (by decide +kernel) (fun s args h hN => rk_flX9 (fun w hw => List.mem_cons_of_mem _ hw) h hN)
    (fun s args h hN => rk_MlOk_of (fun _ h => absurd h List.not_mem_nil) (by decide +kernel))
    (fun s args h i v hi => absurd hi (by simp [rk_csf])) (fun s hN i k hi => absurd hi (by simp [rk_ssf, rk_lk])) (fun s args h => rk_acf_ok (fun _ h => absurd h List.not_mem_nil) (fun _ h => absurd h List.not_mem_nil))
    (fun _ _ _ _ h => h) (rk := 2) ⟨fun h => absurd h (by decide), fun h => absurd h (by decide), fun _ => rfl, fun h => absurd h (by decide)⟩ (cs := []) (fuel := 3000) (by decide +kernel)
end RKX
