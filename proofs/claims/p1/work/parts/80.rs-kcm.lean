/-! the law's calls to a method of which nothing is known behind it but its answer -/
noncomputable def rs_kcM (q0 nn0 lo hi : Nat) (as0 : List rs_V) (P K : rs_H) (v : rs_V) (kc' : rs_KC) : rs_KC := fun q as en hp nn kr => (@Bool.rec (fun _ => Bool) (kc' q as en hp nn kr) (@Bool.rec (fun _ => Bool) false (@Bool.rec (fun _ => Bool) false (@Bool.rec (fun _ => Bool) false (@Bool.rec (fun _ => Bool) false (@Bool.rec (fun _ => Bool) false (kr v en K nn) (rs_hq rs_ee K hp)) (rs_hq rs_ee P hp)) (rs_ein en lo hi)) (Nat.beq nn nn0)) (rs_lq as0 as)) (Nat.beq q q0))
theorem rs_kcM_ok {q0 nn0 lo hi n : Nat} {as0 : List rs_V} {P K : rs_H} {v : rs_V} {kc kc' : rs_KC} (hkc : rs_KCall kc) (hC : rs_fd rs_hs (rt_g rs_ct q0) kc (rs_krP v) n 0 [] as0 (rs_eP lo hi) (P, nn0, 0, 0) = true) (hdj : rs_dj K P = true) (hret : (rs_MT q0).1.2.2.2.1.isSome = true) (hkc' : rs_KCall kc') : rs_KCall (rs_kcM q0 nn0 lo hi as0 P K v kc') := by
  intro l tys D r sb hty q as en hp nn kr h
  rcases rs_ifE h with ⟨h1, h⟩ | ⟨-, h⟩
  · obtain ⟨h2, h⟩ := rs_andE h
    obtain ⟨h3, h⟩ := rs_andE h
    obtain ⟨h4, h⟩ := rs_andE h
    obtain ⟨h5, h⟩ := rs_andE h
    obtain ⟨h6, h7⟩ := rs_andE h
    have h1 : q = q0 := rs_eqE h1
    have h3 : nn = nn0 := rs_eqE h3
    rw [h1, rs_lqE _ _ h2, h3]
    rw [h3] at h7
    exact rs_sumCon hkc hC hdj hty h4 h5 h6 (fun h9 => by rw [h9] at hret; cases hret) h7
  · exact hkc' l tys D r sb hty q as en hp nn kr h
theorem rs_dj1 : rs_dj (rs_ins 0 rs_Wm) (rs_ins 0 rs_Wc) = true := by decide +kernel
theorem rs_dj2 : rs_dj rs_h0 (rs_ins 0 rs_Wm) = true := by decide +kernel
noncomputable def rs_ktM : rs_KC := rs_kcM 88 369 2147483649 2147483748 [(4, 363, 0), (1, 1, 0)] (rs_ins 0 rs_Wm) rs_h0 (1, 1, 0) rs_kc0
theorem rs_ktM_ok : rs_KCall rs_ktM := rs_kcM_ok rs_kSm_ok rs_Cmt rs_dj2 rfl rs_kc0_ok
noncomputable def rs_kt (lo hi : Nat) : rs_KC := rs_kcM 10 369 lo hi [(4, 0, 0), (1, 1, 0)] (rs_ins 0 rs_Wc) (rs_ins 0 rs_Wm) (1, 1, 0) rs_ktM
noncomputable def rs_kl (lo hi : Nat) : rs_KC := rs_kcM 29 369 lo hi [(4, 0, 0), (1, 1, 0), (1, 2, 0)] (rs_ins 0 rs_Wc) (rs_ins 0 rs_Wm) (0, 4294967295, 0) (rs_kcM 114 369 lo hi [(4, 363, 0), (1, 1, 0), (1, 2, 0)] (rs_ins 0 rs_Wm) rs_h0 (0, 4294967295, 0) rs_kc0)
theorem rs_kt_1 : rs_KCall (rs_kt 2147483649 2147483660) := rs_kcM_ok rs_kSc_ok rs_Cxt_1 rs_dj1 rfl rs_ktM_ok
theorem rs_kt_13 : rs_KCall (rs_kt 2147483661 2147483679) := rs_kcM_ok rs_kSc_ok rs_Cxt_13 rs_dj1 rfl rs_ktM_ok
theorem rs_kt_32 : rs_KCall (rs_kt 2147483680 2147483692) := rs_kcM_ok rs_kSc_ok rs_Cxt_32 rs_dj1 rfl rs_ktM_ok
theorem rs_kt_45 : rs_KCall (rs_kt 2147483693 2147483702) := rs_kcM_ok rs_kSc_ok rs_Cxt_45 rs_dj1 rfl rs_ktM_ok
theorem rs_kt_55 : rs_KCall (rs_kt 2147483703 2147483710) := rs_kcM_ok rs_kSc_ok rs_Cxt_55 rs_dj1 rfl rs_ktM_ok
theorem rs_kt_63 : rs_KCall (rs_kt 2147483711 2147483717) := rs_kcM_ok rs_kSc_ok rs_Cxt_63 rs_dj1 rfl rs_ktM_ok
theorem rs_kt_70 : rs_KCall (rs_kt 2147483718 2147483724) := rs_kcM_ok rs_kSc_ok rs_Cxt_70 rs_dj1 rfl rs_ktM_ok
theorem rs_kt_77 : rs_KCall (rs_kt 2147483725 2147483730) := rs_kcM_ok rs_kSc_ok rs_Cxt_77 rs_dj1 rfl rs_ktM_ok
theorem rs_kt_83 : rs_KCall (rs_kt 2147483731 2147483736) := rs_kcM_ok rs_kSc_ok rs_Cxt_83 rs_dj1 rfl rs_ktM_ok
theorem rs_kt_89 : rs_KCall (rs_kt 2147483737 2147483741) := rs_kcM_ok rs_kSc_ok rs_Cxt_89 rs_dj1 rfl rs_ktM_ok
theorem rs_kt_94 : rs_KCall (rs_kt 2147483742 2147483746) := rs_kcM_ok rs_kSc_ok rs_Cxt_94 rs_dj1 rfl rs_ktM_ok
theorem rs_kt_99 : rs_KCall (rs_kt 2147483747 2147483748) := rs_kcM_ok rs_kSc_ok rs_Cxt_99 rs_dj1 rfl rs_ktM_ok
theorem rs_kl_n : rs_KCall (rs_kl 0 2147483647) := rs_kcM_ok rs_kSt_ok rs_Cxl_n rs_dj1 rfl (rs_kcM_ok rs_kSl_ok rs_Cml_n rs_dj2 rfl rs_kc0_ok)
theorem rs_kl_0 : rs_KCall (rs_kl 2147483648 2147483648) := rs_kcM_ok rs_kSt_ok rs_Cxl_0 rs_dj1 rfl (rs_kcM_ok rs_kSl_ok rs_Cml_0 rs_dj2 rfl rs_kc0_ok)
theorem rs_kl_1 : rs_KCall (rs_kl 2147483649 2147483649) := rs_kcM_ok rs_kSt_ok rs_Cxl_1 rs_dj1 rfl (rs_kcM_ok rs_kSl_ok rs_Cml_1 rs_dj2 rfl rs_kc0_ok)
theorem rs_kl_2 : rs_KCall (rs_kl 2147483650 2147483650) := rs_kcM_ok rs_kSt_ok rs_Cxl_2 rs_dj1 rfl (rs_kcM_ok rs_kSl_ok rs_Cml_2 rs_dj2 rfl rs_kc0_ok)
theorem rs_kl_3 : rs_KCall (rs_kl 2147483651 2147483651) := rs_kcM_ok rs_kSt_ok rs_Cxl_3 rs_dj1 rfl (rs_kcM_ok rs_kSl_ok rs_Cml_3 rs_dj2 rfl rs_kc0_ok)
theorem rs_kl_4 : rs_KCall (rs_kl 2147483652 2147483652) := rs_kcM_ok rs_kSt_ok rs_Cxl_4 rs_dj1 rfl (rs_kcM_ok rs_kSl_ok rs_Cml_4 rs_dj2 rfl rs_kc0_ok)
theorem rs_kl_5 : rs_KCall (rs_kl 2147483653 2147483653) := rs_kcM_ok rs_kSt_ok rs_Cxl_5 rs_dj1 rfl (rs_kcM_ok rs_kSl_ok rs_Cml_5 rs_dj2 rfl rs_kc0_ok)
theorem rs_kl_6 : rs_KCall (rs_kl 2147483654 2147483654) := rs_kcM_ok rs_kSt_ok rs_Cxl_6 rs_dj1 rfl (rs_kcM_ok rs_kSl_ok rs_Cml_6 rs_dj2 rfl rs_kc0_ok)
theorem rs_kl_7 : rs_KCall (rs_kl 2147483655 2147483655) := rs_kcM_ok rs_kSt_ok rs_Cxl_7 rs_dj1 rfl (rs_kcM_ok rs_kSl_ok rs_Cml_7 rs_dj2 rfl rs_kc0_ok)
theorem rs_kl_p : rs_KCall (rs_kl 2147483656 4294967295) := rs_kcM_ok rs_kSt_ok rs_Cxl_p rs_dj1 rfl (rs_kcM_ok rs_kSl_ok rs_Cml_p rs_dj2 rfl rs_kc0_ok)
