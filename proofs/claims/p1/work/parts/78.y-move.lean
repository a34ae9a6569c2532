/-! a method without an answer, from things to things; a list of values -/
noncomputable def rs_lq (l : List rs_V) : List rs_V → Bool := @List.rec rs_V (fun _ => List rs_V → Bool) (fun as => (@List.rec _ (fun _ => Bool) true (fun _ _ _ => false) as)) (fun x _ ih as => (@List.rec _ (fun _ => Bool) false (fun y t _ => (@Bool.rec (fun _ => Bool) false (@Bool.rec (fun _ => Bool) false (@Bool.rec (fun _ => Bool) false (ih t) (Nat.beq y.2.2 x.2.2)) (Nat.beq y.2.1 x.2.1)) (Nat.beq y.1 x.1))) as)) l
theorem rs_lqE : ∀ (l as : List rs_V), rs_lq l as = true → as = l
  | [], [], _ => rfl
  | [], _ :: _, h => by cases h
  | _ :: _, [], h => by cases h
  | x :: l, y :: t, h => by
    obtain ⟨x1, x2, x3⟩ := x
    obtain ⟨y1, y2, y3⟩ := y
    obtain ⟨h1, h⟩ := rs_andE h
    obtain ⟨h2, h⟩ := rs_andE h
    obtain ⟨h3, h⟩ := rs_andE h
    have h1 : y1 = x1 := rs_eqE h1
    have h2 : y2 = x2 := rs_eqE h2
    have h3 : y3 = x3 := rs_eqE h3
    rw [h1, h2, h3, rs_lqE l t h]
/-- the same, or b says any number -/
noncomputable def rs_ea (a b : rs_V) : Bool := (@Bool.rec (fun _ => Bool) (rs_ee a b) (Nat.ble a.1 3) (Nat.beq b.1 3))
theorem rs_eaE {r : Nat → Int32} {sb : Nat} {ad : Nat → Nat} {nn : Nat} {a b : rs_V} (h : rs_ea a b = true) (x : Value) (hd : rs_den r sb ad nn a x) : rs_den r sb ad nn b x := by
  rcases rs_ifE h with ⟨h1, h2⟩ | ⟨-, h2⟩
  · obtain ⟨ta, aa, ca⟩ := a
    obtain ⟨tb, ab, cb⟩ := b
    have e1 : tb = 3 := rs_eqE h1
    have e2 : ta ≤ 3 := rs_leE h2
    rw [e1]
    show ∃ y : Int32, x = .int y
    rcases ta with _ | _ | _ | _ | ta
    · exact ⟨_, hd⟩
    · exact ⟨_, hd⟩
    · exact ⟨_, hd⟩
    · exact hd
    · omega
  · exact (rs_eeE h2 x).mp hd
noncomputable def rs_sub (R P : rs_H) : Bool := rs_tq (fun p r => (@Bool.rec (fun _ => Bool) (Nat.ble p.1 31) true (Nat.ble 32 r.1))) R P
theorem rs_subE {R P : rs_H} (h : rs_sub R P = true) (i : Nat) (ht : (rt_g R i).1 < 32) : (rt_g P i).1 < 32 := by
  have h3 := rs_tqE R P h i
  rcases rs_orE h3 with h4 | h4
  · have := rs_leE h4
    omega
  · have := rs_leE h4
    omega
noncomputable def rs_krR (R : rs_H) (nn : Nat) : rs_KR := fun _ _ hp' nn' => (@Bool.rec (fun _ => Bool) false (rs_hq rs_ea R hp') (Nat.beq nn' nn))
theorem rs_moveCon {kc : rs_KC} (hkc : rs_KCall kc) {q n nn : Nat} {as : List rs_V} {P R : rs_H} (hC : rs_fd rs_hs (rt_g rs_ct q) kc (rs_krR R nn) n 0 [] as [] (P, nn, 0, 0) = true) (hRP : rs_sub R P = true) (hret : (rs_MT q).1.2.2.2.1 = none) {l : Launch} {tys : List (ClassId × FieldType)} {D : va_G} {r : Nat → Int32} {sb : Nat} (hty : rs_tyq tys) {en : rs_E} {hp : rs_H} {kr : rs_KR} (hq : rs_hq rs_ea P hp = true) (hk : kr (9, 0, 0) en R nn = true) : rs_Con l tys D r sb (rs_MT q).1 (rs_MT q).2 as en hp nn kr := by
  intro he hlen ad L f vs sz hvs hWd
  have hW' : rs_Wd tys r sb P nn ad L f := by
    refine ⟨fun i hi => ⟨(hWd.1 i hi).1, fun htg => ?_⟩, hWd.2⟩
    obtain ⟨a1, a2, a3⟩ := rs_hqE hq i htg
    exact rs_rel_tr a1 a2 (fun k x h => rs_eaE (a3 k) x h) ((hWd.1 i hi).2 (by rw [a1]; exact htg))
  have hM := rs_fd_con (D := D) rs_kTM.1 rs_kTM.2 hty (fun tys D r sb hty q as en hp nn kr hq => hkc l tys D r sb hty q as en hp nn kr hq) hC (rs_env_nil r) hlen ad L f vs sz hvs hW'
  refine rs_Met_imp hM (fun _ _ h => h) (fun a st oc t9 _ hQ => ?_)
  obtain ⟨⟨x, v, en', hp', nn', ad', L', f', o1, o2, o3, o4, o5, o6, o7, o8, o9, o10⟩, oF⟩ := hQ
  obtain ⟨k1, k2⟩ := rs_andE o3
  have k1 : nn' = nn := rs_eqE k1
  rw [k1] at o6 o7
  have hx : x = none := o2.mpr hret
  obtain ⟨b1, b2, b3, b4, b5, b6⟩ := o7
  refine ⟨⟨x, (9, 0, 0), en, R, nn, ad', L', f', o1, o2, hk, he, (fun y hy => absurd (hx.symm.trans hy) (fun h9 => by cases h9)), ⟨fun i hi => ⟨(o6.1 i hi).1, fun htg => ?_⟩, o6.2⟩, ⟨b1, b2, fun i hi htg => ?_, b4, b5, fun a ha hn => b6 a ha (fun i hi htg => hn i hi ?_)⟩, o8, o9, o10⟩, oF⟩
  · obtain ⟨a1, a2, a3⟩ := rs_hqE k2 i htg
    exact rs_rel_tr a1 a2 (fun k x h => rs_eaE (a3 k) x h) ((o6.1 i hi).2 (by rw [a1]; exact htg))
  · have hP := rs_subE hRP i htg
    rw [(rs_hqE hq i hP).1]
    exact hP
  · rw [(rs_hqE hq i htg).1]
    exact htg
noncomputable def rs_kcV (q0 nn0 : Nat) (as0 : List rs_V) (P R : rs_H) (kc' : rs_KC) : rs_KC := fun q as en hp nn kr => (@Bool.rec (fun _ => Bool) (kc' q as en hp nn kr) (@Bool.rec (fun _ => Bool) false (@Bool.rec (fun _ => Bool) false (kr (9, 0, 0) en R nn) (rs_hq rs_ea P hp)) (Nat.beq nn nn0)) (@Bool.rec (fun _ => Bool) false (rs_lq as0 as) (Nat.beq q q0)))
theorem rs_kcV_ok {q0 nn0 n : Nat} {as0 : List rs_V} {P R : rs_H} {kc kc' : rs_KC} (hkc : rs_KCall kc) (hC : rs_fd rs_hs (rt_g rs_ct q0) kc (rs_krR R nn0) n 0 [] as0 [] (P, nn0, 0, 0) = true) (hRP : rs_sub R P = true) (hret : (rs_MT q0).1.2.2.2.1 = none) (hkc' : rs_KCall kc') : rs_KCall (rs_kcV q0 nn0 as0 P R kc') := by
  intro l tys D r sb hty q as en hp nn kr h
  rcases rs_ifE h with ⟨h1, h⟩ | ⟨-, h⟩
  · obtain ⟨h1, h2⟩ := rs_andE h1
    obtain ⟨h3, h⟩ := rs_andE h
    obtain ⟨h4, h5⟩ := rs_andE h
    have h1 : q = q0 := rs_eqE h1
    have h3 : nn = nn0 := rs_eqE h3
    rw [h1, rs_lqE _ _ h2, h3]
    rw [h3] at h5
    exact rs_moveCon hkc hC hRP hret hty h4 h5
  · exact hkc' l tys D r sb hty q as en hp nn kr h
