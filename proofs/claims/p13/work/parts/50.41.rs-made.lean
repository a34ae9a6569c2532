/-! things made, calls, ends -/
section RSS
variable {MT : Nat → rk_Mt × Nat × Nat}
def rs_dft (ty : FieldType) (v : rs_V) : Bool := match ty with
  | .int => Nat.beq v.1 0 && Nat.beq v.2.1 0
  | .boolean => Nat.beq v.1 0 && Nat.beq v.2.1 0
  | .object _ => Nat.beq v.1 5
  | .array _ => Nat.beq v.1 5
  | _ => false
theorem rs_dftE {r : Nat → Int32} {sb : Nat} {ad : Nat → Nat} {nn : Nat} {ty : FieldType} {v : rs_V} (h : rs_dft ty v = true) : rs_den r sb ad nn v (defaultValue ty) := by
  obtain ⟨t, a, c⟩ := v
  cases ty with
  | int =>
    obtain ⟨h1, h2⟩ := rs_tru h
    have e1 : t = 0 := rs_eqE h1
    have e2 : a = 0 := rs_eqE h2
    rw [e1, e2]
    rfl
  | boolean =>
    obtain ⟨h1, h2⟩ := rs_tru h
    have e1 : t = 0 := rs_eqE h1
    have e2 : a = 0 := rs_eqE h2
    rw [e1, e2]
    rfl
  | object n =>
    have e1 : t = 5 := rs_eqE h
    rw [e1]
    rfl
  | array n =>
    have e1 : t = 5 := rs_eqE h
    rw [e1]
    rfl
  | _ => cases h
/-- the words of a class that is made -/
noncomputable def rs_newc (M : rk_Mt) (a b c : Nat) (l : List Nat) : Bool := match vwCl[b]? with
  | none => false
  | some q => (Nat.beq q.2.2 c && rk_tat (.classLink M.1.cls a q.1) (rs_nth l 0 2)) && (rk_tat (.instantiable q.1 c) (rs_nth l 0 3) && rk_tat (.initialized q.1) (rs_nth l 0 4))
noncomputable def rs_capc (cap : Nat × Nat) (l : List Nat) : Bool := Nat.ble (rs_nth l 0 0) cap.1 && Nat.ble (rs_nth l 0 1) cap.2
theorem rs_o_new : rs_Snd MT rs_h_new (fun _ a _ _ _ => (.new a, 3)) (fun M cap _ _ a b c' l' => (rs_newc M a b c' l' && rs_capc cap l') && ((Nat.blt b 16 && Nat.ble c' 32) && (List.range c').all (fun k => rs_dft (rk_ty b k) (rt_g (rt_g rs_dv b) k)))) := by
  intro p l e R s m args below meth c Q F M cap ft cx pc a b c' l' kt kc kr sk lo en w hdg hck h hk hc hr ad L f H locs ls st hon
  obtain ⟨hx, hb, ⟨hml, hnL⟩, hown, hts, hK, hA, hN, hroom, hnm, htys, hfl⟩ := cx
  obtain ⟨k1, k2⟩ := rs_tru hck
  obtain ⟨k1, k3⟩ := rs_tru k1
  obtain ⟨k2, k4⟩ := rs_tru k2
  obtain ⟨k2, k5⟩ := rs_tru k2
  obtain ⟨k3, k6⟩ := rs_tru k3
  have k3 := rs_leE k3
  have k6 := rs_leE k6
  have k5 := rs_leE k5
  rw [Nat.blt_eq] at k2
  unfold rs_newc at k1
  split at k1
  · cases k1
  · rename_i q hq
    obtain ⟨Cn, T, N⟩ := q
    obtain ⟨k1, k7⟩ := rs_tru k1
    obtain ⟨k1, k8⟩ := rs_tru k1
    obtain ⟨k7, k9⟩ := rs_tru k7
    have k1 := rs_eqE k1
    dsimp only at k1 k7 k8 k9
    have hNc : N = c' := k1
    subst hNc
    obtain ⟨g1, g2, g3⟩ := rk_clsOk b Cn T N hq
    obtain ⟨m1, m2, m3, hp', m4, m5, m6⟩ := rs_mkE h
    obtain ⟨hP, hD, hS, hnn⟩ := rs_w_all hon.2.1
    have hdv : ∀ k, k < N → rs_dft (rk_ty b k) (rt_g (rt_g rs_dv b) k) = true := fun k hk9 => List.all_eq_true.mp k4 k (List.mem_range.mpr hk9)
    refine va_new hx hb hts g1 (rk_ty b) g2 hown (hts _ (rk_tat_ok k8)) (hts _ (rk_tat_ok k7)) (hts _ (rk_tat_ok k9)) hK hP hD hS hA hq (fs := (List.range N).map (fun k => defaultValue (rk_ty b k))) (fun j hj => ?_) (by omega) (by omega) hdg (fun qa H1 hP1 hD1 hS1 => ?_)
    · show _ = ((List.range N).map (fun k => defaultValue (rk_ty b k))).getD j .null
      rw [List.getD_eq_getElem?_getD, List.getElem?_map, List.getElem?_range hj]
      rfl
    · refine rs_goto9 hk m4 (rs_more9 hon hon.2.2.2.2 (o' := (b, N, rt_g rs_dv b)) ⟨fun _ => ⟨_, rfl, by rw [List.length_map, List.length_range], k5, fun k hk9 => ⟨defaultValue (rk_ty b k), ?_, rs_dftE (hdv k hk9)⟩⟩, fun h9 => absurd h9 (by dsimp only; omega), fun h9 => absurd h9 (by dsimp only; omega)⟩ m3 m5 m6 hP1 hD1 hS1 _ _)
      dsimp only at hk9
      rw [List.getElem?_map, List.getElem?_range hk9]
      rfl
theorem rs_o_newa : rs_Snd MT rs_h_newa (fun _ _ _ _ _ => (.newarray .int, 2)) (fun _ cap _ _ _ _ _ l' => rk_tat (.arrayClass .int) (rs_nth l' 0 2) && rs_capc cap l') := by
  intro p l e R s m args below meth c Q F M cap ft cx pc a b c' l' kt kc kr sk lo en w hdg hck h hk hc hr ad L f H locs ls st hon
  obtain ⟨hx, hb, ⟨hml, hnL⟩, hown, hts, hK, hA, hN, hroom, hnm, htys, hfl⟩ := cx
  obtain ⟨k1, k3⟩ := rs_tru hck
  obtain ⟨k3, k6⟩ := rs_tru k3
  have k3 := rs_leE k3
  have k6 := rs_leE k6
  obtain ⟨cI, c1, c2, c3, c4, c5, hty⟩ := htys
  have t6 : F.1.1[0]? = some (cI, .int) := by rw [hty]; rfl
  unfold rs_h_newa at h
  cases sk with
  | nil => cases h
  | cons v sk =>
    obtain ⟨xv, s2, rfl, hv, hon2⟩ := rs_pop9 hon
    obtain ⟨h1, h⟩ := rs_andE h
    obtain ⟨h2, h⟩ := rs_andE h
    have h2 := rs_leE h2
    have ex := rs_den_0 (rs_eqE h1) hv
    subst ex
    obtain ⟨m1, m2, m3, hp', m4, m5, m6⟩ := rs_mkE h
    obtain ⟨hP, hD, hS, hnn⟩ := rs_w_all hon.2.1
    have hpos := rs_i_pos (a := v.2.1) (by omega)
    refine va_newa (atype := .int) (ty := .int) hx hb (hts _ (rk_tat_ok k1)) rfl hK hP hD hS hA (n := rs_i v.2.1) (N' := v.2.1) (a0 := (v.2.1, .inl (fun _ => 0))) (fun cA => rfl) (by
      intro h
      rw [Int32.lt_iff_toInt_lt] at h
      have : (0 : Int32).toInt = 0 := rfl
      omega) (rs_cl (by omega)) (by rw [show componentBytes FieldType.int = 4 from rfl]; omega) (by omega) (by omega) hdg (fun q cA H1 hK1 hP1 hD1 hS1 => ?_)
    have hcA : cA = cI := by
      have e1 : s.vm.findClass ("[" ++ FieldType.int.toString) = some cA := (hK1.2 F.1.1.length (cA, .int) (by simp)).2
      have e2 : s.vm.findClass ("[" ++ FieldType.int.toString) = some cI := (hK.2 0 _ t6).2
      exact Option.some.inj (e1.symm.trans e2)
    subst hcA
    exact rs_goto9 hk m4 (rs_more9 hon hon2.2.2.2.2 (o' := (16, v.2.1, .leaf (0, 0, 0))) ⟨fun h9 => absurd h9 (by dsimp only; omega), fun _ => ⟨cA, _, rfl, t6, h2, fun k hk9 => rfl⟩, fun h9 => absurd h9 (by dsimp only; omega)⟩ m3 m5 m6 hP1 hD1 hS1 _ _)
def rs_an (t0 : Nat) : String := match t0 with
  | 1 => RX8
  | 2 => RX2
  | 3 => RX6
  | 4 => RX1
  | _ => RX4
theorem rs_anE {t0 : Nat} (h1 : 1 ≤ t0) (h2 : t0 ≤ 5) (cI c1 c2 c3 c4 c5 : ClassId) : rs_an t0 ∈ [RX8, RX2, RX6, RX1, RX4] ∧ ∃ cA : ClassId, (rk_tys cI c1 c2 c3 c4 c5)[t0]? = some (cA, .object (rs_an t0)) := by
  have e : t0 = 1 ∨ t0 = 2 ∨ t0 = 3 ∨ t0 = 4 ∨ t0 = 5 := by omega
  rcases e with rfl | rfl | rfl | rfl | rfl
  · exact ⟨List.mem_of_getElem? (i := 0) rfl, _, rfl⟩
  · exact ⟨List.mem_of_getElem? (i := 1) rfl, _, rfl⟩
  · exact ⟨List.mem_of_getElem? (i := 2) rfl, _, rfl⟩
  · exact ⟨List.mem_of_getElem? (i := 3) rfl, _, rfl⟩
  · exact ⟨List.mem_of_getElem? (i := 4) rfl, _, rfl⟩
theorem rs_o_anew : rs_Snd MT rs_h_anew (fun _ a _ _ _ => (.anewarray a, 3)) (fun M cap _ _ a b _ l' => (rk_tat (.classLink M.1.cls a (rs_an b)) (rs_nth l' 0 2) && rs_capc cap l') && (Nat.ble 1 b && Nat.ble b 5)) := by
  intro p l e R s m args below meth c Q F M cap ft cx pc a b c' l' kt kc kr sk lo en w hdg hck h hk hc hr ad L f H locs ls st hon
  obtain ⟨hx, hb, ⟨hml, hnL⟩, hown, hts, hK, hA, hN, hroom, hnm, htys, hfl⟩ := cx
  obtain ⟨k1, k2⟩ := rs_tru hck
  obtain ⟨k1, k3⟩ := rs_tru k1
  obtain ⟨k2, k4⟩ := rs_tru k2
  obtain ⟨k3, k6⟩ := rs_tru k3
  have k3 := rs_leE k3
  have k6 := rs_leE k6
  have k2 := rs_leE k2
  have k4 := rs_leE k4
  obtain ⟨cI, c1, c2, c3, c4, c5, hty⟩ := htys
  obtain ⟨n1, cB, n2⟩ := rs_anE k2 k4 cI c1 c2 c3 c4 c5
  rw [← hty] at n2
  unfold rs_h_anew at h
  cases sk with
  | nil => cases h
  | cons v sk =>
    obtain ⟨xv, s2, rfl, hv, hon2⟩ := rs_pop9 hon
    obtain ⟨h1, h⟩ := rs_andE h
    obtain ⟨h2, h⟩ := rs_andE h
    have h2 := rs_leE h2
    have ex := rs_den_0 (rs_eqE h1) hv
    subst ex
    obtain ⟨m1, m2, m3, hp', m4, m5, m6⟩ := rs_mkE h
    obtain ⟨hP, hD, hS, hnn⟩ := rs_w_all hon.2.1
    have hpos := rs_i_pos (a := v.2.1) (by omega)
    refine va_newq hx hb hown (hts _ (rk_tat_ok k1)) (hN.2 _ n1) hK hP hD hS hA (N' := v.2.1) (by
      intro h
      rw [Int32.lt_iff_toInt_lt] at h
      have : (0 : Int32).toInt = 0 := rfl
      omega) (rs_cl (by omega)) (by omega) (by omega) (by omega) hdg (fun q cA H1 hK1 hP1 hD1 hS1 => ?_)
    have hcA : cA = cB := by
      obtain ⟨_, _, _, _, _, e1⟩ := (hK1.2 F.1.1.length (cA, .object (rs_an b)) (by simp)).2
      obtain ⟨_, _, _, _, _, e2⟩ := (hK.2 b _ n2).2
      exact Option.some.inj (e1.symm.trans e2)
    subst hcA
    have hrel : rs_rel F.1.1 (rs_dn F ad w.2.1) (Nat.add 16 b, v.2.1, .leaf (5, 0, 0)) (.inl (cA, v.2.1, .inr (.inr (.inr (.inr (fun _ => none)))))) := by
      have e16 : Nat.add 16 b = 16 + b := rfl
      refine ⟨fun h9 => absurd h9 (by dsimp only; omega), fun h9 => absurd h9 (by dsimp only; omega), fun _ _ => ⟨cA, rs_an b, fun _ => none, rfl, ?_, h2, fun k hk9 => rfl⟩⟩
      dsimp only
      rw [show Nat.add 16 b - 16 = b by omega]
      exact n2
    exact rs_goto9 hk m4 (rs_more9 hon hon2.2.2.2.2 hrel m3 m5 m6 hP1 hD1 hS1 _ _)
theorem rs_lenE (l : List rs_V) : rs_len l = l.length := by
  induction l with
  | nil => rfl
  | cons v l ih => exact congrArg Nat.succ ih
theorem rs_catE {dn : rs_V → Value → Prop} (hcat : ∀ v x, dn v x → x.category = 1) : ∀ (sk : List rs_V) (st : List Value), rs_stk dn sk st → (st.map fun v => v.category).sum = sk.length
  | [], [], _ => rfl
  | v :: sk, x :: st, h => by
    simp only [List.map_cons, List.sum_cons, List.length_cons]
    rw [rs_catE hcat sk st h.2, hcat v x h.1]
    omega
  | [], _ :: _, h => absurd h id
  | _ :: _, [], h => absurd h id
theorem rs_o_oini : rs_Snd MT rs_h_oini (fun _ a _ _ _ => (.invokespecial a, 3)) (fun M _ _ _ a _ _ l' => (rk_tat (.methodLink M.1.cls a Lib.objectInit) (rs_nth l' 0 0) && rk_tat (.instanceMethod Lib.objectInit) (rs_nth l' 0 1)) && (rk_tat (.code Lib.objectInit ⟨#[0xb1]⟩ 1 none) (rs_nth l' 0 2) && (Nat.ble 1 M.2.2.2.2.1 && Nat.ble 20 M.2.2.2.2.2))) := by
  intro p l e R s m args below meth c Q F M cap ft cx pc a b c' l' kt kc kr sk lo en w hdg hck h hk hc hr ad L f H locs ls st hon
  obtain ⟨hx, hb, ⟨hml, hnL⟩, hown, hts, hK, hA, hN, hroom, hnm, htys, hfl⟩ := cx
  obtain ⟨k1, k2⟩ := rs_tru hck
  obtain ⟨k1, k3⟩ := rs_tru k1
  obtain ⟨k2, k4⟩ := rs_tru k2
  obtain ⟨k4, k5⟩ := rs_tru k4
  have k4 := rs_leE k4
  have k5 := rs_leE k5
  unfold rs_h_oini at h
  cases sk with
  | nil => cases h
  | cons v sk =>
    obtain ⟨xv, s2, rfl, hv, hon2⟩ := rs_pop9 hon
    obtain ⟨h1, h⟩ := rs_andE h
    obtain ⟨h2, h⟩ := rs_andE h
    have h2 := rs_leE h2
    rw [rs_lenE] at h2
    obtain ⟨-, rfl⟩ := rs_den_R (rs_eqE h1) hv
    have hcs := rs_catE (fun _ _ => rs_den_cat) _ _ hon2.2.2.2.2
    refine W.objInit hx hb hown (hts _ (rk_tat_ok k1)) (hts _ (rk_tat_ok k3)) (hts _ (rk_tat_ok k2)) (g := F0 m pc ls (.ref (ad v.2.1) :: s2)) rfl (by show ls.size = _; rw [hml, ← hnL]; exact hon.2.2.2.1.1) rfl hdg (by omega) (by
      show 2 * 0 + (s2.map fun v => v.category).sum + 12 ≤ _
      omega) ?_
    exact rs_goto9 hk h hon2
theorem rs_o_max : rs_Snd MT (rs_mm true) (fun _ a _ _ _ => (.invokestatic a, 3)) (fun M cap _ _ a _ _ l' => (rk_tat (.methodLink M.1.cls a Lib.Math.max.name) (rs_nth l' 0 0) && rk_tat (.static Lib.Math.max.name) (rs_nth l' 0 1)) && ((rk_tat (.initialized "java/lang/Math") (rs_nth l' 0 2) && rk_tat (.code Lib.Math.max.name Lib.Math.max.code 2 (some .int)) (rs_nth l' 0 3)) && ((Nat.ble 1 M.2.2.2.2.1 && Nat.ble 21 M.2.2.2.2.2) && (Nat.ble (rs_nth l' 0 4) cap.1 && Nat.ble (rs_nth l' 0 5) cap.2)))) := by
  intro p l e R s m args below meth c Q F M cap ft cx pc a b c' l' kt kc kr sk lo en w hdg hck h hk hc hr ad L f H locs ls st hon
  obtain ⟨hx, hb, ⟨hml, hnL⟩, hown, hts, hK, hA, hN, hroom, hnm, htys, hfl⟩ := cx
  obtain ⟨k1, k2⟩ := rs_tru hck
  obtain ⟨k1, k3⟩ := rs_tru k1
  obtain ⟨k2, k4⟩ := rs_tru k2
  obtain ⟨k2, k6⟩ := rs_tru k2
  obtain ⟨k4, k7⟩ := rs_tru k4
  obtain ⟨k4, k5⟩ := rs_tru k4
  obtain ⟨k7, k8⟩ := rs_tru k7
  have k4 := rs_leE k4
  have k5 := rs_leE k5
  have k7 := rs_leE k7
  have k8 := rs_leE k8
  unfold rs_mm at h
  cases sk with
  | nil => cases h
  | cons y sk =>
    obtain ⟨yv, s1, rfl, hy, hon1⟩ := rs_pop9 hon
    cases sk with
    | nil => cases h
    | cons x sk =>
      obtain ⟨xv, s2, rfl, hxx, hon2⟩ := rs_pop9 hon1
      obtain ⟨h1, h⟩ := rs_andE h
      obtain ⟨h2, h⟩ := rs_andE h
      obtain ⟨h3, h⟩ := rs_andE h
      obtain ⟨h5, h⟩ := rs_andE h
      obtain ⟨h6, h⟩ := rs_andE h
      have h3 := rs_leE h3
      have h5 := rs_leE h5
      have h6 := rs_leE h6
      rw [rs_lenE] at h3
      have ey := rs_den_0 (rs_eqE h1) hy
      have ex := rs_den_0 (rs_eqE h2) hxx
      have hcs := rs_catE (fun _ _ => rs_den_cat) _ _ hon2.2.2.2.2
      have hlt : ∀ a b : Nat, rs_i a < rs_i b ↔ rs_bi a < rs_bi b := by
        intro a b
        rw [Int32.lt_iff_toInt_lt, rs_b_toInt, rs_b_toInt, rs_b_i, rs_b_i]
        omega
      rw [ey, ex]
      refine va_mmax hx hb (by rw [hml, ← hnL]; exact hon.2.2.2.1.1.symm) hown (hts _ (rk_tat_ok k1)) (hts _ (rk_tat_ok k3)) (hts _ (rk_tat_ok k2)) (hts _ (rk_tat_ok k6)) (by omega) (by omega) (by omega) (by omega) hdg ?_
      generalize h4 : Nat.ble (rs_bi y.2.1) (rs_bi x.2.1) = bb at h
      cases bb
      · have h4 := rs_nle h4
        rw [if_pos ((hlt _ _).mpr h4), ← ey]
        exact rs_goto9 hk h (rs_push9 hon2 hy)
      · have h4 := rs_leE h4
        rw [if_neg (fun h9 => by rw [hlt] at h9; omega), ← ex]
        exact rs_goto9 hk h (rs_push9 hon2 hxx)
theorem rs_o_min : rs_Snd MT (rs_mm false) (fun _ a _ _ _ => (.invokestatic a, 3)) (fun M cap _ _ a _ _ l' => (rk_tat (.methodLink M.1.cls a Lib.Math.min.name) (rs_nth l' 0 0) && rk_tat (.static Lib.Math.min.name) (rs_nth l' 0 1)) && ((rk_tat (.initialized "java/lang/Math") (rs_nth l' 0 2) && rk_tat (.code Lib.Math.min.name Lib.Math.min.code 2 (some .int)) (rs_nth l' 0 3)) && ((Nat.ble 1 M.2.2.2.2.1 && Nat.ble 21 M.2.2.2.2.2) && (Nat.ble (rs_nth l' 0 4) cap.1 && Nat.ble (rs_nth l' 0 5) cap.2)))) := by
  intro p l e R s m args below meth c Q F M cap ft cx pc a b c' l' kt kc kr sk lo en w hdg hck h hk hc hr ad L f H locs ls st hon
  obtain ⟨hx, hb, ⟨hml, hnL⟩, hown, hts, hK, hA, hN, hroom, hnm, htys, hfl⟩ := cx
  obtain ⟨k1, k2⟩ := rs_tru hck
  obtain ⟨k1, k3⟩ := rs_tru k1
  obtain ⟨k2, k4⟩ := rs_tru k2
  obtain ⟨k2, k6⟩ := rs_tru k2
  obtain ⟨k4, k7⟩ := rs_tru k4
  obtain ⟨k4, k5⟩ := rs_tru k4
  obtain ⟨k7, k8⟩ := rs_tru k7
  have k4 := rs_leE k4
  have k5 := rs_leE k5
  have k7 := rs_leE k7
  have k8 := rs_leE k8
  unfold rs_mm at h
  cases sk with
  | nil => cases h
  | cons y sk =>
    obtain ⟨yv, s1, rfl, hy, hon1⟩ := rs_pop9 hon
    cases sk with
    | nil => cases h
    | cons x sk =>
      obtain ⟨xv, s2, rfl, hxx, hon2⟩ := rs_pop9 hon1
      obtain ⟨h1, h⟩ := rs_andE h
      obtain ⟨h2, h⟩ := rs_andE h
      obtain ⟨h3, h⟩ := rs_andE h
      obtain ⟨h5, h⟩ := rs_andE h
      obtain ⟨h6, h⟩ := rs_andE h
      have h3 := rs_leE h3
      have h5 := rs_leE h5
      have h6 := rs_leE h6
      rw [rs_lenE] at h3
      have ey := rs_den_0 (rs_eqE h1) hy
      have ex := rs_den_0 (rs_eqE h2) hxx
      have hcs := rs_catE (fun _ _ => rs_den_cat) _ _ hon2.2.2.2.2
      have hlt : ∀ a b : Nat, rs_i a < rs_i b ↔ rs_bi a < rs_bi b := by
        intro a b
        rw [Int32.lt_iff_toInt_lt, rs_b_toInt, rs_b_toInt, rs_b_i, rs_b_i]
        omega
      rw [ey, ex]
      refine va_mmin hx hb (by rw [hml, ← hnL]; exact hon.2.2.2.1.1.symm) hown (hts _ (rk_tat_ok k1)) (hts _ (rk_tat_ok k3)) (hts _ (rk_tat_ok k2)) (hts _ (rk_tat_ok k6)) (by omega) (by omega) (by omega) (by omega) hdg ?_
      generalize h4 : Nat.ble (rs_bi y.2.1) (rs_bi x.2.1) = bb at h
      cases bb
      · have h4 := rs_nle h4
        rw [if_neg (fun h9 => by rw [hlt] at h9; omega), ← ex]
        exact rs_goto9 hk h (rs_push9 hon2 hxx)
      · have h4 := rs_leE h4
        by_cases h9 : rs_i y.2.1 < rs_i x.2.1
        · rw [if_pos h9, ← ey]
          exact rs_goto9 hk h (rs_push9 hon2 hy)
        · rw [if_neg h9, show rs_i x.2.1 = rs_i y.2.1 from rs_b_inj (by
            rw [hlt] at h9
            rw [rs_b_i, rs_b_i]
            omega), ← ey]
          exact rs_goto9 hk h (rs_push9 hon2 hy)
theorem rs_o_acp : rs_Snd MT rs_h_acp (fun _ a _ _ _ => (.invokestatic a, 3)) (fun M _ _ _ a _ _ l' => (rk_tat (.methodLink M.1.cls a arraycopyName) (rs_nth l' 0 0) && rk_tat (.native arraycopyName) (rs_nth l' 0 1)) && ((rk_tat (.static arraycopyName) (rs_nth l' 0 2) && rk_tat (.initialized "java/lang/System") (rs_nth l' 0 3)) && (Nat.ble 1 M.2.2.2.2.1 && Nat.ble (8 + (nativeFrameWords "java/lang/System" "arraycopy" 5 + 11)) M.2.2.2.2.2))) := by
  intro p l e R s m args below meth c Q F M cap ft cx pc a b c' l' kt kc kr sk lo en w hdg hck h hk hc hr ad L f H locs ls st hon
  obtain ⟨hx, hb, ⟨hml, hnL⟩, hown, hts, hK, hA, hN, hroom, hnm, htys, hfl⟩ := cx
  obtain ⟨k1, k2⟩ := rs_tru hck
  obtain ⟨k1, k3⟩ := rs_tru k1
  obtain ⟨k2, k4⟩ := rs_tru k2
  obtain ⟨k2, k6⟩ := rs_tru k2
  obtain ⟨k4, k5⟩ := rs_tru k4
  have k4 := rs_leE k4
  have k5 := rs_leE k5
  unfold rs_h_acp at h
  rcases sk with _ | ⟨n, _ | ⟨dp, _ | ⟨d, _ | ⟨sp, _ | ⟨s0, sk⟩⟩⟩⟩⟩
  · cases h
  · cases h
  · cases h
  · cases h
  · cases h
  · obtain ⟨nv, s1, rfl, hn, hon1⟩ := rs_pop9 hon
    obtain ⟨dpv, s2, rfl, hdp, hon2⟩ := rs_pop9 hon1
    obtain ⟨dv, s3, rfl, hd, hon3⟩ := rs_pop9 hon2
    obtain ⟨spv, s4, rfl, hsp, hon4⟩ := rs_pop9 hon3
    obtain ⟨sv, s5, rfl, hs, hon5⟩ := rs_pop9 hon4
    obtain ⟨h1, h⟩ := rs_andE h
    obtain ⟨h2, h⟩ := rs_andE h
    obtain ⟨h3, h⟩ := rs_andE h
    obtain ⟨h4, h⟩ := rs_andE h
    obtain ⟨h5, h⟩ := rs_andE h
    have h2 : dp.1 + dp.2.1 + (sp.1 + sp.2.1) = 0 := rs_eqE h2
    have h5 := rs_leE h5
    rw [rs_lenE] at h5
    rcases hEa : rt_g w.1 s0.2.1 with ⟨ha, na, fa⟩
    rcases hEb : rt_g w.1 d.2.1 with ⟨hbb, nb, fb⟩
    rw [hEa, hEb] at h
    obtain ⟨h6, h⟩ := rs_andE h
    obtain ⟨h7, h⟩ := rs_andE h
    obtain ⟨h8, h⟩ := rs_andE h
    obtain ⟨h9, h⟩ := rs_andE h
    have h6 : ha = 16 := rs_eqE h6
    have h7 : hbb = 16 := rs_eqE h7
    have h8 : na = n.2.1 := rs_eqE h8
    have h9 : nb = n.2.1 := rs_eqE h9
    have en_ := rs_den_0 (rs_eqE h1) hn
    have edp := rs_den_0 (by omega) hdp
    have esp := rs_den_0 (by omega) hsp
    rw [show dp.2.1 = 0 by omega] at edp
    rw [show sp.2.1 = 0 by omega] at esp
    obtain ⟨hdi, rfl⟩ := rs_den_R (rs_eqE h3) hd
    obtain ⟨hsi, rfl⟩ := rs_den_R (rs_eqE h4) hs
    have hcs := rs_catE (fun _ _ => rs_den_cat) _ _ hon5.2.2.2.2
    obtain ⟨hP, hD, hS, ⟨ka, hka⟩, hrela⟩ := rs_w_of hon.2.1 hsi (by rw [hEa]; dsimp only; omega)
    obtain ⟨-, -, -, ⟨kb, hkb⟩, hrelb⟩ := rs_w_of hon.2.1 hdi (by rw [hEb]; dsimp only; omega)
    rw [hEa] at hrela
    rw [hEb] at hrelb
    obtain ⟨cA, g, e1, e2, e3, e4⟩ := hrela.2.1 h6
    obtain ⟨cB, gb, b1, b2, b3, b4⟩ := hrelb.2.1 h7
    have hkb' := hkb
    rw [b1] at hkb'
    rw [e1] at hka
    dsimp only at e2 e3 e4 b2 b3 b4 hka hkb'
    subst en_
    subst edp
    subst esp
    have hpos := rs_i_pos (a := n.2.1) (by omega)
    have hc0 : (rs_i 0).toNatClampNeg = 0 := rs_cl (by decide)
    have hcn : (rs_i n.2.1).toNatClampNeg = n.2.1 := rs_cl (by omega)
    have h1024 : (2 : Nat) ^ 10 = 1024 := rfl
    have hnn := (rs_w_all hon.2.1).2.2.2
    obtain ⟨hp', d1, d2, d3⟩ := rt_sE 10 d.2.1 w.1 _ (by omega) h
    refine va_copyi hx hb (by rw [hml, ← hnL]; exact hon.2.2.2.1.1.symm) hown (hts _ (rk_tat_ok k1)) (hts _ (rk_tat_ok k3)) (hts _ (rk_tat_ok k2)) (hts _ (rk_tat_ok k6)) hK hP hD hS ka kb 0 0 hka hkb' e2 b2 rfl (by decide) (by decide) (by
      intro h0
      rw [Int32.lt_iff_toInt_lt] at h0
      have : (0 : Int32).toInt = 0 := rfl
      omega) (by rw [hc0, hcn]; omega) (by rw [hc0, hcn]; omega) (fun i hi => rfl) (by omega) (by omega) hdg (fun H1 locs1 hP1 hD1 hS9 => ?_)
    rw [hc0, hcn] at hP1 hD1
    have hrel' : rs_rel F.1.1 (rs_dn F ad w.2.1) (16, nb, fa) (.inl (cB, nb, .inl (va_cpy g gb 0 0 n.2.1))) := by
      refine ⟨fun h9 => absurd h9 (by dsimp only; omega), fun _ => ⟨cB, va_cpy g gb 0 0 n.2.1, rfl, b2, b3, fun j hj => ?_⟩, fun h9 => absurd h9 (by dsimp only; omega)⟩
      dsimp only at hj ⊢
      rw [pk_cpy_in (Nat.zero_le j) (by omega), Nat.zero_add, Nat.sub_zero]
      exact e4 j (by omega)
    exact rs_goto9 hk d1 (rs_up9 hon hon5.2.2.2.2 hdi (by rw [hEb]; dsimp only; omega) hrel' d2 d3 hkb hP1 hD1 hS9)
theorem rs_o_iret : rs_Snd MT rs_h_ireti (fun _ _ _ _ _ => (.ireturn, 1)) (fun M cap _ _ _ _ _ l' => decide (M.2.2.2.1 = some .int) && rs_capc cap l') := by
  intro p l e R s m args below meth c Q F M cap ft cx pc a b c' l' kt kc kr sk lo en w hdg hck h hk hc hr ad L f H locs ls st hon
  obtain ⟨hx, hb, ⟨hml, hnL⟩, hown, hts, hK, hA, hN, hroom, hnm, htys, hfl⟩ := cx
  obtain ⟨hck, hcp⟩ := rs_tru hck
  obtain ⟨hcp1, hcp2⟩ := rs_tru hcp
  have hcp1 := rs_leE hcp1
  have hcp2 := rs_leE hcp2
  unfold rs_h_ireti at h
  obtain ⟨hcq1, h⟩ := rs_andE h
  obtain ⟨hcq2, h⟩ := rs_andE h
  have hcq1 := rs_leE hcq1
  have hcq2 := rs_leE hcq2
  rcases sk with _ | ⟨v, _ | ⟨u, sk⟩⟩
  · cases h
  · obtain ⟨xv, s2, rfl, hv, hon2⟩ := rs_pop9 hon
    obtain ⟨v', h, hv'⟩ := rs_resE h hon.1 hv
    obtain ⟨h1, h⟩ := rs_andE h
    exact (hr pc v' lo en w h (by omega) (by omega)).2.1 hdg (of_decide_eq_true hck) (rs_leE h1) ad L f H locs ls _ (rs_push9 hon2 hv')
  · cases h
theorem rs_o_zret : rs_Snd MT rs_h_iretz (fun _ _ _ _ _ => (.ireturn, 1)) (fun M cap _ _ _ _ _ l' => decide (M.2.2.2.1 = some .boolean) && rs_capc cap l') := by
  intro p l e R s m args below meth c Q F M cap ft cx pc a b c' l' kt kc kr sk lo en w hdg hck h hk hc hr ad L f H locs ls st hon
  obtain ⟨hx, hb, ⟨hml, hnL⟩, hown, hts, hK, hA, hN, hroom, hnm, htys, hfl⟩ := cx
  obtain ⟨hck, hcp⟩ := rs_tru hck
  obtain ⟨hcp1, hcp2⟩ := rs_tru hcp
  have hcp1 := rs_leE hcp1
  have hcp2 := rs_leE hcp2
  unfold rs_h_iretz at h
  obtain ⟨hcq1, h⟩ := rs_andE h
  obtain ⟨hcq2, h⟩ := rs_andE h
  have hcq1 := rs_leE hcq1
  have hcq2 := rs_leE hcq2
  rcases sk with _ | ⟨v, _ | ⟨u, sk⟩⟩
  · cases h
  · obtain ⟨h1, h⟩ := rs_andE h
    obtain ⟨h1, h2⟩ := rs_andE h1
    exact (hr pc v lo en w h (by omega) (by omega)).2.2.1 hdg (of_decide_eq_true hck) (rs_eqE h1) (rs_leE h2) ad L f H locs ls _ hon
  · cases h
theorem rs_o_aret : rs_Snd MT rs_h_aret (fun _ _ _ _ _ => (.areturn, 1)) (fun M cap _ _ _ _ _ l' => (match M.2.2.2.1 with | some t => rs_isA t | none => false) && rs_capc cap l') := by
  intro p l e R s m args below meth c Q F M cap ft cx pc a b c' l' kt kc kr sk lo en w hdg hck h hk hc hr ad L f H locs ls st hon
  obtain ⟨hx, hb, ⟨hml, hnL⟩, hown, hts, hK, hA, hN, hroom, hnm, htys, hfl⟩ := cx
  obtain ⟨hck, hcp⟩ := rs_tru hck
  obtain ⟨hcp1, hcp2⟩ := rs_tru hcp
  have hcp1 := rs_leE hcp1
  have hcp2 := rs_leE hcp2
  unfold rs_h_aret at h
  obtain ⟨hcq1, h⟩ := rs_andE h
  obtain ⟨hcq2, h⟩ := rs_andE h
  have hcq1 := rs_leE hcq1
  have hcq2 := rs_leE hcq2
  rcases sk with _ | ⟨v, _ | ⟨u, sk⟩⟩
  · cases h
  · obtain ⟨h1, h⟩ := rs_andE h
    have h1 : v.1 = 4 ∨ v.1 = 5 := (rs_orE h1).imp rs_eqE rs_eqE
    refine (hr pc v lo en w h (by omega) (by omega)).2.2.2 hdg ?_ h1 ad L f H locs ls _ hon
    have hck : (match M.2.2.2.1 with | some t => rs_isA t | none => false) = true := hck
    split at hck
    · rename_i t ht
      refine ⟨t, ht, ?_⟩
      cases t <;> first | exact Or.inl ⟨_, rfl⟩ | exact Or.inr ⟨_, rfl⟩ | cases hck
    · cases hck
  · cases h
theorem rs_o_vret : rs_Snd MT rs_h_vret (fun _ _ _ _ _ => (.return_, 1)) (fun M cap _ _ _ _ _ l' => M.2.2.2.1.isNone && rs_capc cap l') := by
  intro p l e R s m args below meth c Q F M cap ft cx pc a b c' l' kt kc kr sk lo en w hdg hck h hk hc hr ad L f H locs ls st hon
  obtain ⟨hx, hb, ⟨hml, hnL⟩, hown, hts, hK, hA, hN, hroom, hnm, htys, hfl⟩ := cx
  obtain ⟨hck, hcp⟩ := rs_tru hck
  obtain ⟨hcp1, hcp2⟩ := rs_tru hcp
  have hcp1 := rs_leE hcp1
  have hcp2 := rs_leE hcp2
  unfold rs_h_vret at h
  obtain ⟨hcq1, h⟩ := rs_andE h
  obtain ⟨hcq2, h⟩ := rs_andE h
  have hcq1 := rs_leE hcq1
  have hcq2 := rs_leE hcq2
  rcases sk with _ | ⟨v, sk⟩
  · exact (hr pc (9, 0, 0) lo en w h (by omega) (by omega)).1 hdg (by simpa using hck) ad L f H locs ls _ hon
  · cases h
end RSS
