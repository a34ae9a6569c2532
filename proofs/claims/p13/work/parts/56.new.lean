/-! new things: a constructor's run within any frame -/
theorem rs_kTM : (∀ z, rs_Tok rs_MT rs_ds (rt_g rs_ct z) (rs_MT z) (rs_FT z)) ∧ ∀ z, rs_Mok (rs_MT z) (rs_FT z) := ⟨fun z => (rs_k_all z).1, fun z => (rs_k_all z).2⟩
def rs_tyq (tys : List (ClassId × FieldType)) : Prop := ∃ cI c1 c2 c3 c4 c5 : ClassId, tys = rk_tys cI c1 c2 c3 c4 c5
/-- calls that hold -/
def rs_KCall (kc : rs_KC) : Prop := ∀ (l : Launch) (tys : List (ClassId × FieldType)) (D : va_G) (r : Nat → Int32) (sb : Nat), rs_tyq tys → ∀ q as en hp nn kr, kc q as en hp nn kr = true → rs_Con l tys D r sb (rs_MT q).1 (rs_MT q).2 as en hp nn kr
theorem rs_kc0_ok : rs_KCall rs_kc0 := fun l _ _ _ _ hty q as en hp nn kr hq => rs_con_of rs_kTM.2 hty (fun p e R s m args below meth c Q F cx hret => rs_run_ok rs_kTM.1 rs_kTM.2 1000000 q p l e R s m args below meth c Q F cx kr 0 [] as en (hp, nn, 0, 0) hq hret)
section RNW
variable {p : Program} {l : Launch} {e : Env} {R : Room} {s : State} {m : MethodId} {args : Array Value} {below : List Frame} {meth : Method} {c : Code} {Q : State → Prop} {cells slots : Nat}
theorem rn_callW {H0 H : Heap} {locs : List Loc} {pc mc ms : Nat} {ls : Array Slot} {rest st0 : List Value} {A0 A1 : Nat → Prop} {free : Addr → Prop} {Body : Outcome → State → Prop} (hr : va_Run p l e R s m args below meth c H locs cells slots mc ms (F0 m pc ls st0) rest (fun st oc t => Body oc t ∧ va_F A1 st t) free) (hS : va_S A0 H0 H locs) (hA : ∀ q, q < H.size → A1 q → A0 q) (hf : ∀ q, free q → A0 q)
    (kk : ∀ (v : Option Value) (t : State) (H1 : Heap) (locs1 : List Loc), t.heap = H1 → s.vm.Alike t.vm → Body (.returned v) t → H.size ≤ H1.size → (∀ q, q < H.size → ¬ A1 q → H1[q]? = H[q]?) → va_S A0 H0 H1 locs1 → W p l e R s m args below meth c H1 locs1 (cells + mc) (slots + ms) Q (F0 m (pc + 3) ls (v.toList ++ rest))) : W p l e R s m args below meth c H locs cells slots Q (F0 m pc ls st0) := by
  intro T hT X
  obtain ⟨v, st₀, t, T', L, h0, X', hL, e1, e2, ⟨hbd, hz, hk⟩, st⟩ := hr T hT X
  rw [h0] at hz hk
  obtain ⟨t2, a1, b1⟩ := kk v t T'.heap (locs ++ L) e1.symm (by rw [← e2]; exact X'.warmed.alike) hbd (by rw [e1]; exact hz) (fun q h1 h2 => by rw [e1]; exact hk q h1 h2)
    ⟨Nat.le_trans hS.1 (by rw [e1]; exact hz), fun q h1 h2 => by rw [e1, hk q (Nat.lt_of_lt_of_le h1 hS.1) (fun z => h2 (hA q (Nat.lt_of_lt_of_le h1 hS.1) z))]; exact hS.2.1 q h1 h2, fun q hq => by
      rcases List.mem_append.mp hq with h | h
      · exact hS.2.2 q h
      · exact hf _ (hL q h)⟩ T' rfl X'
  exact ⟨t2, st t2 a1, b1⟩
/-- new C(): the thing is made, its constructor runs -/
theorem rn_new {cc : ByteArray} {nL : Nat} {Ts : List Cond} {own : String} (hx : p.tables.exec = Jvm.exec) (hb : c.code = cc) (hml : c.maxLocals = nL) (hown : s.vm.findClass own = some m.cls) (hts : ∀ w ∈ Ts, w.before args s = true) (htb : ∀ w ∈ rk_tbl, w ∈ Ts)
    {D : va_G} {tys : List (ClassId × FieldType)} (htq : rs_tyq tys) (hK : va_K D vwCl tys s) {A : Nat → Prop} (hA : ∀ q, s.heap.size ≤ q → A q) (hNU : ∀ (U : State) (locs : List Loc), va_S A s.heap U.heap locs → s.WarmedH U.vm → rs_NU U)
    {L : List Nat} {f : Nat → va_E} {H : Heap} {locs : List Loc} (hP : va_P D vwCl (va_pl L f) H) (hD : va_D A (va_pl L f)) (hS : va_S A s.heap H locs)
    {ci N i1 i2 z : Nat} {C : String} {T : u_T} (hc : vwCl[ci]? = some (C, T, N)) (hci : ci < 16) (hN32 : N ≤ 32) {tr : Lean.RArray rs_V} (hdv : (List.range N).all (fun k => rs_dft (rk_ty ci k) (rt_g tr k)) = true)
    (hcl : Cond.classLink own i1 C ∈ rk_tbl) (hinst : Cond.instantiable C N ∈ rk_tbl) (hini : Cond.initialized C ∈ rk_tbl) (hM : rk_Mt) (cap : Nat × Nat) (hMT : rs_MT z = (hM, cap)) (hret : hM.2.2.2.1 = none) (hnm : hM.1.name = "<init>")
    (q1 : Cond.initialized hM.1.cls ∈ rk_tbl) (q2 : hM.1.cls ≠ "java/lang/invoke/MethodHandle" ∧ hM.1.cls ≠ "java/lang/invoke/VarHandle" ∧ (parseMethodDescriptor hM.1.desc).map (fun d => d.parameters.length) = some 0) (q3 : Cond.methodLink own i2 hM.1 ∈ rk_tbl) (q4 : Cond.code hM.1 hM.2.1 hM.2.2.1 hM.2.2.2.1 ∈ rk_tbl) (q5 : Cond.instanceMethod hM.1 ∈ rk_tbl) (q6 : hM.2.2.2.2.1 + 1 ≤ R.frames ∧ 8 + (hM.2.2.1 + 11) + hM.2.2.2.2.2 ≤ R.locals) (q7 : 1 ≤ hM.2.2.1)
    {kr : rs_KR} (hrun : rs_kc0 z [(4, 0, 0)] [] (.leaf (ci, N, tr)) 1 kr = true) (hcs : cells + (1 + cap.1) ≤ R.cells ∧ slots + (N + cap.2) ≤ R.slots)
    {pc : Nat} {ls : Array Slot} (hls : ls.size = nL) {rest : List Value} (hcat : ((rest.map fun v => v.category).sum) ≤ 7) (d1 : decode cc pc = .ok (.new i1, 3)) (d2 : decode cc (pc + 3) = .ok (.dup, 1)) (d3 : decode cc (pc + 3 + 1) = .ok (.invokespecial i2, 3))
    (kk : ∀ (v : rs_V) (en : rs_E) (hp : rs_H) (nn : Nat) (ad : Nat → Nat) (L' : List Nat) (f' : Nat → va_E) (H1 : Heap) (locs1 : List Loc), kr v en hp nn = true → 1 ≤ nn → rs_Wd tys (fun _ => 0) 0 hp nn ad L' f' → (∀ a ∈ L, a ∈ L') → (∀ i, i < nn → ad i ∉ L) → (∀ a ∈ L, f' a = f a) → va_P D vwCl (va_pl L' f') H1 → va_D A (va_pl L' f') → va_S A s.heap H1 locs1 → W p l e R s m args below meth c H1 locs1 (cells + 1 + cap.1) (slots + N + cap.2) Q (F0 m (pc + 3 + 1 + 3) ls (.ref (ad 0) :: rest))) : W p l e R s m args below meth c H locs cells slots Q (F0 m pc ls rest) := by
  obtain ⟨g1, g2, g3⟩ := rk_clsOk ci C T N hc
  refine va_new hx hb hts (fun w hw => htb w (g1 w hw)) (rk_ty ci) g2 hown (hts _ (htb _ hcl)) (hts _ (htb _ hinst)) (hts _ (htb _ hini)) hK hP hD hS hA hc (fs := (List.range N).map (fun k => defaultValue (rk_ty ci k))) (fun j hj => ?_) (by omega) (by omega) d1 (fun q H1 hP1 hD1 hS1 => ?_)
  · show _ = ((List.range N).map (fun k => defaultValue (rk_ty ci k))).getD j .null
    rw [List.getD_eq_getElem?_getD, List.getElem?_map, List.getElem?_range hj]
    rfl
  have hqL : q ∉ L := va_pl_fresh2 (X := []) hD1
  rw [va_pl_push hqL] at hP1 hD1
  generalize hf1 : va_up f q (.inr (ci, (List.range N).map (fun k => defaultValue (rk_ty ci k)))) = f1 at hP1 hD1
  refine lv_dup hx hb d2 rfl ?_
  have hcon : rs_Con l tys D (fun _ => 0) 0 hM cap [(4, 0, 0)] [] (.leaf (ci, N, tr)) 1 kr := by
    have := rs_kc0_ok l tys D (fun _ => 0) 0 htq z [(4, 0, 0)] [] (.leaf (ci, N, tr)) 1 kr hrun
    rw [hMT] at this
    exact this
  have hWd : rs_Wd tys (fun _ => 0) 0 (.leaf (ci, N, tr)) 1 (fun _ => q) (L ++ [q]) f1 := by
    refine ⟨fun i hi => ⟨List.mem_append_right _ (List.mem_singleton.mpr rfl), fun _ => ⟨fun _ => ⟨(List.range N).map (fun k => defaultValue (rk_ty ci k)), ?_, ?_, hN32, fun k hk9 => ⟨defaultValue (rk_ty ci k), ?_, ?_⟩⟩, fun h9 => ?_, fun h9 => ?_⟩⟩, fun i j hi hj _ => by omega, by decide⟩
    · rw [← hf1, va_up_self]
      rfl
    · rw [List.length_map, List.length_range]
      rfl
    · have hk9 : k < N := hk9
      rw [List.getElem?_map, List.getElem?_range hk9]
      rfl
    · exact rs_dftE (List.all_eq_true.mp hdv k (List.mem_range.mpr hk9))
    · have h9 : ci = 16 := h9
      omega
    · have h9 : 17 ≤ ci := h9
      omega
  have henv : rs_env (fun _ => 0) [] := rs_env_nil _
  have hM9 := hcon henv q7 (fun _ => q) (L ++ [q]) f1 [.ref q] H1.size ⟨⟨Nat.lt_succ_self 0, rfl⟩, trivial⟩ hWd
  have hF : ∀ x, va_A (va_pl (L ++ [q]) f1) H1.size x → A x := by
    intro x hx9
    rcases hx9 with ⟨k, e9, hke⟩ | hx9
    · exact hD1.2 k (x, e9) hke
    · exact hA x (Nat.le_trans hS1.1 hx9)
  have hbl : FrameBlind (va_Pc [.ref q] (rk_Pre D tys rs_NU (L ++ [q]) f1 H1.size)) := fun a U g mk q9 => by
    obtain ⟨z0, z1, z2, z3, z4, z5⟩ := q9
    exact ⟨z0, z1, z2, va_K.moved (u := U) (U := U.calling g mk a) (Vm.Alike.refl U.vm) z3, z4, rs_NU_same (u := U) rfl z5⟩
  have hPs : PreS s H1 (va_Pc [.ref q] (rk_Pre D tys rs_NU (L ++ [q]) f1 H1.size)) [.ref q] := ⟨hbl, fun U hU hW => ⟨rfl, by rw [hU], by rw [hU]; exact hP1, va_K.moved hW.alike hK, hD1.weaken (fun _ _ _ _ => trivial), hNU U locs (by rw [hU]; exact hS1) hW⟩⟩
  have hG := rk_good (M := hM) htb q4
  have hws : rk_ws hM = Jvm.Cond.code hM.1 hM.2.1 hM.2.2.1 none :: rk_tbl := by
    unfold rk_ws
    rw [hret]
  refine rn_callW (Body := fun oc t => ∃ (x : Option Value) (v : rs_V) (en' : rs_E) (hp' : rs_H) (nn' : Nat) (ad' : Nat → Nat) (L' : List Nat) (f' : Nat → va_E), oc = .returned x ∧ (x = none ↔ hM.2.2.2.1 = none) ∧ kr v en' hp' nn' = true ∧ rs_env (fun _ => 0) en' ∧ (∀ y, x = some y → rs_den (fun _ => 0) 0 ad' nn' v y) ∧ rs_Wd tys (fun _ => 0) 0 hp' nn' ad' L' f' ∧ rs_fr (([], D, va_A (va_pl (L ++ [q]) f1) H1.size, #[], (fun _ => 0), 0, 0), .leaf (ci, N, tr), 1, (fun _ => q), L ++ [q], f1) hp' nn' ad' L' f' ∧ va_P D vwCl (va_pl L' f') t.heap ∧ va_K D vwCl tys t ∧ va_D (va_A (va_pl (L ++ [q]) f1) H1.size) (va_pl L' f')) (va_runI (As := []) (rest := .ref q :: rest) (b := q) (maxL := hM.2.2.1) ⟨hx, hb, hml, hown, hts⟩ hM9 ⟨callB_of 0 hts hG hws rfl rfl (hts _ (htb _ q1)) (hts _ (htb _ q3)) q2 q6, hnm, hts _ (htb _ q5)⟩ hPs rfl rfl hls rfl (lv_room (by show 1 + (rest.map fun v => v.category).sum ≤ 8; omega)) d3 ⟨by show cells + 1 + cap.1 ≤ R.cells; omega, by show slots + N + cap.2 ≤ R.slots; omega⟩) hS1 (fun x _ h9 => hF x h9) hF ?_
  intro v t H2 locs2 ht hvm hbd hz hk hS2
  obtain ⟨x, rv, en', hp', nn', ad', L', f', hoc, hx0, hkr, -, -, hWd2, hfr, hP2, -, hD2⟩ := hbd
  cases hoc
  have hv : v = none := hx0.mpr hret
  subst hv
  obtain ⟨r1, r2, r3, r4, r5, r6⟩ := hfr
  have ha0 : ad' 0 = q := r2 0 (Nat.lt_succ_self 0)
  rw [ht] at hP2
  have h2 := kk rv en' hp' nn' ad' L' f' H2 locs2 hkr r1 hWd2 (fun a ha => r4 a (List.mem_append_left _ ha)) (fun i hi => ?_) (fun a ha => ?_) hP2 (hD2.weaken (fun k q9 _ h9 => hF q9.1 h9)) hS2
  · rw [ha0] at h2
    exact h2
  · cases i with
    | zero => rw [ha0]; exact hqL
    | succ i => exact fun h9 => r5 (i + 1) (by omega) hi (List.mem_append_left _ h9)
  · have hne : a ≠ q := fun h9 => hqL (h9 ▸ ha)
    rw [r6 a (List.mem_append_left _ ha) (fun i hi _ => hne), ← hf1, va_up_ne _ _ hne]
end RNW
