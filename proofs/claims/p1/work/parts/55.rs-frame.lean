/-! one frame by itself, with any calls that hold; the law's start -/
noncomputable def rs_fd (hs : Lean.RArray (Nat × rs_Hd)) (lt : Lean.RArray rs_I) (kc : rs_KC) (k : rs_KR) (n : Nat) : rs_KT :=
  @Nat.rec (fun _ => rs_KT) (fun _ _ _ _ _ => false)
    (fun _ ih pc sk lo en w => (@Prod.rec _ _ (fun _ => Bool) (fun p1 r1 => (@Prod.rec _ _ (fun _ => Bool) (fun cd r2 => (@Prod.rec _ _ (fun _ => Bool) (fun a r_a => (@Prod.rec _ _ (fun _ => Bool) (fun b r4 => (@Prod.rec _ _ (fun _ => Bool) (fun c l => (@Bool.rec (fun _ => Bool) false (@Prod.rec _ _ (fun _ => Bool) (fun _ h => h a b c l ih kc k p1 sk lo en w) (rt_g hs cd)) (Nat.beq p1 pc))) r4)) r_a)) r2)) r1)) (rt_g lt pc))) n
section RSD
variable {MT : Nat → rk_Mt × Nat × Nat}
theorem rs_fd_ok {hs : Lean.RArray (Nat × rs_Hd)} {ds : Lean.RArray rs_Dc} (h00 : (rt_g hs 0).2 = rs_h_no) {p : Program} {l : Launch} {e : Env} {R : Room} {s : State} {m : MethodId} {args : Array Value} {below : List Frame} {meth : Method} {c : Code} {Q : State → Prop} {F : rs_Fx} {M : rk_Mt} {cap : Nat × Nat} {ft : List (Nat × Nat × Nat × Nat)} {lt : Lean.RArray rs_I} {kc : rs_KC} {k : rs_KR}
    (hstep : ∀ (cd pc a b c' : Nat) (l' : List Nat) (kt : rs_KT) (sk lo : List rs_V) (en : rs_E) (w : rs_W), (rt_g hs cd).2 ≠ rs_h_no → decode M.2.1 pc = .ok (rt_g ds cd pc a b c' l') → rt_g (rs_cks MT) cd M cap ft pc a b c' l' = true → (rt_g hs cd).2 a b c' l' kt kc k pc sk lo en w = true → rs_KTok p l e R s m args below meth c Q F kt → rs_G p l e R s m args below meth c Q F pc sk lo en w) (hTl : rs_Tok MT ds lt (M, cap) ft) : ∀ (n pc : Nat) (sk lo : List rs_V) (en : rs_E) (w : rs_W), rs_fd hs lt kc k n pc sk lo en w = true → rs_G p l e R s m args below meth c Q F pc sk lo en w := by
  intro n
  induction n with
  | zero => intro pc sk lo en w h; cases h
  | succ n ih =>
    intro pc sk lo en w h
    have h : @Prod.rec _ _ (fun _ => Bool) (fun p1 r1 => @Prod.rec _ _ (fun _ => Bool) (fun cd r2 => @Prod.rec _ _ (fun _ => Bool) (fun a r_a => @Prod.rec _ _ (fun _ => Bool) (fun b r4 => @Prod.rec _ _ (fun _ => Bool) (fun c l => @Bool.rec (fun _ => Bool) false (@Prod.rec _ _ (fun _ => Bool) (fun _ h => h a b c l (rs_fd hs lt kc k n) kc k p1 sk lo en w) (rt_g hs cd)) (Nat.beq p1 pc)) r4) r_a) r2) r1) (rt_g lt pc) = true := h
    rcases hop : rt_g lt pc with ⟨p1, cd, a, b, c9, l9⟩
    rw [hop] at h
    obtain ⟨h1, h⟩ := rs_andE h
    have h1 : p1 = pc := rs_eqE h1
    rw [h1] at h hop
    have hst := hstep cd pc a b c9 l9 (rs_fd hs lt kc k n) sk lo en w
    rcases hh : rt_g hs cd with ⟨n9, hd⟩
    rw [hh] at h hst
    have h : hd a b c9 l9 (rs_fd hs lt kc k n) kc k pc sk lo en w = true := h
    have hno : hd ≠ rs_h_no := by
      intro h9
      rw [h9] at h
      cases h
    rcases hTl pc cd a b c9 l9 hop with h0 | ⟨t1, t2⟩
    · rw [h0] at hh
      rw [hh] at h00
      exact absurd h00 hno
    · exact hst hno t1 t2 h ih
/-- a contract out of a frame by itself -/
theorem rs_fd_con {FT : Nat → List (Nat × Nat × Nat × Nat)} (hT : ∀ z, rs_Tok MT rs_ds (rt_g rs_ct z) (MT z) (FT z)) (hMo : ∀ z, rs_Mok (MT z) (FT z)) {l : Launch} {tys : List (ClassId × FieldType)} {D : va_G} {r : Nat → Int32} {sb : Nat} (hty0 : ∃ cI c1 c2 c3 c4 c5 : ClassId, tys = rk_tys cI c1 c2 c3 c4 c5) {kc : rs_KC} (hkc : ∀ (tys : List (ClassId × FieldType)) (D : va_G) (r : Nat → Int32) (sb : Nat), (∃ cI c1 c2 c3 c4 c5 : ClassId, tys = rk_tys cI c1 c2 c3 c4 c5) → ∀ q as en hp nn kr, kc q as en hp nn kr = true → rs_Con l tys D r sb (MT q).1 (MT q).2 as en hp nn kr) {q n : Nat} {as : List rs_V} {en : rs_E} {hp : rs_H} {nn : Nat} {kr : rs_KR} (h : rs_fd rs_hs (rt_g rs_ct q) kc kr n 0 [] as en (hp, nn, 0, 0) = true) : rs_Con l tys D r sb (MT q).1 (MT q).2 as en hp nn kr :=
  rs_con_of hMo hty0 (fun p e R s m args below meth c Q F cx hret => rs_fd_ok (ds := rs_ds) rfl (fun cd pc a b c' l' kt sk lo en w hno h1 h2 h3 hk => by
    rcases rs_disp MT cd with h9 | h9
    · exact absurd h9 hno
    · exact h9 p l e R s m args below meth c Q F _ _ _ cx pc a b c' l' kt kc kr sk lo en w h1 h2 h3 hk (fun q as en hp nn kr hq => hkc _ _ _ _ cx.2.2.2.2.2.2.2.2.2.2.1 q as en hp nn kr hq) hret) (hT q) n 0 [] as en (hp, nn, 0, 0) h)
end RSD
/-- a call by the run -/
noncomputable def rs_kc0 : rs_KC := fun q as en hp nn kr => rs_run rs_ct 1000000 q kr 0 [] as en (hp, nn, 0, 0)
theorem rs_kTM : (∀ z, rs_Tok rs_MT rs_ds (rt_g rs_ct z) (rs_MT z) (rs_FT z)) ∧ ∀ z, rs_Mok (rs_MT z) (rs_FT z) := ⟨fun z => (rs_k_all z).1, fun z => (rs_k_all z).2⟩
def rs_tyq (tys : List (ClassId × FieldType)) : Prop := ∃ cI c1 c2 c3 c4 c5 : ClassId, tys = rk_tys cI c1 c2 c3 c4 c5
/-- calls that hold -/
def rs_KCall (kc : rs_KC) : Prop := ∀ (l : Launch) (tys : List (ClassId × FieldType)) (D : va_G) (r : Nat → Int32) (sb : Nat), rs_tyq tys → ∀ q as en hp nn kr, kc q as en hp nn kr = true → rs_Con l tys D r sb (rs_MT q).1 (rs_MT q).2 as en hp nn kr
theorem rs_kc0_ok : rs_KCall rs_kc0 := fun l _ _ _ _ hty q as en hp nn kr hq => rs_con_of rs_kTM.2 hty (fun p e R s m args below meth c Q F cx hret => rs_run_ok rs_kTM.1 rs_kTM.2 1000000 q p l e R s m args below meth c Q F cx kr 0 [] as en (hp, nn, 0, 0) hq hret)
theorem rs_zip {α : Type} {f : α → Nat → Bool} : ∀ (l : List α) (m : List Nat), l.length = m.length → (l.zip m).all (fun q => f q.1 q.2) = true → ∀ q ∈ l, ∃ i, f q i = true
  | [], _, _, _, q, h => absurd h List.not_mem_nil
  | a :: l, [], h, _, _, _ => by simp at h
  | a :: l, i :: m, h, h2, q, hq => by
    rw [List.zip_cons_cons, List.all_cons, Bool.and_eq_true] at h2
    rcases List.mem_cons.mp hq with rfl | hq
    · exact ⟨i, h2.1⟩
    · exact rs_zip l m (by simpa using h) h2.2 q hq
theorem rs_nfW : ∀ q ∈ rk_nf, Jvm.Cond.fieldLinkNest q.1 q.2.1 q.2.2.1 q.2.2.2.1 q.2.2.2.2.1 q.2.2.2.2.2 ∈ lw_tbl := fun q hq => by
  obtain ⟨i, hi⟩ := rs_zip (f := fun q i => decide (lw_tbl[i]? = some (Jvm.Cond.fieldLinkNest q.1 q.2.1 q.2.2.1 q.2.2.2.1 q.2.2.2.2.1 q.2.2.2.2.2))) rk_nf [172, 200, 201, 202, 203, 212, 213, 215, 216, 218, 220, 222, 223, 224, 225, 227, 228, 230, 231, 233, 235, 237, 239, 240, 242, 244, 246, 248, 250, 252, 254, 256, 258, 306, 308, 310, 312, 314, 316, 318, 346, 347, 348, 349, 351, 352, 354, 355, 364, 366, 368, 370, 372, 374, 376, 378, 380, 382, 422, 424, 426, 437, 438, 440, 441, 444, 446, 447, 449, 450, 452, 454, 473, 474, 475, 477, 479, 480, 481, 483, 485, 487, 489, 491, 493, 495, 524, 526, 528, 530, 533, 535] rfl (by decide +kernel) q hq
  exact List.mem_of_getElem? (of_decide_eq_true hi)
theorem rs_nmW : ∀ q ∈ rk_nm, Jvm.Cond.methodLinkNest q.1 q.2.1 q.2.2.1 q.2.2.2 ∈ lw_tbl := fun q hq => by
  obtain ⟨i, hi⟩ := rs_zip (f := fun q i => decide (lw_tbl[i]? = some (Jvm.Cond.methodLinkNest q.1 q.2.1 q.2.2.1 q.2.2.2))) rk_nm [164, 184, 301, 335, 341, 412, 416, 519, 618, 651, 654, 772, 963, 989, 1020, 1151] rfl (by decide +kernel) q hq
  exact List.mem_of_getElem? (of_decide_eq_true hi)
section RSL
theorem rs_classes {s : State} {args : Array Value} (hts : ∀ w ∈ lw_tbl, w.before args s = true) : ∃ D : va_G, ∀ (k : Nat) (q : vw_C), vwCl[k]? = some q → u_Kn s q.1 q.2.1 q.2.2 (D.1 k) (D.2 k) := by
  have sub : ∀ w ∈ rk_tbl, w ∈ lw_tbl := fun w h => (List.mem_filter.mp h).1
  obtain ⟨c0, i0, h0⟩ := u_known (C := RX0) (T := TX0) (N := 3) (n := 3) hts (fun z hz => sub z (rk_inX0 z hz)) (hts (.instantiable RX0 3) (List.mem_of_getElem? (i := 340) (by decide +kernel)))
  obtain ⟨c1, i1, h1⟩ := u_known (C := RX1) (T := TX1) (N := 8) (n := 8) hts (fun z hz => sub z (rk_inX1 z hz)) (hts (.instantiable RX1 8) (List.mem_of_getElem? (i := 404) (by decide +kernel)))
  obtain ⟨c2, i2, h2⟩ := u_known (C := RX2) (T := TX2) (N := 7) (n := 7) hts (fun z hz => sub z (rk_inX2 z hz)) (hts (.instantiable RX2 7) (List.mem_of_getElem? (i := 300) (by decide +kernel)))
  obtain ⟨c3, i3, h3⟩ := u_known (C := RX3) (T := TX3) (N := 4) (n := 4) hts (fun z hz => sub z (rk_inX3 z hz)) (hts (.instantiable RX3 4) (List.mem_of_getElem? (i := 163) (by decide +kernel)))
  obtain ⟨c4, i4, h4⟩ := u_known (C := RX4) (T := TX4) (N := 4) (n := 4) hts (fun z hz => sub z (rk_inX4 z hz)) (hts (.instantiable RX4 4) (List.mem_of_getElem? (i := 415) (by decide +kernel)))
  obtain ⟨c5, i5, h5⟩ := u_known (C := RX6) (T := TX6) (N := 10) (n := 10) hts (fun z hz => sub z (rk_inX6 z hz)) (hts (.instantiable RX6 10) (List.mem_of_getElem? (i := 334) (by decide +kernel)))
  obtain ⟨c6, i6, h6⟩ := u_known (C := RX7) (T := TX7) (N := 3) (n := 3) hts (fun z hz => sub z (rk_inX7 z hz)) (hts (.instantiable RX7 3) (List.mem_of_getElem? (i := 189) (by decide +kernel)))
  obtain ⟨c7, i7, h7⟩ := u_known (C := RX8) (T := TX8) (N := 20) (n := 20) hts (fun z hz => sub z (rk_inX8 z hz)) (hts (.instantiable RX8 20) (List.mem_of_getElem? (i := 183) (by decide +kernel)))
  obtain ⟨c8, i8, h8⟩ := u_known (C := RX9) (T := TX9) (N := 7) (n := 7) hts (fun z hz => sub z (rk_inX9 z hz)) (hts (.instantiable RX9 7) (List.mem_of_getElem? (i := 518) (by decide +kernel)))
  obtain ⟨c9, i9, h9⟩ := u_known (C := RX10) (T := TX10) (N := 10) (n := 10) hts (fun z hz => sub z (rk_inX10 z hz)) (hts (.instantiable RX10 10) (List.mem_of_getElem? (i := 149) (by decide +kernel)))
  obtain ⟨c10, i10, h10⟩ := u_known (C := RX11) (T := TX11) (N := 4) (n := 4) hts (fun z hz => sub z (rk_inX11 z hz)) (hts (.instantiable RX11 4) (List.mem_of_getElem? (i := 141) (by decide +kernel)))
  obtain ⟨c11, i11, h11⟩ := u_known (C := RX12) (T := TX12) (N := 13) (n := 13) hts (fun z hz => sub z (rk_inX12 z hz)) (hts (.instantiable RX12 13) (List.mem_of_getElem? (i := 1153) (by decide +kernel)))
  refine ⟨(fun k => if k = 0 then c0 else if k = 1 then c1 else if k = 2 then c2 else if k = 3 then c3 else if k = 4 then c4 else if k = 5 then c5 else if k = 6 then c6 else if k = 7 then c7 else if k = 8 then c8 else if k = 9 then c9 else if k = 10 then c10 else c11, fun k => if k = 0 then i0 else if k = 1 then i1 else if k = 2 then i2 else if k = 3 then i3 else if k = 4 then i4 else if k = 5 then i5 else if k = 6 then i6 else if k = 7 then i7 else if k = 8 then i8 else if k = 9 then i9 else if k = 10 then i10 else i11), fun k q hq => ?_⟩
  match k, hq with
  | 0, hq => cases hq; exact h0
  | 1, hq => cases hq; exact h1
  | 2, hq => cases hq; exact h2
  | 3, hq => cases hq; exact h3
  | 4, hq => cases hq; exact h4
  | 5, hq => cases hq; exact h5
  | 6, hq => cases hq; exact h6
  | 7, hq => cases hq; exact h7
  | 8, hq => cases hq; exact h8
  | 9, hq => cases hq; exact h9
  | 10, hq => cases hq; exact h10
  | 11, hq => cases hq; exact h11
  | k + 12, hq => simp [vwCl] at hq
theorem rs_arrays {s : State} {args : Array Value} (hts : ∀ w ∈ lw_tbl, w.before args s = true) : (∃ cI c1 c2 c3 c4 c5 : ClassId, ∀ (k : Nat) (q : ClassId × FieldType), (rk_tys cI c1 c2 c3 c4 c5)[k]? = some q → ArrOfT s q.1 q.2 ∧ va_RA s q.1 q.2) ∧ ∀ C ∈ [RX8, RX2, RX6, RX1, RX4], va_AO C s := by
  obtain ⟨cI, kI, qI, a1, a2, a3⟩ := Cond.arrayClass_spec (hts (.arrayClass .int) (List.mem_of_getElem? (i := 182) (by decide +kernel)))
  have wc1 := hts (.arrayOver (.object RX8)) (List.mem_of_getElem? (i := 155) (by decide +kernel))
  obtain ⟨pc1, c1, kc1, b1c1, b2c1, b3c1, b4c1, b5c1⟩ := Cond.arrayOver_spec wc1
  have wc2 := hts (.arrayOver (.object RX2)) (List.mem_of_getElem? (i := 157) (by decide +kernel))
  obtain ⟨pc2, c2, kc2, b1c2, b2c2, b3c2, b4c2, b5c2⟩ := Cond.arrayOver_spec wc2
  have wc3 := hts (.arrayOver (.object RX6)) (List.mem_of_getElem? (i := 159) (by decide +kernel))
  obtain ⟨pc3, c3, kc3, b1c3, b2c3, b3c3, b4c3, b5c3⟩ := Cond.arrayOver_spec wc3
  have wc4 := hts (.arrayOver (.object RX1)) (List.mem_of_getElem? (i := 161) (by decide +kernel))
  obtain ⟨pc4, c4, kc4, b1c4, b2c4, b3c4, b4c4, b5c4⟩ := Cond.arrayOver_spec wc4
  have wc5 := hts (.arrayOver (.object RX4)) (List.mem_of_getElem? (i := 414) (by decide +kernel))
  obtain ⟨pc5, c5, kc5, b1c5, b2c5, b3c5, b4c5, b5c5⟩ := Cond.arrayOver_spec wc5
  have mk : ∀ {C : String} {p c : ClassId} {k : Class}, s.vm.findClass C = some p → s.vm.classes[c]? = some k → k.kind = .array p (.object C) → s.vm.findClass ("[" ++ (FieldType.object C).toString) = some c → ArrOfT s c (.object C) ∧ va_RA s c (.object C) := fun f4 f2 f3 f1 => ⟨fun N z => ⟨(fun k h => by cases h), _, f2, _, f3⟩, _, _, f2, f3, f4, f1⟩
  refine ⟨⟨cI, c1, c2, c3, c4, c5, fun k q hq => ?_⟩, ?_⟩
  · match k, hq with
    | 0, hq => cases hq; exact ⟨fun N z => ⟨fun k h => (by cases h), kI, a2, qI, a3⟩, a1⟩
    | 1, hq => cases hq; exact mk b1c1 b3c1 b4c1 b5c1
    | 2, hq => cases hq; exact mk b1c2 b3c2 b4c2 b5c2
    | 3, hq => cases hq; exact mk b1c3 b3c3 b4c3 b5c3
    | 4, hq => cases hq; exact mk b1c4 b3c4 b4c4 b5c4
    | 5, hq => cases hq; exact mk b1c5 b3c5 b4c5 b5c5
    | k + 6, hq => simp [rk_tys] at hq
  · intro C hC
    simp only [List.mem_cons, List.not_mem_nil, or_false] at hC
    rcases hC with rfl | rfl | rfl | rfl | rfl
    · exact va_AO.of wc1
    · exact va_AO.of wc2
    · exact va_AO.of wc3
    · exact va_AO.of wc4
    · exact va_AO.of wc5
end RSL
