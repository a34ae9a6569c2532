/-! THE CLAIM OUT OF ONE WALK OF THE LAW'S BODY. Your part is whole_start (and what it stands on); all else here is the same for every law, but numbers. -/
def R_law : String := "SpaceLinksLaw"
def lw_P (b : Addr) (xs : List Int32) (args : Array Value) (s : State) : Prop := args = #[.ref b] ∧ s.IntsAt b xs ∧ xs.length ≤ 3072 ∧ (Jvm.Cond.and given_1 narrow_1).before args s = true
def lw_Q (_ : Array Value) (s : State) (o : Outcome) (t : State) : Prop := o = .returned (some (.int 1)) ∧ Framed s o t [] 1049206 5954629
def lw_Z (below : List Frame) (a : Array Value) (s : State) : State → Prop := fun t => ∃ o, t.status = .running ∧ Ended t below o ∧ lw_Q a s o t
/-- the law's own end, with 1 on the stack, nothing written that was there before, its room as the claim has it -/
theorem lw_ret {p : Program} {l : Launch} {e : Env} {s : State} {m : MethodId} {below : List Frame} {meth : Method} {c : Code} {b : Nat} (hx : p.tables.exec = Jvm.exec) (hb : c.code = code) (hr : meth.sig.returnType = ret) (hlocks : meth.locks = false) {pc : Nat} {H : Heap} {ls : Array Slot} (hdg : decode code pc = .ok (.ireturn, 1)) : W p l e room_1 s m #[Value.ref b] below meth c H [] 1049206 5954629 (lw_Z below #[Value.ref b] s) (F0 m pc ls [.int 1]) := by
  intro T hT X
  obtain ⟨fs, hret, hrun, hended, hW, hframe⟩ := X.leave (v := some (.int 1)) (hlocks := hlocks) (fun h => by rw [hr] at h; cases h)
  have hmeth' : T.vm.method? m = some meth := X.method'
  refine ⟨T.setFrames fs, ?_, .returned (some (.int 1)), hrun, hended, rfl, ⟨_, rfl⟩, hW, hframe⟩
  jvm_step X.here [X.here.top, hx, hb, hdg, hmeth', hr, ret, narrow_b1]
  (try refine ⟨rfl, ?_⟩); (try refine ⟨rfl, ?_⟩)
  first | (intro acts; rw [hret _ acts rfl rfl rfl]) | rw [hret _ _ rfl rfl rfl]
  exact Steps.refl _
/-- what holds at the law's entry: the machine, the code, the tables' words (any of lw_tbl by 'hts w (by decide +kernel)'), the script of L ints xs at the cell b, what the Statement gives of the start (any of its parts by flat_of_before) -/
def lw_At (p : Program) (s : State) (m : MethodId) (meth : Method) (c : Code) (b L : Nat) (xs : Nat → Int32) : Prop :=
  p.tables.exec = Jvm.exec ∧ c.code = code ∧ meth.sig.returnType = ret ∧ c.maxLocals = 4 ∧ s.vm.findClass R_law = some m.cls ∧ (∀ w ∈ lw_tbl, w.before #[Value.ref b] s = true) ∧ va_X b L xs s s.heap ∧ b < s.heap.size ∧ meth.locks = false ∧ (Jvm.Cond.and given_1 narrow_1).before #[Value.ref b] s = true
theorem rs_zip {α : Type} {f : α → Nat → Bool} : ∀ (l : List α) (m : List Nat), l.length = m.length → (l.zip m).all (fun q => f q.1 q.2) = true → ∀ q ∈ l, ∃ i, f q i = true
  | [], _, _, _, q, h => absurd h List.not_mem_nil
  | a :: l, [], h, _, _, _ => by simp at h
  | a :: l, i :: m, h, h2, q, hq => by
    rw [List.zip_cons_cons, List.all_cons, Bool.and_eq_true] at h2
    rcases List.mem_cons.mp hq with rfl | hq
    · exact ⟨i, h2.1⟩
    · exact rs_zip l m (by simpa using h) h2.2 q hq
theorem rs_nfW : ∀ q ∈ rk_nf, Jvm.Cond.fieldLinkNest q.1 q.2.1 q.2.2.1 q.2.2.2.1 q.2.2.2.2.1 q.2.2.2.2.2 ∈ lw_tbl := fun q hq => by
  obtain ⟨i, hi⟩ := rs_zip (f := fun q i => decide (lw_tbl[i]? = some (Jvm.Cond.fieldLinkNest q.1 q.2.1 q.2.2.1 q.2.2.2.1 q.2.2.2.2.1 q.2.2.2.2.2))) rk_nf [172, 200, 201, 202, 203, 212, 213, 215, 216, 218, 220, 222, 223, 224, 225, 227, 228, 230, 231, 233, 235, 237, 239, 240, 242, 244, 246, 248, 250, 252, 254, 256, 258, 306, 308, 310, 312, 314, 316, 318, 346, 347, 348, 349, 351, 352, 354, 355, 364, 366, 368, 370, 372, 374, 376, 378, 380, 382, 422, 424, 426, 437, 438, 440, 441, 444, 446, 447, 449, 450, 452, 454, 473, 474, 475, 477, 479, 480, 481, 483, 485, 487, 489, 491, 493, 495, 524, 526, 528, 530, 533, 535] rfl (by decide +kernel) q hq
  exact List.mem_of_getElem? (of_decide_eq_true hi)
theorem rs_nmW : ∀ q ∈ rk_nm, Jvm.Cond.methodLinkNest q.1 q.2.1 q.2.2.1 q.2.2.2 ∈ lw_tbl := fun q hq => by
  obtain ⟨i, hi⟩ := rs_zip (f := fun q i => decide (lw_tbl[i]? = some (Jvm.Cond.methodLinkNest q.1 q.2.1 q.2.2.1 q.2.2.2))) rk_nm [164, 184, 301, 335, 341, 412, 416, 519, 618, 651, 654, 772, 963, 989, 1020, 1151] rfl (by decide +kernel) q hq
  exact List.mem_of_getElem? (of_decide_eq_true hi)
section RSL
theorem rs_classes {s : State} {args : Array Value} (hts : ∀ w ∈ lw_tbl, w.before args s = true) : ∃ D : va_G, ∀ (k : Nat) (q : vw_C), vwCl[k]? = some q → u_Kn s q.1 q.2.1 q.2.2 (D.1 k) (D.2 k) := by
  have sub : ∀ w ∈ rk_tbl, w ∈ lw_tbl := fun w h => (List.mem_filter.mp h).1
  obtain ⟨c0, i0, h0⟩ := u_known (C := RX0) (T := TX0) (N := 3) (n := 3) hts (fun z hz => sub z (rk_inX0 z hz)) (hts (.instantiable RX0 3) (List.mem_of_getElem? (i := 340) (by decide +kernel)))
  obtain ⟨c1, i1, h1⟩ := u_known (C := RX1) (T := TX1) (N := 8) (n := 8) hts (fun z hz => sub z (rk_inX1 z hz)) (hts (.instantiable RX1 8) (List.mem_of_getElem? (i := 404) (by decide +kernel)))
  obtain ⟨c2, i2, h2⟩ := u_known (C := RX2) (T := TX2) (N := 7) (n := 7) hts (fun z hz => sub z (rk_inX2 z hz)) (hts (.instantiable RX2 7) (List.mem_of_getElem? (i := 300) (by decide +kernel)))
  obtain ⟨c3, i3, h3⟩ := u_known (C := RX3) (T := TX3) (N := 4) (n := 4) hts (fun z hz => sub z (rk_inX3 z hz)) (hts (.instantiable RX3 4) (List.mem_of_getElem? (i := 163) (by decide +kernel)))
  obtain ⟨c4, i4, h4⟩ := u_known (C := RX4) (T := TX4) (N := 4) (n := 4) hts (fun z hz => sub z (rk_inX4 z hz)) (hts (.instantiable RX4 4) (List.mem_of_getElem? (i := 415) (by decide +kernel)))
  obtain ⟨c5, i5, h5⟩ := u_known (C := RX6) (T := TX6) (N := 10) (n := 10) hts (fun z hz => sub z (rk_inX6 z hz)) (hts (.instantiable RX6 10) (List.mem_of_getElem? (i := 334) (by decide +kernel)))
  obtain ⟨c6, i6, h6⟩ := u_known (C := RX7) (T := TX7) (N := 3) (n := 3) hts (fun z hz => sub z (rk_inX7 z hz)) (hts (.instantiable RX7 3) (List.mem_of_getElem? (i := 189) (by decide +kernel)))
  obtain ⟨c7, i7, h7⟩ := u_known (C := RX8) (T := TX8) (N := 20) (n := 20) hts (fun z hz => sub z (rk_inX8 z hz)) (hts (.instantiable RX8 20) (List.mem_of_getElem? (i := 183) (by decide +kernel)))
  obtain ⟨c8, i8, h8⟩ := u_known (C := RX9) (T := TX9) (N := 7) (n := 7) hts (fun z hz => sub z (rk_inX9 z hz)) (hts (.instantiable RX9 7) (List.mem_of_getElem? (i := 518) (by decide +kernel)))
  obtain ⟨c9, i9, h9⟩ := u_known (C := RX10) (T := TX10) (N := 10) (n := 10) hts (fun z hz => sub z (rk_inX10 z hz)) (hts (.instantiable RX10 10) (List.mem_of_getElem? (i := 149) (by decide +kernel)))
  obtain ⟨c10, i10, h10⟩ := u_known (C := RX11) (T := TX11) (N := 4) (n := 4) hts (fun z hz => sub z (rk_inX11 z hz)) (hts (.instantiable RX11 4) (List.mem_of_getElem? (i := 141) (by decide +kernel)))
  obtain ⟨c11, i11, h11⟩ := u_known (C := RX12) (T := TX12) (N := 13) (n := 13) hts (fun z hz => sub z (rk_inX12 z hz)) (hts (.instantiable RX12 13) (List.mem_of_getElem? (i := 1153) (by decide +kernel)))
  refine ⟨(fun k => if k = 0 then c0 else if k = 1 then c1 else if k = 2 then c2 else if k = 3 then c3 else if k = 4 then c4 else if k = 5 then c5 else if k = 6 then c6 else if k = 7 then c7 else if k = 8 then c8 else if k = 9 then c9 else if k = 10 then c10 else c11, fun k => if k = 0 then i0 else if k = 1 then i1 else if k = 2 then i2 else if k = 3 then i3 else if k = 4 then i4 else if k = 5 then i5 else if k = 6 then i6 else if k = 7 then i7 else if k = 8 then i8 else if k = 9 then i9 else if k = 10 then i10 else i11), fun k q hq => ?_⟩
  match k, hq with
  | 0, hq => cases hq; exact h0
  | 1, hq => cases hq; exact h1
  | 2, hq => cases hq; exact h2
  | 3, hq => cases hq; exact h3
  | 4, hq => cases hq; exact h4
  | 5, hq => cases hq; exact h5
  | 6, hq => cases hq; exact h6
  | 7, hq => cases hq; exact h7
  | 8, hq => cases hq; exact h8
  | 9, hq => cases hq; exact h9
  | 10, hq => cases hq; exact h10
  | 11, hq => cases hq; exact h11
  | k + 12, hq => simp [vwCl] at hq
theorem rs_arrays {s : State} {args : Array Value} (hts : ∀ w ∈ lw_tbl, w.before args s = true) : (∃ cI c1 c2 c3 c4 c5 : ClassId, ∀ (k : Nat) (q : ClassId × FieldType), (rk_tys cI c1 c2 c3 c4 c5)[k]? = some q → ArrOfT s q.1 q.2 ∧ va_RA s q.1 q.2) ∧ ∀ C ∈ [RX8, RX2, RX6, RX1, RX4], va_AO C s := by
  obtain ⟨cI, kI, qI, a1, a2, a3⟩ := Cond.arrayClass_spec (hts (.arrayClass .int) (List.mem_of_getElem? (i := 182) (by decide +kernel)))
  have wc1 := hts (.arrayOver (.object RX8)) (List.mem_of_getElem? (i := 155) (by decide +kernel))
  obtain ⟨pc1, c1, kc1, b1c1, b2c1, b3c1, b4c1, b5c1⟩ := Cond.arrayOver_spec wc1
  have wc2 := hts (.arrayOver (.object RX2)) (List.mem_of_getElem? (i := 157) (by decide +kernel))
  obtain ⟨pc2, c2, kc2, b1c2, b2c2, b3c2, b4c2, b5c2⟩ := Cond.arrayOver_spec wc2
  have wc3 := hts (.arrayOver (.object RX6)) (List.mem_of_getElem? (i := 159) (by decide +kernel))
  obtain ⟨pc3, c3, kc3, b1c3, b2c3, b3c3, b4c3, b5c3⟩ := Cond.arrayOver_spec wc3
  have wc4 := hts (.arrayOver (.object RX1)) (List.mem_of_getElem? (i := 161) (by decide +kernel))
  obtain ⟨pc4, c4, kc4, b1c4, b2c4, b3c4, b4c4, b5c4⟩ := Cond.arrayOver_spec wc4
  have wc5 := hts (.arrayOver (.object RX4)) (List.mem_of_getElem? (i := 414) (by decide +kernel))
  obtain ⟨pc5, c5, kc5, b1c5, b2c5, b3c5, b4c5, b5c5⟩ := Cond.arrayOver_spec wc5
  have mk : ∀ {C : String} {p c : ClassId} {k : Class}, s.vm.findClass C = some p → s.vm.classes[c]? = some k → k.kind = .array p (.object C) → s.vm.findClass ("[" ++ (FieldType.object C).toString) = some c → ArrOfT s c (.object C) ∧ va_RA s c (.object C) := fun f4 f2 f3 f1 => ⟨fun N z => ⟨(fun k h => by cases h), _, f2, _, f3⟩, _, _, f2, f3, f4, f1⟩
  refine ⟨⟨cI, c1, c2, c3, c4, c5, fun k q hq => ?_⟩, ?_⟩
  · match k, hq with
    | 0, hq => cases hq; exact ⟨fun N z => ⟨fun k h => (by cases h), kI, a2, qI, a3⟩, a1⟩
    | 1, hq => cases hq; exact mk b1c1 b3c1 b4c1 b5c1
    | 2, hq => cases hq; exact mk b1c2 b3c2 b4c2 b5c2
    | 3, hq => cases hq; exact mk b1c3 b3c3 b4c3 b5c3
    | 4, hq => cases hq; exact mk b1c4 b3c4 b4c4 b5c4
    | 5, hq => cases hq; exact mk b1c5 b3c5 b4c5 b5c5
    | k + 6, hq => simp [rk_tys] at hq
  · intro C hC
    simp only [List.mem_cons, List.not_mem_nil, or_false] at hC
    rcases hC with rfl | rfl | rfl | rfl | rfl
    · exact va_AO.of wc1
    · exact va_AO.of wc2
    · exact va_AO.of wc3
    · exact va_AO.of wc4
    · exact va_AO.of wc5
end RSL

/-! the law's frame -/
abbrev rl_A (s : State) : Nat → Prop := fun q => s.heap.size ≤ q
def rl_Cx (cI c1 c2 c3 c4 c5 : ClassId) (D : va_G) (ad adV : Nat → Nat) (p : Program) (s : State) (m : MethodId) (meth : Method) (c : Code) (b0 N : Nat) (xs : Nat → Int32) : Prop := p.tables.exec = Jvm.exec ∧ c.code = code ∧ c.maxLocals = 4 ∧ s.vm.findClass R_law = some m.cls ∧ (∀ w ∈ rk_tbl, w.before #[Value.ref b0] s = true) ∧ va_K D vwCl (rk_tys cI c1 c2 c3 c4 c5) s ∧ rk_NU s.heap.size ad adV s ∧ va_X b0 N xs s s.heap ∧ b0 < s.heap.size ∧ N ≤ 3072 ∧ meth.sig.returnType = ret ∧ meth.locks = false
def rl_S (cI c1 c2 c3 c4 c5 : ClassId) (D : va_G) (ad : Nat → Nat) (s : State) (ax am : Nat) (Gm : Nat → Option Nat) (Lm : List Nat) (Xc Xm : Int) (Gc : Nat → Option Nat) (Lc : List Nat) (fc fm : Nat → va_E) (H : Heap) (locs : List Loc) : Prop := va_P D vwCl (va_pl Lc fc) H ∧ va_D (rl_A s) (va_pl Lc fc) ∧ va_P D vwCl (va_pl Lm fm) H ∧ va_D (rl_A s) (va_pl Lm fm) ∧ va_S (rl_A s) s.heap H locs ∧ (∀ a ∈ Lc, a ∉ Lm) ∧ rm_TY cI c1 c2 c3 c4 c5 ad Gc Xc Lc fc ∧ rm_TY cI c1 c2 c3 c4 c5 ad Gm Xm Lm fm ∧ Gc ax = some 11 ∧ (∀ a, Gc a = some 11 → a = ax) ∧ Gm am = some 12 ∧ rm_PI Gm fm
section RLW
variable {p : Program} {l : Launch} {e : Env} {s : State} {m : MethodId} {below : List Frame} {meth : Method} {c : Code} {b0 N : Nat} {xs : Nat → Int32} {cI c1 c2 c3 c4 c5 : ClassId} {D : va_G} {ad adV : Nat → Nat} {cells slots : Nat} {H : Heap} {locs : List Loc}
variable {ax am : Nat} {Gm Gc : Nat → Option Nat} {Lm Lc : List Nat} {Xc Xm : Int} {fc fm : Nat → va_E}
theorem rl_S_X {Yc Ym : Int} (h : rl_S cI c1 c2 c3 c4 c5 D ad s ax am Gm Lm Xc Xm Gc Lc fc fm H locs) (h1 : Xc ≤ Yc) (h2 : Xm ≤ Ym) : rl_S cI c1 c2 c3 c4 c5 D ad s ax am Gm Lm Yc Ym Gc Lc fc fm H locs := by
  obtain ⟨a1, a2, a3, a4, a5, a6, a7, a8, a9⟩ := h
  exact ⟨a1, a2, a3, a4, a5, a6, rk_TY_X h1 a7, rk_TY_X h2 a8, a9⟩
theorem rl_scr (hC : rl_Cx cI c1 c2 c3 c4 c5 D ad adV p s m meth c b0 N xs) (hS : va_S (rl_A s) s.heap H locs) {pc j : Nat} {i : Int32} (hi : i.toInt = (j : Int)) (hj : j < N) (d : decode code pc = .ok (.iaload, 1)) {rest : List Value} {lo : List (Nat × Value)} (kk : rv_G p l e room_1 s m #[Value.ref b0] below meth c (lw_Z below #[Value.ref b0] s) 4 cells slots H locs (pc + 1) (.int (xs j) :: rest) lo) : rv_G p l e room_1 s m #[Value.ref b0] below meth c (lw_Z below #[Value.ref b0] s) 4 cells slots H locs pc (.int i :: .ref b0 :: rest) lo := by
  intro ls hl
  obtain ⟨hx, hb, hml, hown, hts, hK, hN, ⟨scr, g1, g2, g3, g4, g5⟩, hbl, hN9, -⟩ := hC
  have e1 : H[b0]? = some scr := by rw [hS.2.1 b0 hbl (Nat.not_le.mpr hbl)]; exact g1
  have hcl := rm_clamp hi
  have hin : ¬ (i < 0 ∨ scr.slots.size ≤ i.toNatClampNeg) := by
    rw [hcl, g4]
    intro h
    rcases h with h | h
    · rw [Int32.lt_iff_toInt_lt] at h
      have : (0 : Int32).toInt = 0 := rfl
      omega
    · omega
  exact W.iald (v := .int (xs j)) hx hb e1 g2 g3 hin (by rw [hcl]; exact g5 j hj) rfl rfl d (kk ls hl)
theorem rl_len (hC : rl_Cx cI c1 c2 c3 c4 c5 D ad adV p s m meth c b0 N xs) (hS : va_S (rl_A s) s.heap H locs) {pc : Nat} (d : decode code pc = .ok (.arraylength, 1)) {rest : List Value} {lo : List (Nat × Value)} (kk : rv_G p l e room_1 s m #[Value.ref b0] below meth c (lw_Z below #[Value.ref b0] s) 4 cells slots H locs (pc + 1) (.int (Int32.ofNat N) :: rest) lo) : rv_G p l e room_1 s m #[Value.ref b0] below meth c (lw_Z below #[Value.ref b0] s) 4 cells slots H locs pc (.ref b0 :: rest) lo := by
  intro ls hl
  obtain ⟨hx, hb, hml, hown, hts, hK, hN, ⟨scr, g1, g2, g3, g4, g5⟩, hbl, hN9, -⟩ := hC
  have e1 : H[b0]? = some scr := by rw [hS.2.1 b0 hbl (Nat.not_le.mpr hbl)]; exact g1
  exact W.alen (n := Int32.ofNat N) hx hb e1 g2 (by rw [g4]) rfl rfl d (kk ls hl)
theorem rl_call (hC : rl_Cx cI c1 c2 c3 c4 c5 D ad adV p s m meth c b0 N xs) {M : rk_Mt} {cap : Nat × Nat} {idx n ci pc : Nat} {Lx : List Nat} {fx : Nat → va_E} {bx : Nat} {as fs : List Value} {Body : Outcome → State → Prop} (hP : va_P D vwCl (va_pl Lx fx) H) (hD : va_D (rl_A s) (va_pl Lx fx)) (hS : va_S (rl_A s) s.heap H locs) (hbx : bx ∈ Lx) (hfb : fx bx = .inr (ci, fs)) (hcl : ∃ q, vwCl[ci]? = some q ∧ q.1 = M.1.cls)
    (hM : Met l M.1 (rk_ws M) { frames := M.2.2.2.2.1, cells := cap.1, slots := cap.2, locals := M.2.2.2.2.2 } (va_Pc (.ref bx :: as) (rk_Pre D (rk_tys cI c1 c2 c3 c4 c5) (rk_NU s.heap.size ad adV) Lx fx H.size)) (fun _ st oc t => Body oc t ∧ va_F (va_A (va_pl Lx fx) H.size) st t) cap.1 cap.2 (va_A (va_pl Lx fx) H.size))
    (hlk : rj_lk R_law idx M room_1 n) (hin : Jvm.Cond.instanceMethod M.1 ∈ rk_tbl) (hse : Jvm.Cond.selects M.1.cls M.1 M.1 ∈ rk_tbl) (d : decode code pc = .ok (.invokevirtual idx, 3)) (hn : as.length = n) {sk rest : List Value} (hsk : sk = as.reverse ++ .ref bx :: rest) (hcat : rm_cat rest) (hcs : cells + cap.1 ≤ room_1.cells ∧ slots + cap.2 ≤ room_1.slots) {lo : List (Nat × Value)}
    (kk : ∀ (v : Option Value) (t : State) (H1 : Heap) (locs1 : List Loc), t.heap = H1 → Body (.returned v) t → H.size ≤ H1.size → (∀ q, q < H.size → ¬ va_A (va_pl Lx fx) H.size q → H1[q]? = H[q]?) → va_S (rl_A s) s.heap H1 locs1 → rv_G p l e room_1 s m #[Value.ref b0] below meth c (lw_Z below #[Value.ref b0] s) 4 (cells + cap.1) (slots + cap.2) H1 locs1 (pc + 3) (v.toList ++ rest) lo) : rv_G p l e room_1 s m #[Value.ref b0] below meth c (lw_Z below #[Value.ref b0] s) 4 cells slots H locs pc sk lo := by
  intro ls hl
  obtain ⟨hx, hb, hml, hown, hts, hK, hN, -⟩ := hC
  obtain ⟨k1, k2, k3, k4, k5⟩ := hlk
  have hF : ∀ q, va_A (va_pl Lx fx) H.size q → rl_A s q := by
    intro q hq
    rcases hq with ⟨k, e9, hke⟩ | hq
    · exact hD.2 k (q, e9) hke
    · exact Nat.le_trans hS.1 hq
  have hG := rk_good (M := M) (big := rk_tbl) (fun w hw => hw) k1
  have hbl : FrameBlind (va_Pc (.ref bx :: as) (rk_Pre D (rk_tys cI c1 c2 c3 c4 c5) (rk_NU s.heap.size ad adV) Lx fx H.size)) := fun a U g mk q => by
    obtain ⟨q0, q1, q2, q3, q4, q5⟩ := q
    exact ⟨q0, q1, q2, va_K.moved (u := U) (U := U.calling g mk a) (Vm.Alike.refl U.vm) q3, q4, rk_hNc s.heap.size ad adV U _ rfl rfl q5⟩
  have hpre9 : ∀ U : State, U.heap = H → s.WarmedH U.vm → rk_Pre D (rk_tys cI c1 c2 c3 c4 c5) (rk_NU s.heap.size ad adV) Lx fx H.size U := fun U hU hW => ⟨by rw [hU], by rw [hU]; exact hP, va_K.moved hW.alike hK, hD.weaken (fun _ _ _ _ => trivial), rk_hNw s.heap.size ad adV s U (rl_A s) locs (fun q h => h) (by rw [hU]; exact hS) hW hN⟩
  obtain ⟨q0, hq0⟩ := rm_at (f := fx) hbx
  rw [hfb] at hq0
  obtain ⟨qc, hqc1, hqc2⟩ := hcl
  have hrv := va_recv hK hP hqc1 hq0
  rw [hqc2] at hrv
  have hPv : PreV s H M.1.cls bx (va_Pc (.ref bx :: as) (rk_Pre D (rk_tys cI c1 c2 c3 c4 c5) (rk_NU s.heap.size ad adV) Lx fx H.size)) as := ⟨hbl, hrv, fun U hU hW => ⟨rfl, hpre9 U hU hW⟩⟩
  have hsz : ls.size = 4 := hl.1
  refine rn_callW (va_runV (As := as) (rest := rest) (b := bx) (C := M.1.cls) ⟨hx, hb, hml, hown, hts⟩ hM ⟨callB_of n hts hG rfl rfl rfl (hts _ k2) (hts _ k4) k3 k5, hts _ hin, hts _ hse⟩ hPv rfl hn hsz hsk (lv_room hcat) d hcs) hS (fun q _ h9 => hF q h9) hF ?_
  intro v t H1 locs1 ht hvm hbd hz hk hS1
  exact kk v t H1 locs1 ht hbd hz hk hS1 ls hl
/-- the other part of the world stays -/
theorem rl_keep {Lx Ly : List Nat} {fx fy : Nat → va_E} {H1 : Heap} (hP : va_P D vwCl (va_pl Ly fy) H) (hd : ∀ a ∈ Ly, a ∉ Lx) (hk : ∀ q, q < H.size → ¬ va_A (va_pl Lx fx) H.size q → H1[q]? = H[q]?) : va_P D vwCl (va_pl Ly fy) H1 := by
  refine hP.kept (fun k q hk9 => ?_)
  obtain ⟨a, ha, ea⟩ := List.mem_map.mp (List.mem_of_getElem? hk9)
  subst ea
  refine hk a (va_pl_lt (X := []) hP ha) (fun h9 => ?_)
  rcases h9 with ⟨k9, e8, hk8⟩ | h9
  · obtain ⟨a9, ha9, ea9⟩ := List.mem_map.mp (List.mem_of_getElem? hk8)
    cases ea9
    exact hd a ha ha9
  · exact absurd (va_pl_lt (X := []) hP ha) (Nat.not_lt.mpr h9)
theorem rl_wk {Lx : List Nat} {fx fy : Nat → va_E} (hD : va_D (rl_A s) (va_pl Lx fx)) (hS : va_S (rl_A s) s.heap H locs) : ∀ q, va_A (va_pl Lx fx) H.size q → rl_A s q := by
  intro q hq
  rcases hq with ⟨k, e9, hke⟩ | hq
  · exact hD.2 k (q, e9) hke
  · exact Nat.le_trans hS.1 hq
theorem rl_callC (hC : rl_Cx cI c1 c2 c3 c4 c5 D ad adV p s m meth c b0 N xs) {M : rk_Mt} {idx n pc : Nat} {as : List Value} {avs : List rk_AV} {alts : List rk_Alt} {C : Int} {lv : Nat} (hSt : rl_S cI c1 c2 c3 c4 c5 D ad s ax am Gm Lm Xc Xm Gc Lc fc fm H locs) (hM : rk_Mc s.heap.size l cI c1 c2 c3 c4 c5 D ad adV M avs alts C lv) (hcM : M.1.cls = RX11) (hX : 0 ≤ Xc) (hXC : Xc + C ≤ rk_top) (hall : rk_all Gc Xc avs (.ref ax :: as))
    (hlk : rj_lk R_law idx M room_1 n) (hin : Jvm.Cond.instanceMethod M.1 ∈ rk_tbl) (hse : Jvm.Cond.selects M.1.cls M.1 M.1 ∈ rk_tbl) (d : decode code pc = .ok (.invokevirtual idx, 3)) (hn : as.length = n) {sk rest : List Value} (hsk : sk = as.reverse ++ .ref ax :: rest) (hcat : rm_cat rest) (hcs : cells ≤ room_1.cells ∧ slots ≤ room_1.slots) {lo : List (Nat × Value)}
    (kk : ∀ (v : Option Value) (u : Nat → va_E) (H1 : Heap) (locs1 : List Loc), rk_alt Gc (Xc + C) (.ref ax :: as) alts v → rc_Lv Gc lv fc u → rl_S cI c1 c2 c3 c4 c5 D ad s ax am Gm Lm (Xc + C) Xm Gc Lc u fm H1 locs1 → rv_G p l e room_1 s m #[Value.ref b0] below meth c (lw_Z below #[Value.ref b0] s) 4 cells slots H1 locs1 (pc + 3) (v.toList ++ rest) lo) : rv_G p l e room_1 s m #[Value.ref b0] below meth c (lw_Z below #[Value.ref b0] s) 4 cells slots H locs pc sk lo := by
  obtain ⟨hPc, hDc, hPm, hDm, hS, hdis, hTc, hTm, hGx, hUx, hGm, hPI⟩ := hSt
  obtain ⟨hL0, fs, e1, -⟩ := rc_me hTc hGx rfl
  have hb9 : ∀ a ∈ Lc, s.heap.size ≤ a := va_D_A hDc
  refine rl_call (cap := (0, 0)) hC hPc hDc hS hL0 e1 ⟨_, rfl, by rw [hcM]⟩ (hM Gc Xc Lc fc (.ref ax :: as) H.size hX hXC hall hTc trivial hb9 hS.1) hlk hin hse d hn hsk hcat hcs ?_
  intro v t H1 locs1 ht hbd hz hk hS1
  obtain ⟨v', u, hoc, ⟨hA, hT1, hL1⟩, hP1, -, hD1⟩ := hbd
  cases hoc
  rw [ht] at hP1
  exact kk v u H1 locs1 hA hL1 ⟨hP1, hD1.weaken (fun k q _ h9 => rl_wk (fy := fc) hDc hS q.1 h9), rl_keep hPm (fun a ha h9 => hdis a h9 ha) hk, hDm, hS1, hdis, hT1, hTm, hGx, hUx, hGm, hPI⟩
theorem rl_callG (hC : rl_Cx cI c1 c2 c3 c4 c5 D ad adV p s m meth c b0 N xs) {M : rk_Mt} {idx n pc : Nat} {cap : Nat × Nat} {as : List Value} {Pre : (Nat → Option Nat) → Int → (Nat → va_E) → Prop} {Po : (Nat → Option Nat) → (Nat → va_E) → Option Value → (Nat → Option Nat) → (Nat → va_E) → Prop} {C : Int} (hSt : rl_S cI c1 c2 c3 c4 c5 D ad s ax am Gm Lm Xc Xm Gc Lc fc fm H locs) (hM : rg_Met s.heap.size l cI c1 c2 c3 c4 c5 D ad adV M cap (.ref ax :: as) Pre Po C) (hcM : M.1.cls = RX11) (hX : 0 ≤ Xc) (hXC : Xc + C ≤ rk_top) (hpre : Pre Gc Xc fc)
    (hlk : rj_lk R_law idx M room_1 n) (hin : Jvm.Cond.instanceMethod M.1 ∈ rk_tbl) (hse : Jvm.Cond.selects M.1.cls M.1 M.1 ∈ rk_tbl) (d : decode code pc = .ok (.invokevirtual idx, 3)) (hn : as.length = n) {sk rest : List Value} (hsk : sk = as.reverse ++ .ref ax :: rest) (hcat : rm_cat rest) (hcs : cells + cap.1 ≤ room_1.cells ∧ slots + cap.2 ≤ room_1.slots) {lo : List (Nat × Value)}
    (kk : ∀ (v : Option Value) (G' : Nat → Option Nat) (L' : List Nat) (u : Nat → va_E) (H1 : Heap) (locs1 : List Loc), Po Gc fc v G' u → rg_ext Gc G' → rl_S cI c1 c2 c3 c4 c5 D ad s ax am Gm Lm (Xc + C) Xm G' L' u fm H1 locs1 → rv_G p l e room_1 s m #[Value.ref b0] below meth c (lw_Z below #[Value.ref b0] s) 4 (cells + cap.1) (slots + cap.2) H1 locs1 (pc + 3) (v.toList ++ rest) lo) : rv_G p l e room_1 s m #[Value.ref b0] below meth c (lw_Z below #[Value.ref b0] s) 4 cells slots H locs pc sk lo := by
  obtain ⟨hPc, hDc, hPm, hDm, hS, hdis, hTc, hTm, hGx, hUx, hGm, hPI⟩ := hSt
  obtain ⟨hL0, fs, e1, -⟩ := rc_me hTc hGx rfl
  have hb9 : ∀ a ∈ Lc, s.heap.size ≤ a := va_D_A hDc
  refine rl_call (cap := cap) hC hPc hDc hS hL0 e1 ⟨_, rfl, by rw [hcM]⟩ (hM Gc Xc Lc fc H.size hX hXC hTc hpre hb9 hS.1) hlk hin hse d hn hsk hcat hcs ?_
  intro v t H1 locs1 ht hbd hz hk hS1
  obtain ⟨v', G', L', u, hoc, hpo, hGG, hLL, hbb, hT1, hP1, -, hD1⟩ := hbd
  cases hoc
  rw [ht] at hP1
  refine kk v G' L' u H1 locs1 hpo hGG ⟨hP1, hD1.weaken (fun k q _ h9 => rl_wk (fy := fc) hDc hS q.1 h9), rl_keep hPm (fun a ha h9 => hdis a h9 ha) hk, hDm, hS1, fun a ha h9 => ?_, hT1, hTm, hGG.1 _ _ hGx, fun a ha => hUx a (hGG.2.1 a ha), hGm, hPI⟩
  have hlt := va_pl_lt (X := []) hPm h9
  rcases va_D_A hD1 a ha with ⟨k9, e8, hk8⟩ | h8
  · obtain ⟨a9, ha9, ea9⟩ := List.mem_map.mp (List.mem_of_getElem? hk8)
    cases ea9
    exact hdis a ha9 h9
  · omega
theorem rl_callM (hC : rl_Cx cI c1 c2 c3 c4 c5 D ad adV p s m meth c b0 N xs) {M : rk_Mt} {idx n pc : Nat} {as : List Value} {avs : List rk_AV} {alts : List rk_Alt} {C : Int} {lv : Nat} {Pw : rk_Pwt} (hSt : rl_S cI c1 c2 c3 c4 c5 D ad s ax am Gm Lm Xc Xm Gc Lc fc fm H locs) (hM : rk_Met s.heap.size l rk_K (rk_E ad) (rk_tys cI c1 c2 c3 c4 c5) D (rk_NU s.heap.size ad adV) rm_Lv Pw M avs alts C lv) (hPw : ∀ G f, rm_PI G f → Pw G f) (hlv : Nat.testBit lv 3 = false) (hcM : M.1.cls = RX12) (hX : 0 ≤ Xm) (hXC : Xm + C ≤ rk_top) (hall : rk_all Gm Xm avs (.ref am :: as))
    (hlk : rj_lk R_law idx M room_1 n) (hin : Jvm.Cond.instanceMethod M.1 ∈ rk_tbl) (hse : Jvm.Cond.selects M.1.cls M.1 M.1 ∈ rk_tbl) (d : decode code pc = .ok (.invokevirtual idx, 3)) (hn : as.length = n) {sk rest : List Value} (hsk : sk = as.reverse ++ .ref am :: rest) (hcat : rm_cat rest) (hcs : cells ≤ room_1.cells ∧ slots ≤ room_1.slots) {lo : List (Nat × Value)}
    (kk : ∀ (v : Option Value) (u : Nat → va_E) (H1 : Heap) (locs1 : List Loc), rk_alt Gm (Xm + C) (.ref am :: as) alts v → rm_Lv Gm lv fm u → rl_S cI c1 c2 c3 c4 c5 D ad s ax am Gm Lm Xc (Xm + C) Gc Lc fc u H1 locs1 → rv_G p l e room_1 s m #[Value.ref b0] below meth c (lw_Z below #[Value.ref b0] s) 4 cells slots H1 locs1 (pc + 3) (v.toList ++ rest) lo) : rv_G p l e room_1 s m #[Value.ref b0] below meth c (lw_Z below #[Value.ref b0] s) 4 cells slots H locs pc sk lo := by
  obtain ⟨hPc, hDc, hPm, hDm, hS, hdis, hTc, hTm, hGx, hUx, hGm, hPI⟩ := hSt
  obtain ⟨hL0, fs, e1, -⟩ := rc_me hTm hGm rfl
  have hb9 : ∀ a ∈ Lm, s.heap.size ≤ a := va_D_A hDm
  refine rl_call (cap := (0, 0)) hC hPm hDm hS hL0 e1 ⟨_, rfl, by rw [hcM]⟩ (hM Gm Xm Lm fm (.ref am :: as) H.size hX hXC hall hTm (hPw _ _ hPI) hb9 hS.1) hlk hin hse d hn hsk hcat hcs ?_
  intro v t H1 locs1 ht hbd hz hk hS1
  obtain ⟨v', u, hoc, ⟨hA, hT1, hL1⟩, hP1, -, hD1⟩ := hbd
  cases hoc
  rw [ht] at hP1
  exact kk v u H1 locs1 hA hL1 ⟨rl_keep hPc (fun a ha h9 => hdis a ha h9) hk, hDc, hP1, hD1.weaken (fun k q _ h9 => rl_wk (fy := fm) hDm hS q.1 h9), hS1, hdis, hTc, hT1, hGx, hUx, hGm, rm_PIok hlv _ _ _ hL1 hPI⟩
end RLW
