/-! contracts that say more than kinds; rules for calls, fields, rows, returns over a typed world -/
abbrev rm_Pr : Type := (Nat → Option Nat) → Int → List Nat → (Nat → va_E) → Prop
abbrev rm_Po : Type := (Nat → Option Nat) → Int → List Nat → (Nat → va_E) → Option Value → (Nat → va_E) → Prop
def rm_Met (base : Nat) (l : Launch) (K : Nat → rk_KD) (E : Nat → Nat → rk_AV) (tys : List (ClassId × FieldType)) (D : va_G) (NU : State → Prop) (M : rk_Mt) (av : List Value) (Pre : rm_Pr) (Po : rm_Po) (C : Int) : Prop :=
  ∀ (G : Nat → Option Nat) (X : Int) (L : List Nat) (f : Nat → va_E) (sz : Nat), 0 ≤ X → X + C ≤ rk_top → rk_TY K E tys G X L f → Pre G X L f → (∀ a ∈ L, base ≤ a) → base ≤ sz →
    Met l M.1 (rk_ws M) { frames := M.2.2.2.2.1, cells := 0, slots := 0, locals := M.2.2.2.2.2 } (va_Pc av (rk_Pre D tys NU L f sz)) (rk_Q (Po G X L f) (rk_B D tys L (va_A (va_pl L f) sz)) (va_A (va_pl L f) sz)) 0 0 (va_A (va_pl L f) sz)
theorem rm_of {base : Nat} {l : Launch} {K : Nat → rk_KD} {E : Nat → Nat → rk_AV} {tys : List (ClassId × FieldType)} {D : va_G} {NU : State → Prop} {Lv : rk_Lvt} {Pw : rk_Pwt} {M : rk_Mt} {avs : List rk_AV} {alts : List rk_Alt} {C : Int} {lv : Nat} (h : rk_Met base l K E tys D NU Lv Pw M avs alts C lv) (av : List Value) : rm_Met base l K E tys D NU M av (fun G X _ f => rk_all G X avs av ∧ Pw G f) (fun G X L f => rk_post K E tys G (X + C) L f av alts Lv lv) C :=
  fun G X L f sz h1 h2 h3 h4 h5 h6 => h G X L f av sz h1 h2 h4.1 h3 h4.2 h5 h6
/-- the cells, without their kinds -/
def rm_h (D : va_G) (A : Nat → Prop) (s : State) (L : List Nat) (f : Nat → va_E) (H : Heap) (locs : List Loc) : Prop := va_P D vwCl (va_pl L f) H ∧ va_D A (va_pl L f) ∧ va_S A s.heap H locs
/-- what a walk of a method rests on -/
def rm_Cx (base : Nat) (tys : List (ClassId × FieldType)) (D : va_G) (NU : State → Prop) (M : rk_Mt) (mt : Nat → rk_Mt) (ml : rk_Ml) (fl : rk_Fl) (p : Program) (R : Room) (s : State) (m : MethodId) (args : Array Value) (meth : Method) (c : Code) (A : Nat → Prop) (L : List Nat) : Prop :=
  p.tables.exec = Jvm.exec ∧ c.code = M.2.1 ∧ c.maxLocals = M.2.2.1 ∧ meth.sig.returnType = M.2.2.2.1 ∧ meth.locks = false ∧ s.vm.findClass M.1.cls = some m.cls ∧ (∀ w ∈ rk_ws M, w.before args s = true) ∧ va_K D vwCl tys s ∧ NU s ∧ (∀ (U : State) (locs : List Loc), va_S A s.heap U.heap locs → s.WarmedH U.vm → NU U) ∧ (∀ u U : State, u.vm = U.vm → u.heap = U.heap → NU u → NU U) ∧ rk_MlOk s args R M.1.cls mt ml ∧ rk_FlOk s args (rk_ws M) M.1.cls fl ∧ (∀ a ∈ L, base ≤ a) ∧ base ≤ s.heap.size ∧ (∀ q, s.heap.size ≤ q → A q)
section RM
variable {base : Nat} {K : Nat → rk_KD} {E : Nat → Nat → rk_AV} {tys : List (ClassId × FieldType)} {D : va_G} {NU : State → Prop} {M : rk_Mt} {mt : Nat → rk_Mt} {ml : rk_Ml} {fl : rk_Fl}
variable {p : Program} {l : Launch} {e : Env} {R : Room} {s : State} {m : MethodId} {args : Array Value} {below : List Frame} {meth : Method} {c : Code} {Q : State → Prop} {cells slots : Nat} {A : Nat → Prop} {G : Nat → Option Nat} {L : List Nat} {X : Int} {f : Nat → va_E} {H : Heap} {locs : List Loc}
theorem rm_callW {H0 H : Heap} {locs : List Loc} {pc cells slots : Nat} {ls : Array Slot} {rest st0 : List Value} {a : Array Value} {A0 A1 : Nat → Prop} {free : Addr → Prop} {post : Option Value → (Nat → va_E) → Prop} {B : (Nat → va_E) → State → Prop} (hr : va_Run p l e R s m args below meth c H locs cells slots 0 0 (F0 m pc ls st0) rest (rk_Q post B A1 a) free) (hS : va_S A0 H0 H locs) (hA : ∀ q, q < H.size → A1 q → A0 q) (hf : ∀ q, free q → A0 q)
    (kk : ∀ (v : Option Value) (u : Nat → va_E) (t : State) (H1 : Heap) (locs1 : List Loc), t.heap = H1 → s.vm.Alike t.vm → post v u → B u t → va_S A0 H0 H1 locs1 → W p l e R s m args below meth c H1 locs1 cells slots Q (F0 m (pc + 3) ls (v.toList ++ rest))) : W p l e R s m args below meth c H locs cells slots Q (F0 m pc ls st0) := by
  intro T hT X
  obtain ⟨v, st₀, t, T', L, h0, X', hL, e1, e2, ⟨⟨v', u, hv, hp, hb⟩, hz, hk⟩, st⟩ := hr T hT X
  cases hv
  rw [h0] at hz hk
  obtain ⟨t2, a1, b1⟩ := kk v u t T'.heap (locs ++ L) e1.symm (by rw [← e2]; exact X'.warmed.alike) hp hb
    ⟨Nat.le_trans hS.1 (by rw [e1]; exact hz), fun q h1 h2 => by rw [e1, hk q (Nat.lt_of_lt_of_le h1 hS.1) (fun z => h2 (hA q (Nat.lt_of_lt_of_le h1 hS.1) z))]; exact hS.2.1 q h1 h2, fun q hq => by
      rcases List.mem_append.mp hq with h | h
      · exact hS.2.2 q h
      · exact hf _ (hL q h)⟩ T' rfl X'
  exact ⟨t2, st t2 a1, b1⟩
/-- a thing of the world, by its place -/
theorem rm_at {b : Nat} (hb : b ∈ L) : ∃ q0 : Nat, (va_pl L f)[q0]? = some (b, f b) := va_pl_get (X := []) (f := f) hb
/-- what a call wants of the rest of the stack -/
def rm_cat (rest : List Value) : Prop := (rest.map fun v => v.category).sum ≤ 8
theorem rm_callV (hC : rm_Cx base tys D NU M mt ml fl p R s m args meth c A L) (hh : rm_h D A s L f H locs) {pc idx z n ci : Nat} (hdg : decode M.2.1 pc = .ok (.invokevirtual idx, 3)) (hidx : ml idx = some (z, n, ci + 1)) {b : Nat} {as fs : List Value} (hbL : b ∈ L) (hfb : f b = .inr (ci, fs)) {Pre : rm_Pr} {Po : rm_Po} {C : Int} (hM : rm_Met base l K E tys D NU (mt z) (.ref b :: as) Pre Po C) (hX : 0 ≤ X) (hXC : X + C ≤ rk_top) (hT : rk_TY K E tys G X L f) (hpre : Pre G X L f) (hn : as.length + 1 = n) {sk rest : List Value} (hsk : sk = as.reverse ++ .ref b :: rest) (hcat : rm_cat rest) (hcs : cells ≤ R.cells ∧ slots ≤ R.slots) {lo : List (Nat × Value)}
    (kk : ∀ (v : Option Value) (u : Nat → va_E) (H1 : Heap) (locs1 : List Loc), Po G X L f v u → rm_h D A s L u H1 locs1 → rv_G p l e R s m args below meth c Q M.2.2.1 cells slots H1 locs1 (pc + 3) (v.toList ++ rest) lo) : rv_G p l e R s m args below meth c Q M.2.2.1 cells slots H locs pc sk lo := by
  intro ls hl
  obtain ⟨hx, hb, hml9, -, -, hown, hts, hK, hNs, hNw, hNc, hml, -, hBL, hB0, hA⟩ := hC
  obtain ⟨hP, hD, hS⟩ := hh
  have hM := hM G X L f H.size hX hXC hT hpre hBL (Nat.le_trans hB0 hS.1)
  obtain ⟨k1, k2, k3, k4, k5, k6, k7⟩ := hml idx z n (ci + 1) hidx
  obtain ⟨i1, i2, ⟨q, hq, hqc⟩, k, hnk, hpar⟩ := k7 ci rfl
  have hF : ∀ q, va_A (va_pl L f) H.size q → A q := by
    intro q hq
    rcases hq with ⟨k, e9, hke⟩ | hq
    · exact hD.2 k (q, e9) hke
    · exact hA q (Nat.le_trans hS.1 hq)
  have htb : ∀ w ∈ rk_tbl, w ∈ rk_ws M := fun w hw => List.mem_cons_of_mem _ hw
  have hG := rk_good (M := mt z) htb k1
  have hbl : FrameBlind (va_Pc (.ref b :: as) (rk_Pre D tys NU L f H.size)) := fun a U g mk q => by
    obtain ⟨q0, q1, q2, q3, q4, q5⟩ := q
    exact ⟨q0, q1, q2, va_K.moved (u := U) (U := U.calling g mk a) (Vm.Alike.refl U.vm) q3, q4, hNc U _ rfl rfl q5⟩
  have hpre9 : ∀ U : State, U.heap = H → s.WarmedH U.vm → rk_Pre D tys NU L f H.size U := fun U hU hW => ⟨by rw [hU], by rw [hU]; exact hP, va_K.moved hW.alike hK, hD.weaken (fun _ _ _ _ => trivial), hNw U locs (by rw [hU]; exact hS) hW⟩
  obtain ⟨q0, hq0⟩ := rm_at (f := f) hbL
  rw [hfb] at hq0
  have hrv := va_recv hK hP hq hq0
  rw [hqc] at hrv
  have hPv : PreV s H (mt z).1.cls b (va_Pc (.ref b :: as) (rk_Pre D tys NU L f H.size)) as := ⟨hbl, hrv, fun U hU hW => ⟨rfl, hpre9 U hU hW⟩⟩
  have hsz : ls.size = M.2.2.1 := hl.1
  have hk9 : as.length = k := by omega
  have hcs0 : cells + 0 ≤ R.cells ∧ slots + 0 ≤ R.slots := hcs
  have fin : ∀ (v : Option Value) (u : Nat → va_E) (t : State) (H1 : Heap) (locs1 : List Loc), t.heap = H1 → s.vm.Alike t.vm → Po G X L f v u → rk_B D tys L (va_A (va_pl L f) H.size) u t → va_S A s.heap H1 locs1 → W p l e R s m args below meth c H1 locs1 cells slots Q (F0 m (pc + 3) ls (v.toList ++ rest)) := by
    intro v u t H1 locs1 ht hvm hp hB hS1
    obtain ⟨hP1, hK1, hD1⟩ := hB
    rw [ht] at hP1
    exact kk v u H1 locs1 hp ⟨hP1, hD1.weaken (fun k q _ h9 => hF q.1 h9), hS1⟩ ls hl
  rcases k4 with hl4 | ⟨host, hl4⟩
  · exact rm_callW (va_runV (As := as) (rest := rest) (b := b) (C := (mt z).1.cls) ⟨hx, hb, hml9, hown, hts⟩ hM ⟨callB_of k hts hG rfl rfl rfl k2 hl4 ⟨k3.1, k3.2, hpar⟩ k5, i1, i2⟩ hPv rfl hk9 hsz hsk (lv_room hcat) hdg hcs0) hS (fun q _ h9 => hF q h9) hF fin
  · exact rm_callW (va_runVN (As := as) (rest := rest) (b := b) (C := (mt z).1.cls) ⟨hx, hb, hml9, hown, hts⟩ hM ⟨va_cnB k hts hG rfl rfl rfl hl4 k2 ⟨k3.1, k3.2, hpar⟩ k5, i1, i2⟩ hPv rfl hk9 hsz hsk (lv_room hcat) hdg hcs0) hS (fun q _ h9 => hF q h9) hF fin
theorem rm_get (hC : rm_Cx base tys D NU M mt ml fl p R s m args meth c A L) (hh : rm_h D A s L f H locs) {pc idx ci i w : Nat} (hdg : decode M.2.1 pc = .ok (.getfield idx, 3)) (hidx : fl idx = some (ci, i, w)) {b : Nat} {fs : List Value} (hbL : b ∈ L) (hfb : f b = .inr (ci, fs)) {v : Value} (hv : fs[i]? = some v) {rest : List Value} {lo : List (Nat × Value)}
    (kk : rv_G p l e R s m args below meth c Q M.2.2.1 cells slots H locs (pc + 3) (v :: rest) lo) : rv_G p l e R s m args below meth c Q M.2.2.1 cells slots H locs pc (.ref b :: rest) lo := by
  intro ls hl
  obtain ⟨hx, hb, hml9, -, -, hown, hts, hK, hNs, hNw, hNc, -, hfl, hBL, hB0, hA⟩ := hC
  obtain ⟨hP, hD, hS⟩ := hh
  obtain ⟨C, T, N, ty0, hC, hkN, hin, hty0, hnm, hlink, -⟩ := hfl _ _ _ _ hidx
  obtain ⟨q0, hq0⟩ := rm_at (f := f) hbL
  rw [hfb] at hq0
  rcases hlink with hl4 | ⟨host, hl4⟩
  · exact va_get hx hb hts hin hown hK hP q0 hq0 hC i hkN hl4 (fun _ h9 => h9) hv hdg (kk ls hl)
  · exact va_getN hx hb hts hin hown hK hP q0 hq0 hC i hkN hl4 (fun _ h9 => h9) hv hdg (kk ls hl)
theorem rm_iald (hC : rm_Cx base tys D NU M mt ml fl p R s m args meth c A L) (hh : rm_h D A s L f H locs) {pc : Nat} (hdg : decode M.2.1 pc = .ok (.iaload, 1)) {b n : Nat} {cA : ClassId} {g : Nat → Int32} (hbL : b ∈ L) (hfb : f b = .inl (cA, n, .inl g)) (hcA : tys[0]? = some (cA, .int)) {i : Int32} (h0 : 0 ≤ i.toInt) (h1 : i.toInt < (n : Int)) {rest : List Value} {lo : List (Nat × Value)}
    (kk : rv_G p l e R s m args below meth c Q M.2.2.1 cells slots H locs (pc + 1) (.int (g i.toNatClampNeg) :: rest) lo) : rv_G p l e R s m args below meth c Q M.2.2.1 cells slots H locs pc (.int i :: .ref b :: rest) lo := by
  intro ls hl
  obtain ⟨hx, hb, hml9, -, -, hown, hts, hK, hNs, hNw, hNc, -, hfl, hBL, hB0, hA⟩ := hC
  obtain ⟨hP, hD, hS⟩ := hh
  obtain ⟨q0, hq0⟩ := rm_at (f := f) hbL
  rw [hfb] at hq0
  exact va_iald hx hb hK hP q0 0 hq0 hcA (vp_in_iff.mpr ⟨h0, h1⟩) hdg (kk ls hl)
theorem rm_iast (hC : rm_Cx base tys D NU M mt ml fl p R s m args meth c A L) (hh : rm_h D A s L f H locs) {pc : Nat} (hdg : decode M.2.1 pc = .ok (.iastore, 1)) {b n : Nat} {cA : ClassId} {g : Nat → Int32} (hbL : b ∈ L) (hfb : f b = .inl (cA, n, .inl g)) (hcA : tys[0]? = some (cA, .int)) {i x : Int32} (h0 : 0 ≤ i.toInt) (h1 : i.toInt < (n : Int)) {rest : List Value} {lo : List (Nat × Value)}
    (kk : ∀ (H1 : Heap) (locs1 : List Loc), rm_h D A s L (va_up f b (.inl (cA, n, .inl (upd g i.toNatClampNeg x)))) H1 locs1 → rv_G p l e R s m args below meth c Q M.2.2.1 cells slots H1 locs1 (pc + 1) rest lo) : rv_G p l e R s m args below meth c Q M.2.2.1 cells slots H locs pc (.int x :: .int i :: .ref b :: rest) lo := by
  intro ls hl
  obtain ⟨hx, hb, hml9, -, -, hown, hts, hK, hNs, hNw, hNc, -, hfl, hBL, hB0, hA⟩ := hC
  obtain ⟨hP, hD, hS⟩ := hh
  obtain ⟨q0, hq0⟩ := rm_at (f := f) hbL
  have hq1 := hq0
  rw [hfb] at hq1
  refine va_iast hx hb hK hP hD hS q0 0 hq1 hcA (vp_in_iff.mpr ⟨h0, h1⟩) hdg (fun H1 locs1 hP1 hD1 hS1 => ?_)
  have e1 := va_pl_set (X := []) (e := .inl (cA, n, .inl (upd g i.toNatClampNeg x))) hD hbL hq0
  have e2 : (va_pl L f).set q0 (b, .inl (cA, n, .inl (upd g i.toNatClampNeg x))) = va_pl L (va_up f b (.inl (cA, n, .inl (upd g i.toNatClampNeg x)))) := e1
  rw [e2] at hP1 hD1
  exact kk H1 locs1 ⟨hP1, hD1, hS1⟩ ls hl
/-- the ends of a method -/
theorem rm_vret (hC : rm_Cx base tys D NU M mt ml fl p R s m args meth c A L) (hh : rm_h D A s L f H locs) {pc : Nat} (hdg : decode M.2.1 pc = .ok (.return_, 1)) (hM : M.2.2.2.1 = none) {Pq : Option Value → (Nat → va_E) → Prop} (hq : Pq none f) {lo : List (Nat × Value)} : rv_G p l e R s m args below meth c (MQ below (rk_Q Pq (rk_B D tys L A) A) args s cells slots A) M.2.2.1 cells slots H locs pc [] lo := by
  intro ls hl
  obtain ⟨hx, hb, hml9, hr, hlk, hown, hts, hK, hNs, hNw, hNc, -, hfl, hBL, hB0, hA⟩ := hC
  obtain ⟨hP, hD, hS⟩ := hh
  exact W.vret hx hb (by rw [hr, hM]) (fun t ht hW => ⟨⟨none, f, rfl, hq, ⟨by rw [ht]; exact hP, va_K.moved hW.alike hK, hD⟩⟩, hS.F ht⟩) hS.2.2 hdg hlk
theorem rm_iret (hC : rm_Cx base tys D NU M mt ml fl p R s m args meth c A L) (hh : rm_h D A s L f H locs) {pc : Nat} (hdg : decode M.2.1 pc = .ok (.ireturn, 1)) (hM : M.2.2.2.1 = some .int) {x : Int32} {Pq : Option Value → (Nat → va_E) → Prop} (hq : Pq (some (.int x)) f) {lo : List (Nat × Value)} : rv_G p l e R s m args below meth c (MQ below (rk_Q Pq (rk_B D tys L A) A) args s cells slots A) M.2.2.1 cells slots H locs pc [.int x] lo := by
  intro ls hl
  obtain ⟨hx, hb, hml9, hr, hlk, hown, hts, hK, hNs, hNw, hNc, -, hfl, hBL, hB0, hA⟩ := hC
  obtain ⟨hP, hD, hS⟩ := hh
  exact W.iret hx hb (by rw [hr, hM]) (fun t ht hW => ⟨⟨some (.int x), f, rfl, hq, ⟨by rw [ht]; exact hP, va_K.moved hW.alike hK, hD⟩⟩, hS.F ht⟩) hS.2.2 hdg hlk
theorem rm_zret (hC : rm_Cx base tys D NU M mt ml fl p R s m args meth c A L) (hh : rm_h D A s L f H locs) {pc : Nat} (hdg : decode M.2.1 pc = .ok (.ireturn, 1)) (hM : M.2.2.2.1 = some .boolean) {x : Int32} (hx01 : x = 0 ∨ x = 1) {Pq : Option Value → (Nat → va_E) → Prop} (hq : Pq (some (.int x)) f) {lo : List (Nat × Value)} : rv_G p l e R s m args below meth c (MQ below (rk_Q Pq (rk_B D tys L A) A) args s cells slots A) M.2.2.1 cells slots H locs pc [.int x] lo := by
  intro ls hl
  obtain ⟨hx, hb, hml9, hr, hlk, hown, hts, hK, hNs, hNw, hNc, -, hfl, hBL, hB0, hA⟩ := hC
  obtain ⟨hP, hD, hS⟩ := hh
  refine W.zret (ty := .boolean) hx hb (by rw [hr, hM]) ?_ (fun t ht hW => ⟨⟨some (.int x), f, rfl, hq, ⟨by rw [ht]; exact hP, va_K.moved hW.alike hK, hD⟩⟩, hS.F ht⟩) hS.2.2 hdg hlk
  rcases hx01 with rfl | rfl <;> rfl
end RM
/-- a contract out of a walk from its first place -/
theorem rm_start {base : Nat} {l : Launch} {K : Nat → rk_KD} {E : Nat → Nat → rk_AV} {tys : List (ClassId × FieldType)} {D : va_G} {NU : State → Prop} (hNw : ∀ (s U : State) (A : Nat → Prop) (locs : List Loc), (∀ q, A q → base ≤ q) → va_S A s.heap U.heap locs → s.WarmedH U.vm → NU s → NU U) (hNc : ∀ u U : State, u.vm = U.vm → u.heap = U.heap → NU u → NU U) {M : rk_Mt} (hplain : plainName M.1.cls = true) {mt : Nat → rk_Mt} {ml : rk_Ml} {fl : rk_Fl}
    (hml : ∀ (s : State) (args : Array Value), (∀ w ∈ rk_ws M, w.before args s = true) → NU s → rk_MlOk s args { frames := M.2.2.2.2.1, cells := 0, slots := 0, locals := M.2.2.2.2.2 } M.1.cls mt ml) (hfl : ∀ (s : State) (args : Array Value), (∀ w ∈ rk_ws M, w.before args s = true) → NU s → rk_FlOk s args (rk_ws M) M.1.cls fl)
    {av : List Value} (hcat : ∀ v ∈ av, v.category = 1) (hlen : av.length ≤ M.2.2.1) {Pre : rm_Pr} {Po : rm_Po} {C : Int}
    (h : ∀ (p : Program) (e : Env) (s : State) (m : MethodId) (below : List Frame) (meth : Method) (c : Code) (G : Nat → Option Nat) (X : Int) (L : List Nat) (f : Nat → va_E) (A : Nat → Prop), rm_Cx base tys D NU M mt ml fl p { frames := M.2.2.2.2.1, cells := 0, slots := 0, locals := M.2.2.2.2.2 } s m av.toArray meth c A L → rm_h D A s L f s.heap [] → 0 ≤ X → X + C ≤ rk_top → rk_TY K E tys G X L f → Pre G X L f → rv_G p l e { frames := M.2.2.2.2.1, cells := 0, slots := 0, locals := M.2.2.2.2.2 } s m av.toArray below meth c (MQ below (rk_Q (Po G X L f) (rk_B D tys L A) A) av.toArray s 0 0 A) M.2.2.1 0 0 s.heap [] 0 [] (lv_args 0 av)) : rm_Met base l K E tys D NU M av Pre Po C := by
  intro G X L f sz hX hXC hTY hpre hBL hBs
  refine Met.ofW (cc := M.2.1) (maxL := M.2.2.1) (ret := M.2.2.2.1) hplain rfl ?_
  intro p e s m args below meth c s₁ B hml0 hv
  obtain ⟨rfl, hsz, hP, hK, hD0, hN⟩ := hv
  have hx := B.exec
  have hb := B.bytes
  have hr := B.returns
  have hts := atoms_spec (ws := rk_ws M) B.pre
  have hown : s.vm.findClass M.1.cls = some m.cls := findClass_of_methodNamed B.named
  have hlocks := B.notSynchronized
  subst hsz
  have hD := hD0.self (sz := s.heap.size)
  generalize hAe : va_A (va_pl L f) s.heap.size = A at hD ⊢
  have hAb : ∀ q, A q → base ≤ q := fun q h => by
    rw [← hAe] at h
    rcases h with ⟨k, e9, hk9⟩ | h
    · obtain ⟨a, ha, ea⟩ := List.mem_map.mp (List.mem_of_getElem? hk9)
      cases ea
      exact hBL _ ha
    · exact Nat.le_trans hBs h
  have hA : ∀ q : Nat, s.heap.size ≤ q → A q := fun q h => by rw [← hAe]; exact Or.inr h
  have hS : va_S A s.heap s.heap [] := va_S.rf
  have hlen2 : (lg_sl av).length ≤ M.2.2.1 := by
    rw [rk_sl_len av hcat]
    exact hlen
  have hl := lv_entry av (n := M.2.2.1) hlen2
  rw [lg_entry_eq]
  exact h p e s m below meth c G X L f A ⟨hx, hb, hml0, hr, hlocks, hown, hts, hK, hN, fun U locs hS9 hW => hNw s U A locs hAb hS9 hW hN, hNc, hml s _ hts hN, hfl s _ hts hN, hBL, hBs, hA⟩ ⟨hP, hD, hS⟩ hX hXC hTY hpre _ hl
