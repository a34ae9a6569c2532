/-! contracts, calls, returns -/
abbrev rk_Alt : Type := rk_AV × List (Nat × rk_AV)
abbrev rk_Mt : Type := MethodName × ByteArray × Nat × Option FieldType × Nat × Nat
/-- the tables' words that stay -/
def rk_tbl : List Jvm.Cond := lw_tbl.filter goodWord
def rk_ws (M : rk_Mt) : List Jvm.Cond := Jvm.Cond.code M.1 M.2.1 M.2.2.1 M.2.2.2.1 :: rk_tbl
theorem rk_good {M : rk_Mt} {big : List Jvm.Cond} (hb : ∀ w ∈ rk_tbl, w ∈ big) (hc : Jvm.Cond.code M.1 M.2.1 M.2.2.1 M.2.2.2.1 ∈ rk_tbl) : GoodIn big (rk_ws M) := by
  have key : ∀ w ∈ rk_tbl, w ∈ big ∧ ((w.onTables && w.keeps) = true ∨ ∃ ty, w = .arrayClass ty) := fun w h => ⟨hb w h, good_of_word (List.mem_filter.mp h).2⟩
  intro w hw
  rcases List.mem_cons.mp hw with rfl | hw
  · exact key _ hc
  · exact key w hw
/-- the nest's words: they hold in every state that a walk comes to -/
def rk_N (nf : List (String × Nat × String × String × String × String)) (nm : List (String × Nat × MethodName × String)) (U : State) : Prop := (∀ q ∈ nf, va_Nw (.fieldLinkNest q.1 q.2.1 q.2.2.1 q.2.2.2.1 q.2.2.2.2.1 q.2.2.2.2.2) U) ∧ ∀ q ∈ nm, va_Nw (.methodLinkNest q.1 q.2.1 q.2.2.1 q.2.2.2) U
theorem rk_N_warm {nf : List (String × Nat × String × String × String × String)} {nm : List (String × Nat × MethodName × String)} {s U : State} (hW : s.WarmedH U.vm) (h : rk_N nf nm s) : rk_N nf nm U := ⟨fun q hq => va_Nw.warmF hW (h.1 q hq), fun q hq => va_Nw.warmM hW (h.2 q hq)⟩
theorem rk_N_same {nf : List (String × Nat × String × String × String × String)} {nm : List (String × Nat × MethodName × String)} {u U : State} (hv : u.vm = U.vm) (h : rk_N nf nm u) : rk_N nf nm U := ⟨fun q hq => va_Nw.same rfl hv (h.1 q hq), fun q hq => va_Nw.same rfl hv (h.2 q hq)⟩
def rk_Pre (D : va_G) (tys : List (ClassId × FieldType)) (NU : State → Prop) (L : List Nat) (f : Nat → va_E) (sz : Nat) : State → Prop := fun U => U.heap.size = sz ∧ va_P D vwCl (va_pl L f) U.heap ∧ va_K D vwCl tys U ∧ va_D (fun _ => True) (va_pl L f) ∧ NU U
def rk_Q (post : Option Value → (Nat → va_E) → Prop) (B : (Nat → va_E) → State → Prop) (A : Nat → Prop) : Array Value → State → Outcome → State → Prop := fun _ st oc t => (∃ (v : Option Value) (u : Nat → va_E), oc = .returned v ∧ post v u ∧ B u t) ∧ va_F A st t
/-- an answer is as one of the alternatives says -/
def rk_alt (G : Nat → Option Nat) (X : Int) (av : List Value) (alts : List rk_Alt) (v : Option Value) : Prop := ∃ a ∈ alts, (if a.1.1 = 9 then v = none else ∃ w, v = some w ∧ rk_has G X a.1 w) ∧ ∀ q ∈ a.2, ∃ w, av[q.1]? = some w ∧ rk_has G X q.2 w
def rk_all (G : Nat → Option Nat) (X : Int) (avs : List rk_AV) (av : List Value) : Prop := av.length = avs.length ∧ ∀ (i : Nat) (t : rk_AV) (v : Value), avs[i]? = some t → av[i]? = some v → rk_has G X t v
def rk_top : Int := 2000000000
/-- how two worlds stand to each other, by a level (a set of bits: what may have changed) -/
abbrev rk_Lvt : Type := (Nat → Option Nat) → Nat → (Nat → va_E) → (Nat → va_E) → Prop
/-- what a method wants of the world besides -/
abbrev rk_Pwt : Type := (Nat → Option Nat) → (Nat → va_E) → Prop
def rk_lle (n m : Nat) : Bool := Nat.beq (Nat.land n m) n
def rk_post (K : Nat → rk_KD) (E : Nat → Nat → rk_AV) (tys : List (ClassId × FieldType)) (G : Nat → Option Nat) (X : Int) (L : List Nat) (f : Nat → va_E) (av : List Value) (alts : List rk_Alt) (Lv : rk_Lvt) (lv : Nat) : Option Value → (Nat → va_E) → Prop := fun v u => rk_alt G X av alts v ∧ rk_TY K E tys G X L u ∧ Lv G lv f u
def rk_B (D : va_G) (tys : List (ClassId × FieldType)) (L : List Nat) (A : Nat → Prop) : (Nat → va_E) → State → Prop := fun u t => va_P D vwCl (va_pl L u) t.heap ∧ va_K D vwCl tys t ∧ va_D A (va_pl L u)
/-- THE CONTRACT of a method that makes nothing: from typed arguments and a typed world, an answer as the alternatives say, a typed world; the counters have grown by C at most -/
def rk_Met (base : Nat) (l : Launch) (K : Nat → rk_KD) (E : Nat → Nat → rk_AV) (tys : List (ClassId × FieldType)) (D : va_G) (NU : State → Prop) (Lv : rk_Lvt) (Pw : rk_Pwt) (M : rk_Mt) (avs : List rk_AV) (alts : List rk_Alt) (C : Int) (lv : Nat) : Prop :=
  ∀ (G : Nat → Option Nat) (X : Int) (L : List Nat) (f : Nat → va_E) (av : List Value) (sz : Nat), 0 ≤ X → X + C ≤ rk_top → rk_all G X avs av → rk_TY K E tys G X L f → Pw G f → (∀ a ∈ L, base ≤ a) → base ≤ sz →
    Met l M.1 (rk_ws M) { frames := M.2.2.2.2.1, cells := 0, slots := 0, locals := M.2.2.2.2.2 } (va_Pc av (rk_Pre D tys NU L f sz)) (rk_Q (rk_post K E tys G (X + C) L f av alts Lv lv) (rk_B D tys L (va_A (va_pl L f) sz)) (va_A (va_pl L f) sz)) 0 0 (va_A (va_pl L f) sz)
abbrev rk_Ctr : Type := Nat → List rk_AV → Option (List rk_Alt × Int × Nat)
abbrev rk_Ml : Type := Nat → Option (Nat × Nat × Nat)
def rk_avs (en : List rk_AV) : List Nat → Option (List rk_AV)
  | [] => some []
  | y :: l => match en[y]? with
    | none => none
    | some t => match rk_avs en l with
      | none => none
      | some ts => some (t :: ts)
theorem rk_avs_ok {en : List rk_AV} : ∀ (ys : List Nat) (ts : List rk_AV), rk_avs en ys = some ts → ts.length = ys.length ∧ ∀ (i y : Nat) (t : rk_AV), ys[i]? = some y → ts[i]? = some t → en[y]? = some t
  | [], ts, h => by
    cases h
    exact ⟨rfl, fun i y t h _ => by simp at h⟩
  | y :: l, ts, h => by
    unfold rk_avs at h
    split at h
    · cases h
    · rename_i t ht
      split at h
      · cases h
      · rename_i ts' hts
        cases h
        obtain ⟨h1, h2⟩ := rk_avs_ok l ts' hts
        refine ⟨by simp [h1], fun i z u hz hu => ?_⟩
        rcases i with _ | i
        · simp only [List.getElem?_cons_zero, Option.some.injEq] at hz hu
          subst hz hu
          exact ht
        · rw [List.getElem?_cons_succ] at hz hu
          exact h2 i z u hz hu
/-- both are known -/
def rk_meet (t u : rk_AV) : rk_AV := match t with
  | (0, a, b) => (match u with
    | (0, c, d) => (0, max a c, min b d)
    | (n + 1, w) => (n + 1, w))
  | (_ + 1, _) => u
theorem rk_meet_ok {G : Nat → Option Nat} {X : Int} {t u : rk_AV} {v : Value} (h1 : rk_has G X t v) (h2 : rk_has G X u v) : rk_has G X (rk_meet t u) v := by
  obtain ⟨n, a, b⟩ := t
  obtain ⟨m, c, d⟩ := u
  rcases n with _ | n
  · rcases m with _ | m
    · obtain ⟨x, rfl, p1, p2⟩ := h1
      obtain ⟨y, e, q1, q2⟩ := h2
      cases e
      exact ⟨x, rfl, by omega, by omega⟩
    · exact h2
  · exact h2
/-- the arguments' symbols as an alternative knows them -/
def rk_rfs (ys : List Nat) : List (Nat × rk_AV) → List rk_AV → List rk_AV
  | [], en => en
  | q :: l, en => match ys[q.1]? with
    | none => rk_rfs ys l en
    | some y => match en[y]? with
      | none => rk_rfs ys l en
      | some t => rk_rfs ys l (en.set y (rk_meet t q.2))
def rk_altS (pc : Nat) (lo : List (Nat × Nat)) (rest ys : List Nat) (en : List rk_AV) (kn : List (Nat × Nat × Nat)) (fc : List (Nat × Nat × Nat × Int)) (co : Int) (a : rk_Alt) : Nat × rk_St := if Nat.beq a.1.1 9 then (pc, (lo, rest, rk_rfs ys a.2 en, kn, fc, co)) else (pc, (lo, en.length :: rest, rk_rfs ys a.2 en ++ [a.1], kn, fc, co))
/-- a receiver of class cr - 1 (0: none is wanted) -/
def rk_rcv (K : Nat → rk_KD) (cr : Nat) (avs : List rk_AV) : Bool := match cr with
  | 0 => true
  | ci + 1 => match avs with
    | (2, k, _) :: _ => Nat.beq (K k.toNat).1 0 && Nat.beq (K k.toNat).2.1 ci
    | _ => false
def rk_inv (cap : List rk_AV → Int → Bool) (lv : Nat) (nE pc : Nat) (K : Nat → rk_KD) (ml : rk_Ml) (ctr : rk_Ctr) (idx : Nat) (virt : Bool) (S : rk_St) : rk_Sc := match S with
  | (lo, sk, en, kn, fc, co) => match ml idx with
    | none => none
    | some (z, n, cr) => match rk_avs en (sk.take n).reverse with
      | none => none
      | some avs => match ctr z avs with
        | none => none
        | some (alts, C, pu) => if Nat.ble n sk.length && (Nat.ble (sk.drop n).length 8 && ((virt != Nat.beq cr 0) && (rk_rcv K cr avs && (decide (0 ≤ C) && (decide (co + C ≤ 10000000) && (rk_wf nE S && (rk_lle pu lv && cap en (co + C)))))))) then
            some (alts.map (rk_altS (pc + 3) lo (sk.drop n) (sk.take n).reverse en (if Nat.beq pu 0 then kn else []) fc (co + C))) else none
section RKC
variable {p : Program} {l : Launch} {e : Env} {R : Room} {s : State} {m : MethodId} {args : Array Value} {below : List Frame} {meth : Method} {c : Code} {cm sm : Nat} {Q : State → Prop} {cc : ByteArray} {nE : Nat} {r0 : Nat → Value}
variable {Pf : (Nat → va_E) → Prop} {K : Nat → rk_KD} {E : Nat → Nat → rk_AV} {tys : List (ClassId × FieldType)} {D : va_G} {A : Nat → Prop} {H0 : Heap} {G : Nat → Option Nat} {L : List Nat} {nL : Nat} {X : Int}
theorem rk_callW {H : Heap} {locs : List Loc} {pc : Nat} {ls : Array Slot} {rest st0 : List Value} {a : Array Value} {A0 A1 : Nat → Prop} {free : Addr → Prop} {post : Option Value → (Nat → va_E) → Prop} {B : (Nat → va_E) → State → Prop} (hr : va_Run p l e R s m args below meth c H locs cm sm 0 0 (F0 m pc ls st0) rest (rk_Q post B A1 a) free) (hS : va_S A0 H0 H locs) (hA : ∀ q, q < H.size → A1 q → A0 q) (hf : ∀ q, free q → A0 q)
    (kk : ∀ (v : Option Value) (u : Nat → va_E) (t : State) (H1 : Heap) (locs1 : List Loc), t.heap = H1 → s.vm.Alike t.vm → post v u → B u t → va_S A0 H0 H1 locs1 → W p l e R s m args below meth c H1 locs1 cm sm Q (F0 m (pc + 3) ls (v.toList ++ rest))) : W p l e R s m args below meth c H locs cm sm Q (F0 m pc ls st0) := by
  intro T hT X
  obtain ⟨v, st₀, t, T', L, h0, X', hL, e1, e2, ⟨⟨v', u, hv, hp, hb⟩, hz, hk⟩, st⟩ := hr T hT X
  cases hv
  rw [h0] at hz hk
  obtain ⟨t2, a1, b1⟩ := kk v u t T'.heap (locs ++ L) e1.symm (by rw [← e2]; exact X'.warmed.alike) hp hb
    ⟨Nat.le_trans hS.1 (by rw [e1]; exact hz), fun q h1 h2 => by rw [e1, hk q (Nat.lt_of_lt_of_le h1 hS.1) (fun z => h2 (hA q (Nat.lt_of_lt_of_le h1 hS.1) z))]; exact hS.2.1 q h1 h2, fun q hq => by
      rcases List.mem_append.mp hq with h | h
      · exact hS.2.2 q h
      · exact hf _ (hL q h)⟩ T' rfl X'
  exact ⟨t2, st t2 a1, b1⟩
/-- what the tables say of a call -/
def rk_MlOk (s : State) (args : Array Value) (R : Room) (own : String) (mt : Nat → rk_Mt) (ml : rk_Ml) : Prop := ∀ (idx z n cr : Nat), ml idx = some (z, n, cr) → Jvm.Cond.code (mt z).1 (mt z).2.1 (mt z).2.2.1 (mt z).2.2.2.1 ∈ rk_tbl ∧ (Jvm.Cond.initialized (mt z).1.cls).before args s = true ∧ ((mt z).1.cls ≠ "java/lang/invoke/MethodHandle" ∧ (mt z).1.cls ≠ "java/lang/invoke/VarHandle") ∧
  ((Jvm.Cond.methodLink own idx (mt z).1).before args s = true ∨ ∃ host : String, va_Nw (.methodLinkNest own idx (mt z).1 host) s) ∧ ((mt z).2.2.2.2.1 + 1 ≤ R.frames ∧ 8 + ((mt z).2.2.1 + 11) + (mt z).2.2.2.2.2 ≤ R.locals) ∧
  (cr = 0 → (Jvm.Cond.static (mt z).1).before args s = true ∧ (parseMethodDescriptor (mt z).1.desc).map (fun d => d.parameters.length) = some n) ∧
  (∀ ci, cr = ci + 1 → (Jvm.Cond.instanceMethod (mt z).1).before args s = true ∧ (Jvm.Cond.selects (mt z).1.cls (mt z).1 (mt z).1).before args s = true ∧ (∃ q, vwCl[ci]? = some q ∧ q.1 = (mt z).1.cls) ∧ ∃ k, n = k + 1 ∧ (parseMethodDescriptor (mt z).1.desc).map (fun d => d.parameters.length) = some k)
theorem rk_rfs_len (ys : List Nat) : ∀ (l : List (Nat × rk_AV)) (en : List rk_AV), (rk_rfs ys l en).length = en.length
  | [], en => rfl
  | q :: l, en => by
    unfold rk_rfs
    split
    · exact rk_rfs_len ys l en
    · split
      · exact rk_rfs_len ys l en
      · rw [rk_rfs_len ys l, List.length_set]
theorem rk_rfs_ok {F : rk_Fx} {r : Nat → Value} {lo : List (Nat × Nat)} {sk : List Nat} {kn : List (Nat × Nat × Nat)} {fc : List (Nat × Nat × Nat × Int)} {co : Int} {f : Nat → va_E} {H : Heap} {locs : List Loc} {ls : Array Slot} {st : List Value} {ys : List Nat} : ∀ (q : List (Nat × rk_AV)) (en : List rk_AV), rk_on F nE r0 r (lo, sk, en, kn, fc, co) f H locs ls st → (∀ z ∈ q, ∀ y, ys[z.1]? = some y → rk_has (rk_fG F) (rk_fX F + co) z.2 (r y)) → rk_on F nE r0 r (lo, sk, rk_rfs ys q en, kn, fc, co) f H locs ls st
  | [], en, h, _ => h
  | z :: l, en, h, hz => by
    unfold rk_rfs
    split
    · exact rk_rfs_ok l en h (fun w hw => hz w (List.mem_cons_of_mem _ hw))
    · rename_i y hy
      split
      · exact rk_rfs_ok l en h (fun w hw => hz w (List.mem_cons_of_mem _ hw))
      · rename_i t ht
        exact rk_rfs_ok l _ (rk_ref h (rk_meet_ok (rk_val h ht) (hz z List.mem_cons_self y hy))) (fun w hw => hz w (List.mem_cons_of_mem _ hw))
set_option maxHeartbeats 1000000 in
theorem rk_inv_ok {cap : List rk_AV → Int → Bool} (hcap : ∀ (en : List rk_AV) (co X' : Int) (r : Nat → Value), (∀ y, y < nE → r y = r0 y) → (∀ y t, en[y]? = some t → rk_has G X' t (r y)) → cap en co = true → X + co ≤ rk_top) {Lv : rk_Lvt} {Pw : rk_Pwt} (hPw : ∀ u, Pf u → Pw G u) {lv : Nat} (hL0 : ∀ f u, Lv G 0 f u → u = f) (hPc : ∀ (n : Nat) (f u : Nat → va_E), rk_lle n lv = true → Lv G n f u → Pf f → Pf u) (hx : p.tables.exec = Jvm.exec) (hb : c.code = cc) (hml9 : c.maxLocals = nL) {own : String} (hown : s.vm.findClass own = some m.cls) {Ts : List Jvm.Cond} (hts : ∀ w ∈ Ts, w.before args s = true) (htb : ∀ w ∈ rk_tbl, w ∈ Ts) (hK : va_K D vwCl tys s) {NU : State → Prop} (hNs : NU s) (hNw : ∀ (U : State) (locs : List Loc), va_S A H0 U.heap locs → s.WarmedH U.vm → NU U) (hNc : ∀ u U : State, u.vm = U.vm → u.heap = U.heap → NU u → NU U) {base : Nat} {mt : Nat → rk_Mt} {ml : rk_Ml} (hml : rk_MlOk s args R own mt ml) {ctr : rk_Ctr} (hct : ∀ z avs alts C pu, ctr z avs = some (alts, C, pu) → rk_Met base l K E tys D NU Lv Pw (mt z) avs alts C pu) (hBL : ∀ a ∈ L, base ≤ a) (hB0 : base ≤ H0.size) (hA : ∀ q, H0.size ≤ q → A q) (hcm : cm ≤ R.cells ∧ sm ≤ R.slots) (hX : 0 ≤ X)
    {pc idx : Nat} {virt : Bool} {S : rk_St} {out : List (Nat × rk_St)} (hdg : decode cc pc = .ok (if virt then .invokevirtual idx else .invokestatic idx, 3)) (h : rk_inv cap lv nE pc K ml ctr idx virt S = some out) (hk : ∀ q ∈ out, rk_G p l e R s m args below meth c cm sm Q (Pf, K, E, tys, D, A, H0, G, L, nL, X) nE r0 q.1 q.2) : rk_G p l e R s m args below meth c cm sm Q (Pf, K, E, tys, D, A, H0, G, L, nL, X) nE r0 pc S := by
  intro r f H locs ls st hS
  obtain ⟨lo, sk, en, kn, fc, co⟩ := S
  have hco := hS.2.2.2.2.2.2.1
  have hw := hS.2.2.2.2.2.2.2
  simp only [rk_inv] at h
  split at h
  · cases h
  · rename_i z n cr hidx
    split at h
    · cases h
    · rename_i avs havs
      split at h
      · cases h
      · rename_i alts C pu hctr
        split at h
        · rename_i hok
          simp only [Bool.and_eq_true, Nat.ble_eq, decide_eq_true_eq] at hok
          obtain ⟨g1, g2, g3, g4, g5, g6, g7, g8, g9⟩ := hok
          have hcp := hcap en (co + C) _ r hS.2.2.2.2.2.1 hS.1 g9
          cases h
          obtain ⟨al, ao⟩ := rk_avs_ok _ _ havs
          have hst : st = sk.map r := hS.2.2.2.2.1
          have ets : st = ((sk.take n).reverse.map r).reverse ++ (sk.drop n).map r := by
            rw [hst, ← List.map_reverse, List.reverse_reverse, ← List.map_append, List.take_append_drop]
          have hlen : (sk.take n).length = n := by rw [List.length_take]; omega
          have hall : rk_all G (X + co) avs ((sk.take n).reverse.map r) := by
            refine ⟨by rw [List.length_map, al], fun i t v ht hv => ?_⟩
            rw [List.getElem?_map] at hv
            cases hy : (sk.take n).reverse[i]? with
            | none => rw [hy] at hv; cases hv
            | some y =>
              rw [hy] at hv
              cases hv
              exact rk_val hS (ao i y t hy ht)
          have hcat : (((sk.drop n).map r).map fun v => v.category).sum ≤ 8 := by
            have hc1 : ∀ y ∈ sk.drop n, (r y).category = 1 := by
              intro y hy
              have hmem : y ∈ sk := List.mem_of_mem_drop hy
              simp only [rk_wf, Bool.and_eq_true, List.all_eq_true, Nat.blt_eq, Nat.ble_eq] at g7
              exact rk_has_cat (rk_val hS (List.getElem?_eq_getElem (g7.2.2.1 y hmem)))
            have : ∀ ys : List Nat, (∀ y ∈ ys, (r y).category = 1) → ((ys.map r).map fun v => v.category).sum = ys.length := by
              intro ys
              induction ys with
              | nil => intro _; rfl
              | cons y ys ih =>
                intro hy
                simp only [List.map_cons, List.sum_cons, List.length_cons]
                rw [ih (fun w hw => hy w (List.mem_cons_of_mem _ hw)), hy y List.mem_cons_self]
                omega
            rw [this _ hc1]
            exact g2
          have hM := hct z avs alts C pu hctr G (X + co) L f ((sk.take n).reverse.map r) H.size (by omega) (by omega) hall hw.2.2.2.1 (hPw f hw.2.2.2.2) hBL (Nat.le_trans hB0 hw.2.2.1.1)
          obtain ⟨k1, k2, k3, k4, k5, k6, k7⟩ := hml idx z n cr hidx
          have hF : ∀ q, va_A (va_pl L f) H.size q → A q := by
            intro q hq
            rcases hq with ⟨k, e9, hke⟩ | hq
            · exact hw.2.1.2 k (q, e9) hke
            · exact hA q (Nat.le_trans hw.2.2.1.1 hq)
          have hG := rk_good (M := mt z) htb k1
          have hbl : FrameBlind (va_Pc ((sk.take n).reverse.map r) (rk_Pre D tys NU L f H.size)) := fun a U g mk q => by
            obtain ⟨q0, q1, q2, q3, q4, q5⟩ := q
            exact ⟨q0, q1, q2, va_K.moved (u := U) (U := U.calling g mk a) (Vm.Alike.refl U.vm) q3, q4, hNc U _ rfl rfl q5⟩
          have hpre : ∀ U : State, U.heap = H → s.WarmedH U.vm → rk_Pre D tys NU L f H.size U := fun U hU hW => ⟨by rw [hU], by rw [hU]; exact hw.1, va_K.moved hW.alike hK, hw.2.1.weaken (fun _ _ _ _ => trivial), hNw U locs (by rw [hU]; exact hw.2.2.1) hW⟩
          have fin : ∀ (v : Option Value) (u : Nat → va_E) (t : State) (H1 : Heap) (locs1 : List Loc), t.heap = H1 → s.vm.Alike t.vm → rk_post K E tys G (X + co + C) L f ((sk.take n).reverse.map r) alts Lv pu v u → rk_B D tys L (va_A (va_pl L f) H.size) u t → va_S A H0 H1 locs1 → W p l e R s m args below meth c H1 locs1 cm sm Q (F0 m (pc + 3) ls (v.toList ++ (sk.drop n).map r)) := by
            intro v u t H1 locs1 ht hvm hp hB hS1
            obtain ⟨⟨a, ha, hres, href⟩, hTY, hpu⟩ := hp
            obtain ⟨hP1, hK1, hD1⟩ := hB
            rw [ht] at hP1
            have eX : X + co + C = X + (co + C) := by omega
            rw [eX] at hTY hres href
            have hw1 : rk_w (Pf, K, E, tys, D, A, H0, G, L, nL, X) (co + C) u H1 locs1 := ⟨hP1, hD1.weaken (fun k q _ h9 => hF q.1 h9), hS1, hTY, hPc _ _ _ g8 hpu hw.2.2.2.2⟩
            have hon : rk_on (Pf, K, E, tys, D, A, H0, G, L, nL, X) nE r0 r (lo, sk.drop n, en, if Nat.beq pu 0 then kn else [], fc, co + C) u H1 locs1 ls ((sk.drop n).map r) := by
              obtain ⟨h1, h2, h3, h4, h5, h6, h7, h8⟩ := hS
              refine ⟨fun y' t' ht' => rk_has_X (by
                show X + co ≤ X + (co + C)
                omega) (h1 y' t' ht'), ?_, h3, h4, rfl, h6, ⟨by omega, by omega⟩, hw1⟩
              split
              · rename_i hpt
                rw [Nat.beq_eq] at hpt
                rw [hpt] at hpu
                rw [hL0 _ _ hpu]
                exact h2
              · intro q hq; cases hq
            have hwf1 : rk_wf nE (lo, sk.drop n, en, if Nat.beq pu 0 then kn else [], fc, co + C) = true := by
              simp only [rk_wf, Bool.and_eq_true, List.all_eq_true, Nat.blt_eq, Nat.ble_eq] at g7 ⊢
              refine ⟨g7.1, g7.2.1, fun y hy => g7.2.2.1 y (List.mem_of_mem_drop hy), ?_, g7.2.2.2.2⟩
              split
              · exact g7.2.2.2.1
              · intro q hq; cases hq
            have hmem : rk_altS (pc + 3) lo (sk.drop n) (sk.take n).reverse en (if Nat.beq pu 0 then kn else []) fc (co + C) a ∈ alts.map (rk_altS (pc + 3) lo (sk.drop n) (sk.take n).reverse en (if Nat.beq pu 0 then kn else []) fc (co + C)) := List.mem_map.mpr ⟨a, ha, rfl⟩
            have hgo := hk _ hmem
            have hrf : ∀ r' : Nat → Value, (∀ y, y < en.length → r' y = r y) → ∀ q ∈ a.2, ∀ y, (sk.take n).reverse[q.1]? = some y → rk_has G (X + (co + C)) q.2 (r' y) := by
              intro r' hr' q hq y hy
              obtain ⟨w, hw9, hh⟩ := href q hq
              rw [List.getElem?_map, hy] at hw9
              cases hw9
              have hyl : y < en.length := by
                simp only [rk_wf, Bool.and_eq_true, List.all_eq_true, Nat.blt_eq, Nat.ble_eq] at g7
                refine g7.2.2.1 y ?_
                have := List.mem_of_getElem? hy
                rw [List.mem_reverse] at this
                exact List.mem_of_mem_take this
              rw [hr' y hyl]
              exact hh
            unfold rk_altS at hgo
            by_cases h9 : a.1.1 = 9
            · rw [if_pos h9] at hres
              subst hres
              rw [if_pos (by rw [h9]; rfl)] at hgo
              exact hgo r u H1 locs1 ls _ (rk_rfs_ok a.2 en hon (hrf r (fun _ _ => rfl)))
            · rw [if_neg h9] at hres
              obtain ⟨w, rfl, hh⟩ := hres
              rw [if_neg (by
                intro h0
                rw [Nat.beq_eq] at h0
                exact h9 h0)] at hgo
              obtain ⟨r', e0, e1, hS'⟩ := rk_fresh hon hwf1 w
              have h5 := rk_push en.length (rk_enter (t := a.1) (rk_rfs_ok a.2 en hS' (hrf r' e1)) (by
                rw [rk_rfs_len, e0]
                exact hh))
              rw [e0] at h5
              exact hgo r' u H1 locs1 ls _ h5
          have hsz : ls.size = nL := hS.2.2.2.1.1
          cases virt with
          | true =>
            rcases cr with _ | ci
            · simp at g3
            · obtain ⟨i1, i2, ⟨q, hq, hqc⟩, k, hnk, hpar⟩ := k7 ci rfl
              -- the receiver
              obtain ⟨y0, ysr, hys⟩ : ∃ y0 ysr, (sk.take n).reverse = y0 :: ysr := by
                cases hr9 : (sk.take n).reverse with
                | nil =>
                  have : (sk.take n).reverse.length = n := by rw [List.length_reverse, hlen]
                  rw [hr9] at this
                  simp at this
                  omega
                | cons a b => exact ⟨a, b, rfl⟩
              have hlr : (y0 :: ysr).length = n := by rw [← hys, List.length_reverse, hlen]
              rw [hys] at al ao hall hM hbl ets fin
              have hrc : ∃ (k9 : Int) (z9 : Int) (tl : List rk_AV), avs = (2, k9, z9) :: tl ∧ (K k9.toNat).1 = 0 ∧ (K k9.toNat).2.1 = ci := by
                unfold rk_rcv at g4
                split at g4
                · rename_i h0; cases h0
                · rename_i ci' hci
                  cases hci
                  split at g4
                  · rename_i k9 z9 tl
                    simp only [Bool.and_eq_true, Nat.beq_eq] at g4
                    exact ⟨k9, z9, tl, rfl, g4.1, g4.2⟩
                  · cases g4
              obtain ⟨k9, z9, tl, hav, hK0, hK1⟩ := hrc
              have hy0 : en[y0]? = some (2, k9, z9) := ao 0 y0 _ rfl (by rw [hav]; rfl)
              obtain ⟨b, eb, hgb⟩ := rk_val hS hy0
              obtain ⟨q0, hq0, hcell⟩ := rk_typed hw hgb (by rw [hK0]; decide)
              unfold rk_cell at hcell
              generalize hKk : K k9.toNat = kd at hcell hK0 hK1
              obtain ⟨tg, cj, t0, ts⟩ := kd
              dsimp only at hK0 hK1
              subst hK0
              subst hK1
              obtain ⟨fs, hfs, -⟩ := hcell
              rw [hfs] at hq0
              have hrv := va_recv hK hw.1 hq hq0
              rw [hqc] at hrv
              have hPv : PreV s H (mt z).1.cls b (va_Pc (List.map r (y0 :: ysr)) (rk_Pre D tys NU L f H.size)) (ysr.map r) := ⟨hbl, hrv, fun U hU hW => ⟨by simp only [List.map_cons]; rw [eb], hpre U hU hW⟩⟩
              have hstk : st = (ysr.map r).reverse ++ .ref b :: (sk.drop n).map r := by
                rw [ets, List.map_cons, List.reverse_cons, eb, List.append_assoc]
                rfl
              have hk9 : (ysr.map r).length = k := by
                rw [List.length_map]
                simp only [List.length_cons] at hlr
                omega
              rcases k4 with hl | ⟨host, hl⟩
              · refine rk_callW (va_runV (As := ysr.map r) (rest := (sk.drop n).map r) (b := b) (C := (mt z).1.cls) ⟨hx, hb, hml9, hown, hts⟩ hM ⟨callB_of k hts hG rfl rfl rfl k2 hl ⟨k3.1, k3.2, hpar⟩ k5, i1, i2⟩ hPv rfl hk9 hsz hstk (lv_room hcat) hdg hcm) hw.2.2.1 (fun q _ h9 => hF q h9) hF fin
              · refine rk_callW (va_runVN (As := ysr.map r) (rest := (sk.drop n).map r) (b := b) (C := (mt z).1.cls) ⟨hx, hb, hml9, hown, hts⟩ hM ⟨va_cnB k hts hG rfl rfl rfl hl k2 ⟨k3.1, k3.2, hpar⟩ k5, i1, i2⟩ hPv rfl hk9 hsz hstk (lv_room hcat) hdg hcm) hw.2.2.1 (fun q _ h9 => hF q h9) hF fin
          | false =>
            rcases cr with _ | ci
            · obtain ⟨i1, hpar⟩ := k6 rfl
              have hPs : PreS s H (va_Pc ((sk.take n).reverse.map r) (rk_Pre D tys NU L f H.size)) ((sk.take n).reverse.map r) := ⟨hbl, fun U hU hW => ⟨rfl, hpre U hU hW⟩⟩
              have hk9 : ((sk.take n).reverse.map r).length = n := by rw [List.length_map, List.length_reverse, hlen]
              rcases k4 with hl | ⟨host, hl⟩
              · refine rk_callW (va_runS (As := (sk.take n).reverse.map r) (rest := (sk.drop n).map r) ⟨hx, hb, hml9, hown, hts⟩ hM ⟨callB_of n hts hG rfl rfl rfl k2 hl ⟨k3.1, k3.2, hpar⟩ k5, i1⟩ hPs rfl hk9 hsz ets (lv_room hcat) hdg hcm) hw.2.2.1 (fun q _ h9 => hF q h9) hF fin
              · refine rk_callW (va_runSN (As := (sk.take n).reverse.map r) (rest := (sk.drop n).map r) ⟨hx, hb, hml9, hown, hts⟩ hM ⟨va_cnB n hts hG rfl rfl rfl hl k2 ⟨k3.1, k3.2, hpar⟩ k5, i1, trivial⟩ hPs rfl hk9 hsz ets (lv_room hcat) hdg hcm) hw.2.2.1 (fun q _ h9 => hF q h9) hF fin
            · simp at g3
        · cases h
end RKC
