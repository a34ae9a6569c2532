/-! one instruction holds -/
/-- what the tables say for a constructor's code -/
def rc_TOk (s : State) (args : Array Value) (R : Room) (own : String) (tys : List (ClassId × FieldType)) (C : rc_C) (dv : Nat → Option (List rc_V)) (aa : Nat → Option Nat) : Prop :=
  (∀ idx ci k, C.2.1 idx = some (ci, k) → ∃ (Cn : String) (T : u_T) (N : Nat), vwCl[ci]? = some (Cn, T, N) ∧ k < N ∧ (Jvm.Cond.fieldLink own idx (T k).1 (T k).2.1 (T k).2.2.1).before args s = true ∧ (T k).1 = own) ∧
  (∀ idx ci, C.2.2.1 idx = some ci → ∃ (Cn : String) (T : u_T) (N : Nat), vwCl[ci]? = some (Cn, T, N) ∧ (Jvm.Cond.classLink own idx Cn).before args s = true ∧ (Jvm.Cond.instantiable Cn N).before args s = true ∧ (Jvm.Cond.initialized Cn).before args s = true) ∧
  (∀ ci fs, dv ci = some fs → ∀ (Cn : String) (T : u_T) (N : Nat), vwCl[ci]? = some (Cn, T, N) → fs.length = N ∧ (∀ (ad : Nat → Nat) (j : Nat), j < N → defaultValue (rk_ty ci j) = vp_V (fs.map (rc_val ad)) j) ∧ ∀ v ∈ fs, v.1 ≠ 1) ∧
  (∀ idx t0, C.2.2.2.1 idx = some t0 → ∃ (cA : ClassId) (Cn : String), tys[t0]? = some (cA, .object Cn) ∧ (Jvm.Cond.classLink own idx Cn).before args s = true ∧ va_AO Cn s) ∧
  (∀ t0 ci, aa t0 = some ci → ∃ (q : vw_C) (cA : ClassId), vwCl[ci]? = some q ∧ tys[t0]? = some (cA, .object q.1)) ∧
  ((∃ cI : ClassId, tys[0]? = some (cI, .int)) ∧ (Jvm.Cond.arrayClass .int).before args s = true) ∧
  (∀ idx, C.2.2.2.2.1 idx = some 0 → (Jvm.Cond.methodLink own idx Lib.objectInit).before args s = true ∧ (Jvm.Cond.instanceMethod Lib.objectInit).before args s = true ∧ (Jvm.Cond.code Lib.objectInit ⟨#[0xb1]⟩ 1 none).before args s = true ∧ 1 ≤ R.frames ∧ 20 ≤ R.locals) ∧
  (∀ idx, C.2.2.2.2.2 idx = true → (Jvm.Cond.methodLink own idx Lib.Math.max.name).before args s = true ∧ (Jvm.Cond.static Lib.Math.max.name).before args s = true ∧ (Jvm.Cond.initialized "java/lang/Math").before args s = true ∧ (Jvm.Cond.code Lib.Math.max.name Lib.Math.max.code 2 (some .int)).before args s = true ∧ 1 ≤ R.frames ∧ 21 ≤ R.locals)
theorem rc_ofI (x : Int32) : Int32.ofInt x.toInt = x := Int32.ofInt_toInt x
theorem rc_stored {ad : Nat → Nat} {ls : Array Slot} {nL i : Nat} {v : rc_V} {lo : List (Nat × rc_V)} (h : lv_has ls nL ((i, rc_val ad v) :: (lo.map fun q => (q.1, rc_val ad q.2)).filter (fun q => !(q.1 == i) && !(q.1 + 1 == i && q.2.category == 2)))) : lv_has ls nL (((i, v) :: lo.filter (fun q => !(Nat.beq q.1 i))).map fun q => (q.1, rc_val ad q.2)) := by
  refine ⟨h.1, h.2.1, fun q hq => ?_⟩
  obtain ⟨z, hz, rfl⟩ := List.mem_map.mp hq
  rcases List.mem_cons.mp hz with rfl | hz
  · exact h.2.2 _ List.mem_cons_self
  · obtain ⟨z1, z2⟩ := List.mem_filter.mp hz
    refine h.2.2 _ (List.mem_cons_of_mem _ (List.mem_filter.mpr ⟨List.mem_map.mpr ⟨z, z1, rfl⟩, ?_⟩))
    have hne : ¬ z.1 = i := by
      intro h0
      rw [h0] at z2
      simp at z2
    simp [rc_val_cat, hne]
theorem rc_get {ad : Nat → Nat} {ls : Array Slot} {nL i : Nat} {v : rc_V} {lo : List (Nat × rc_V)} (h : lv_has ls nL (lo.map fun q => (q.1, rc_val ad q.2))) (hi : rc_lk lo i = some v) : ls[i]? = some (.val (rc_val ad v)) := h.2.2 (i, rc_val ad v) (List.mem_map.mpr ⟨(i, v), rc_lk_ok lo hi, rfl⟩)
section RC
variable {p : Program} {l : Launch} {e : Env} {R : Room} {s : State} {m : MethodId} {args : Array Value} {below : List Frame} {meth : Method} {c : Code} {Q : State → Prop}
variable {tys : List (ClassId × FieldType)} {D : va_G} {A : Nat → Prop} {H0 : Heap} {n0 z0 nL : Nat} {ad0 : Nat → Nat} {L0 : List Nat} {f0 : Nat → va_E}
def rc_G (p : Program) (l : Launch) (e : Env) (R : Room) (s : State) (m : MethodId) (args : Array Value) (below : List Frame) (meth : Method) (c : Code) (Q : State → Prop) (tys : List (ClassId × FieldType)) (D : va_G) (A : Nat → Prop) (H0 : Heap) (n0 z0 nL : Nat) (ad0 : Nat → Nat) (L0 : List Nat) (f0 : Nat → va_E) (pc : Nat) (lo : List (Nat × rc_V)) (sk : List rc_V) (os : List rc_O) : Prop :=
  ∀ (ad : Nat → Nat) (L : List Nat) (f : Nat → va_E) (H : Heap) (locs : List Loc) (ls : Array Slot), rc_w tys D A H0 os ad L f H locs → rc_fr n0 ad0 L0 f0 os.length ad L f → lv_has ls nL (lo.map fun q => (q.1, rc_val ad q.2)) → (∀ q ∈ lo, rc_vok os.length q.2) → (∀ v ∈ sk, rc_vok os.length v) →
    W p l e R s m args below meth c H locs (os.length - n0) (rc_szs os - z0) Q (F0 m pc ls (sk.map (rc_val ad)))
theorem rc_lo_set {n i : Nat} {v : rc_V} {lo : List (Nat × rc_V)} (hv : rc_vok n v) (h : ∀ q ∈ lo, rc_vok n q.2) : ∀ q ∈ (i, v) :: lo.filter (fun q => !(Nat.beq q.1 i)), rc_vok n q.2 := by
  intro q hq
  rcases List.mem_cons.mp hq with rfl | hq
  · exact hv
  · exact h q (List.mem_filter.mp hq).1
theorem rc_cat8 (ad : Nat → Nat) (sk : List rc_V) : ((sk.map (rc_val ad)).map fun v => v.category).sum = sk.length := by
  induction sk with
  | nil => rfl
  | cons v sk ih =>
    simp only [List.map_cons, List.sum_cons, List.length_cons]
    rw [ih, rc_val_cat]
    omega
theorem rc_szs_set {os : List rc_O} {i : Nat} {o o' : rc_O} (h : os[i]? = some o) (hs : rc_sz o' = rc_sz o) : rc_szs (os.set i o') = rc_szs os := by
  unfold rc_szs
  rw [List.map_set]
  congr 1
  apply List.ext_getElem?
  intro j
  by_cases hj : j = i
  · subst hj
    rw [List.getElem?_set_self (by rw [List.length_map]; exact (List.getElem?_eq_some_iff.mp h).1), List.getElem?_map, h, Option.map_some, hs]
  · rw [List.getElem?_set_ne (Ne.symm hj)]
theorem rc_szs_app (os : List rc_O) (o : rc_O) : rc_szs (os ++ [o]) = rc_szs os + rc_sz o := by
  unfold rc_szs
  rw [List.map_append, List.sum_append]
  simp
set_option maxHeartbeats 1000000 in
theorem rc_s1_ok {C : rc_C} {own : String} {Ts : List Jvm.Cond} (hx : p.tables.exec = Jvm.exec) (hb : c.code = C.1.2.1) (hml : c.maxLocals = nL) (hnL : C.1.2.2.1 = nL) (hown : s.vm.findClass own = some m.cls) (hin2 : meth.name = "<init>") (hts : ∀ w ∈ Ts, w.before args s = true) (htb : ∀ w ∈ rk_tbl, w ∈ Ts) (hK : va_K D vwCl tys s) (hA : ∀ q, H0.size ≤ q → A q) {dv : Nat → Option (List rc_V)} {aa : Nat → Option Nat} (hT : rc_TOk s args R own tys C dv aa)
    {pc len : Nat} {ins : Instr} {lo lo' : List (Nat × rc_V)} {sk sk' : List rc_V} {os os' : List rc_O} {pc' : Nat} (hdg : decode C.1.2.1 pc = .ok (ins, len)) (hlen : rk_lenOk ins len = true) (h : rc_s1 C dv aa pc ins lo sk os = some (pc', lo', sk', os')) (hn0 : n0 ≤ os.length) (hz0 : z0 ≤ rc_szs os) (hc1 : os'.length - n0 ≤ R.cells) (hc2 : rc_szs os' - z0 ≤ R.slots)
    (hk : rc_G p l e R s m args below meth c Q tys D A H0 n0 z0 nL ad0 L0 f0 pc' lo' sk' os') : rc_G p l e R s m args below meth c Q tys D A H0 n0 z0 nL ad0 L0 f0 pc lo sk os := by
  intro ad L f H locs ls hw hfr hl hlo hsk
  obtain ⟨t1, t2, t3, t4, t5, ⟨⟨cI, t6⟩, t6a⟩, t7, t8⟩ := hT
  have kone : ∀ n, Nat.beq len n = true → len = n := fun n h => Nat.beq_eq ▸ h
  have hint : ∀ (n : Int), rc_val ad (0, n) = .int (Int32.ofInt n) := fun n => rfl
  have h0v : ∀ n : Int, rc_vok os.length (0, n) := fun n h => absurd (show (0 : Nat) = 1 from h) (by decide)
  unfold rc_s1 at h
  split at h
  · -- iconst
    have := kone _ hlen; subst this
    cases h
    refine lv_iconst hx hb hdg rfl ?_
    have := hk ad L f H locs ls hw hfr hl hlo (List.forall_mem_cons.mpr ⟨h0v _, hsk⟩)
    rw [List.map_cons, hint, rc_ofI] at this
    exact this
  · have := kone _ hlen; subst this
    cases h
    refine lv_bipush hx hb hdg rfl ?_
    have := hk ad L f H locs ls hw hfr hl hlo (List.forall_mem_cons.mpr ⟨h0v _, hsk⟩)
    rw [List.map_cons, hint, rc_ofI] at this
    exact this
  · have := kone _ hlen; subst this
    cases h
    refine lv_sipush hx hb hdg rfl ?_
    have := hk ad L f H locs ls hw hfr hl hlo (List.forall_mem_cons.mpr ⟨h0v _, hsk⟩)
    rw [List.map_cons, hint, rc_ofI] at this
    exact this
  · have := kone _ hlen; subst this
    split at h
    · rename_i j hj
      cases h
      exact lv_aload_n hx hb hdg rfl (rc_get hl hj) (hk ad L f H locs ls hw hfr hl hlo (List.forall_mem_cons.mpr ⟨hlo _ (rc_lk_ok lo hj), hsk⟩))
    · cases h
  · have := kone _ hlen; subst this
    split at h
    · rename_i j hj
      cases h
      exact lv_iload_n hx hb hdg rfl (rc_get hl hj) (hk ad L f H locs ls hw hfr hl hlo (List.forall_mem_cons.mpr ⟨h0v _, hsk⟩))
    · cases h
  · have := kone _ hlen; subst this
    split at h
    · rename_i j sk9
      split at h
      · rename_i hi
        rw [Nat.blt_eq, hnL] at hi
        cases h
        refine lv_istore_n hx hb hdg rfl hl hi rfl (fun ls' hl' => ?_)
        exact hk ad L f H locs ls' hw hfr (rc_stored (v := (0, j)) hl') (rc_lo_set (h0v _) hlo) (fun v hv => hsk v (List.mem_cons_of_mem _ hv))
      · cases h
    · cases h
  · have := kone _ hlen; subst this
    split at h
    · rename_i j hj
      split at h
      · rename_i hi
        rw [Nat.blt_eq, hnL] at hi
        cases h
        obtain ⟨k, hkk⟩ := List.getElem?_of_mem (List.mem_map.mpr ⟨_, rc_lk_ok lo hj, rfl⟩ : _ ∈ lo.map fun q => (q.1, rc_val ad q.2))
        refine lv_iinc hx hb hdg hl hkk rfl hi rfl (fun ls' hl' => ?_)
        refine hk ad L f H locs ls' hw hfr (rc_stored (v := (0, (Int32.ofInt j + Int32.ofInt _).toInt)) ?_) (rc_lo_set (h0v _) hlo) hsk
        rw [hint, rc_ofI]
        exact hl'
      · cases h
    · cases h
  · have := kone _ hlen; subst this
    split at h
    · rename_i v sk9
      cases h
      exact lv_dup hx hb hdg (rc_val_cat ad v) (hk ad L f H locs ls hw hfr hl hlo (List.forall_mem_cons.mpr ⟨hsk v List.mem_cons_self, hsk⟩))
    · cases h
  · have := kone _ hlen; subst this
    split at h
    · rename_i ho
      cases h
      exact lv_goto hx hb hdg (rk_tgt_ok ho) (hk ad L f H locs ls hw hfr hl hlo hsk)
    · cases h
  · have := kone _ hlen; subst this
    split at h
    · split at h
      · rename_i y x sk9
        split at h
        · rename_i ho
          have hsk9 : ∀ v ∈ sk9, rc_vok os.length v := fun v hv => hsk v (List.mem_cons_of_mem _ (List.mem_cons_of_mem _ hv))
          refine rk_icmp hx hb hdg (rk_tgt_ok ho) (fun hr => ?_) (fun hr => ?_)
          · have hr : (Int32.ofInt y).toInt ≤ (Int32.ofInt x).toInt := hr
            rw [if_pos hr] at h
            cases h
            exact hk ad L f H locs ls hw hfr hl hlo hsk9
          · have hr : (Int32.ofInt x).toInt < (Int32.ofInt y).toInt := hr
            rw [if_neg (by omega)] at h
            cases h
            exact hk ad L f H locs ls hw hfr hl hlo hsk9
        · cases h
      · cases h
    · cases h
  · -- getfield
    have := kone _ hlen; subst this
    split at h
    · rename_i ci k hfi
      split at h
      · rename_i i sk9
        split at h
        · rename_i cj fs ho
          split at h
          · rename_i v hv
            split at h
            · rename_i hci
              rw [Nat.beq_eq] at hci
              subst hci
              cases h
              obtain ⟨Cn, T, N, c1, c2, c3, c4⟩ := t1 _ _ _ hfi
              obtain ⟨g1, g2, g3⟩ := rk_clsOk ci Cn T N c1
              obtain ⟨a1, a2, kq, a3⟩ := rc_at hw ho
              rw [a2] at a3
              refine va_get hx hb hts (fun z hz => htb z (g1 z hz)) hown hK hw.1 kq a3 c1 k c2 c3 (fun _ h9 => h9) (v := rc_val ad v) (by rw [List.getElem?_map, hv]; rfl) hdg ?_
              exact hk ad L f H locs ls hw hfr hl hlo (List.forall_mem_cons.mpr ⟨hw.2.2.2.2.2 _ (List.mem_of_getElem? ho) v (List.mem_of_getElem? hv), fun u hu => hsk u (List.mem_cons_of_mem _ hu)⟩)
            · cases h
          · cases h
        · cases h
      · cases h
    · cases h
  · -- putfield
    have := kone _ hlen; subst this
    split at h
    · rename_i ci k hfi
      split at h
      · rename_i v i sk9
        split at h
        · rename_i cj fs ho
          split at h
          · rename_i hc
            simp only [Bool.and_eq_true, Nat.beq_eq, Nat.blt_eq] at hc
            obtain ⟨hci, hkl, hft⟩ := hc
            subst hci
            cases h
            obtain ⟨Cn, T, N, c1, c2, c3, c4⟩ := t1 _ _ _ hfi
            obtain ⟨g1, g2, g3⟩ := rk_clsOk ci Cn T N c1
            obtain ⟨a1, a2, kq, a3⟩ := rc_at hw ho
            have a3' := a3
            rw [a2] at a3
            obtain ⟨f1, f2⟩ := rc_fit_ok ad hft
            have hil : i.toNat < os.length := (List.getElem?_eq_some_iff.mp ho).1
            have hvk := hsk v List.mem_cons_self
            have hok : rc_ook os.length (0, ci, fs.set k v) := by
              intro u hu
              rcases List.mem_or_eq_of_mem_set hu with h | h
              · exact hw.2.2.2.2.2 _ (List.mem_of_getElem? ho) u h
              · exact h ▸ hvk
            have hE : rc_E tys ad (0, ci, fs.set k v) = .inr (ci, (fs.map (rc_val ad)).set k (rc_val ad v)) := by
              show Sum.inr (ci, (fs.set k v).map (rc_val ad)) = _
              rw [List.map_set]
            have kk : ∀ (H1 : Heap) (locs1 : List Loc), va_P D vwCl ((va_pl L f).set kq (ad i.toNat, .inr (ci, (fs.map (rc_val ad)).set k (rc_val ad v)))) H1 → va_D A ((va_pl L f).set kq (ad i.toNat, .inr (ci, (fs.map (rc_val ad)).set k (rc_val ad v)))) → va_S A H0 H1 locs1 → W p l e R s m args below meth c H1 locs1 (os.length - n0) (rc_szs os - z0) Q (F0 m (pc + 3) ls (List.map (rc_val ad) sk')) := by
              intro H1 locs1 hP1 hD1 hS1
              rw [← hE] at hP1 hD1
              have hw1 := rc_up hw ho hok a3' hP1 hD1 hS1
              have := hk ad L _ H1 locs1 ls hw1 (by rw [List.length_set]; exact rc_fr_up hfr hil _) hl (by rw [List.length_set]; exact hlo) (by rw [List.length_set]; exact fun u hu => hsk u (List.mem_cons_of_mem _ (List.mem_cons_of_mem _ hu)))
              rw [List.length_set, rc_szs_set ho (by show (fs.set k v).length = fs.length; rw [List.length_set])] at this
              exact this
            have hlk : k < (fs.map (rc_val ad)).length := by rw [List.length_map]; exact hkl
            by_cases hfin : (T k).2.2.2 = false
            · exact va_put hx hb hts (fun z hz => htb z (g1 z hz)) (rk_ty ci) g2 g3 hown hK hw.1 hw.2.1 hw.2.2.1 kq a3 c1 k c2 c3 (fun _ h9 => h9) hfin (g2 k c2) f1 f2 hlk hdg kk
            · exact va_putF hx hb hts (fun z hz => htb z (g1 z hz)) (rk_ty ci) g2 g3 hown hK hw.1 hw.2.1 hw.2.2.1 kq a3 c1 k c2 c3 (fun _ h9 => h9) (by simpa using hfin) hin2 c4 (g2 k c2) f1 f2 hlk hdg kk
          · cases h
        · cases h
      · cases h
    · cases h
  · -- aastore
    have := kone _ hlen; subst this
    split at h
    · rename_i v j i sk9
      split at h
      · rename_i t0 es ho
        split at h
        · rename_i ci vs hov
          split at h
          · rename_i hc
            simp only [Bool.and_eq_true, decide_eq_true_eq] at hc
            obtain ⟨haa, hj0, hj1⟩ := hc
            cases h
            obtain ⟨q, cA, q1, q2⟩ := t5 _ _ haa
            obtain ⟨a1, a2, kq, a3⟩ := rc_at hw ho
            obtain ⟨b1, b2, kv, b3⟩ := rc_at hw hov
            have a3' := a3
            rw [a2] at a3
            rw [b2] at b3
            have hil : i.toNat < os.length := (List.getElem?_eq_some_iff.mp ho).1
            have hcA : (tys.getD t0 (0, .int)).1 = cA := by
              rw [List.getD_eq_getElem?_getD, q2]
              rfl
            have hvk := hsk (1, v) List.mem_cons_self
            have hok : rc_ook os.length (2, t0, es.set (Int32.ofInt j).toInt.toNat (1, v)) := by
              intro u hu
              rcases List.mem_or_eq_of_mem_set hu with h | h
              · exact hw.2.2.2.2.2 _ (List.mem_of_getElem? ho) u h
              · exact h ▸ hvk
            obtain ⟨nn, e1, e2, e3⟩ := rk_nI (x := Int32.ofInt j) hj0
            have hcl : (Int32.ofInt j).toNatClampNeg = (Int32.ofInt j).toInt.toNat := rfl
            have hE : rc_E tys ad (2, t0, es.set (Int32.ofInt j).toInt.toNat (1, v)) = .inl ((tys.getD t0 (0, .int)).1, es.length, .inr (.inr (.inr (.inr (va_up (fun i => rc_ref ad (es.getD i (2, 0))) (Int32.ofInt j).toNatClampNeg (some (ad v.toNat))))))) := by
              show Sum.inl ((tys.getD t0 (0, .int)).1, (es.set (Int32.ofInt j).toInt.toNat (1, v)).length, Sum.inr (Sum.inr (Sum.inr (Sum.inr (fun i => rc_ref ad ((es.set (Int32.ofInt j).toInt.toNat (1, v)).getD i (2, 0))))))) = _
              rw [List.length_set]
              congr 7
              funext y
              rw [hcl]
              by_cases hy : y = (Int32.ofInt j).toInt.toNat
              · subst hy
                rw [va_up_self, List.getD_eq_getElem?_getD, List.getElem?_set_self (by omega)]
                rfl
              · rw [va_up_ne _ _ hy, List.getD_eq_getElem?_getD, List.getElem?_set_ne (Ne.symm hy), ← List.getD_eq_getElem?_getD]
            refine va_astq hx hb hK hw.1 hw.2.1 hw.2.2.1 kq t0 kv ci a3 (by rw [hcA]; exact q2) b3 q1 (by
              rintro (h | h)
              · rw [Int32.lt_iff_toInt_lt] at h
                have : (0 : Int32).toInt = 0 := rfl
                omega
              · rw [hcl] at h
                omega) hdg (fun H1 locs1 hP1 hD1 hS1 => ?_)
            rw [← hE] at hP1 hD1
            have hw1 := rc_up hw ho hok a3' hP1 hD1 hS1
            have := hk ad L _ H1 locs1 ls hw1 (by rw [List.length_set]; exact rc_fr_up hfr hil _) hl (by rw [List.length_set]; exact hlo) (by rw [List.length_set]; exact fun u hu => hsk u (List.mem_cons_of_mem _ (List.mem_cons_of_mem _ (List.mem_cons_of_mem _ hu))))
            rw [List.length_set, rc_szs_set ho (by show (es.set _ _).length = es.length; rw [List.length_set])] at this
            exact this
          · cases h
        · cases h
      · cases h
    · cases h
  · -- new
    have := kone _ hlen; subst this
    split at h
    · rename_i ci hci
      split at h
      · rename_i fs hfs
        cases h
        obtain ⟨Cn, T, N, c1, c2, c3, c4⟩ := t2 _ _ hci
        obtain ⟨g1, g2, g3⟩ := rk_clsOk ci Cn T N c1
        obtain ⟨d1, d2, d3⟩ := t3 _ _ hfs Cn T N c1
        have hok : rc_ook os.length (0, ci, fs) := fun v hv h1 => absurd h1 (d3 v hv)
        rw [List.length_append, List.length_singleton] at hc1
        rw [rc_szs_app] at hc2
        have hsz : rc_sz (0, ci, fs) = N := d1
        refine va_new hx hb hts (fun z hz => htb z (g1 z hz)) (rk_ty ci) g2 hown c2 c3 c4 hK hw.1 hw.2.1 hw.2.2.1 hA c1 (fs := fs.map (rc_val ad)) (d2 ad) (by omega) (by omega) hdg (fun q H1 hP1 hD1 hS1 => ?_)
        obtain ⟨hq, hw1⟩ := rc_new hw (o' := (0, ci, fs)) hok hP1 hD1 hS1
        have hext : ∀ i, i < os.length → va_up ad os.length q i = ad i := fun i hi => va_up_ne _ _ (by omega)
        have hm : ∀ l : List rc_V, (∀ v ∈ l, rc_vok os.length v) → l.map (rc_val (va_up ad os.length q)) = l.map (rc_val ad) := fun l hl9 => List.map_congr_left (fun v hv => rc_val_ext hext (hl9 v hv))
        have hlm : (lo.map fun z => (z.1, rc_val (va_up ad os.length q) z.2)) = lo.map fun z => (z.1, rc_val ad z.2) := List.map_congr_left (fun z hz => by rw [rc_val_ext hext (hlo z hz)])
        have := hk _ _ _ H1 locs ls hw1 (by rw [List.length_append, List.length_singleton]; exact rc_fr_new hfr hq _) (by rw [hlm]; exact hl) (by rw [List.length_append]; exact fun z hz => rc_vok_le (by omega) (hlo z hz)) (by
          rw [List.length_append, List.length_singleton]
          refine List.forall_mem_cons.mpr ⟨fun _ => ?_, fun z hz => rc_vok_le (by omega) (hsk z hz)⟩
          show ((os.length : Int)).toNat < os.length + 1
          omega)
        rw [List.length_append, List.length_singleton, rc_szs_app, List.map_cons, hm sk hsk, show rc_val (va_up ad os.length q) (1, (os.length : Int)) = .ref q from congrArg Value.ref (by rw [Int.toNat_natCast, va_up_self]), hsz, show os.length + 1 - n0 = os.length - n0 + 1 by omega, show rc_szs os + N - z0 = rc_szs os - z0 + N by omega] at this
        exact this
      · cases h
    · cases h
  · -- newarray
    have := kone _ hlen; subst this
    split at h
    · rename_i n sk9
      split at h
      · rename_i hc
        simp only [Bool.and_eq_true, decide_eq_true_eq] at hc
        cases h
        have hok : rc_ook os.length (1, (Int32.ofInt n).toInt.toNat, []) := fun v hv => absurd hv List.not_mem_nil
        rw [List.length_append, List.length_singleton] at hc1
        rw [rc_szs_app] at hc2
        have hsz : rc_sz (1, (Int32.ofInt n).toInt.toNat, []) = (Int32.ofInt n).toInt.toNat := rfl
        have hsk9 : ∀ v ∈ sk9, rc_vok os.length v := fun v hv => hsk v (List.mem_cons_of_mem _ hv)
        refine va_newa (atype := .int) (ty := .int) hx hb t6a rfl hK hw.1 hw.2.1 hw.2.2.1 hA (n := Int32.ofInt n) (N' := (Int32.ofInt n).toInt.toNat) (a0 := ((Int32.ofInt n).toInt.toNat, .inl (fun _ => 0))) (fun cA => rfl) (by
          intro h
          rw [Int32.lt_iff_toInt_lt] at h
          have : (0 : Int32).toInt = 0 := rfl
          omega) rfl (by rw [show componentBytes FieldType.int = 4 from rfl]; omega) (by omega) (by omega) hdg (fun q cA H1 hK1 hP1 hD1 hS1 => ?_)
        have hcA : cA = (tys.getD 0 (0, .int)).1 := by
          have e1 : s.vm.findClass ("[" ++ FieldType.int.toString) = some cA := (hK1.2 tys.length (cA, .int) (by simp)).2
          have e2 : s.vm.findClass ("[" ++ FieldType.int.toString) = some cI := (hK.2 0 _ t6).2
          rw [List.getD_eq_getElem?_getD, t6]
          exact Option.some.inj (e1.symm.trans e2)
        subst hcA
        obtain ⟨hq, hw1⟩ := rc_new hw (o' := (1, (Int32.ofInt n).toInt.toNat, [])) hok hP1 hD1 hS1
        have hext : ∀ i, i < os.length → va_up ad os.length q i = ad i := fun i hi => va_up_ne _ _ (by omega)
        have hm : ∀ l : List rc_V, (∀ v ∈ l, rc_vok os.length v) → l.map (rc_val (va_up ad os.length q)) = l.map (rc_val ad) := fun l hl9 => List.map_congr_left (fun v hv => rc_val_ext hext (hl9 v hv))
        have hlm : (lo.map fun z => (z.1, rc_val (va_up ad os.length q) z.2)) = lo.map fun z => (z.1, rc_val ad z.2) := List.map_congr_left (fun z hz => by rw [rc_val_ext hext (hlo z hz)])
        have := hk _ _ _ H1 locs ls hw1 (by rw [List.length_append, List.length_singleton]; exact rc_fr_new hfr hq _) (by rw [hlm]; exact hl) (by rw [List.length_append]; exact fun z hz => rc_vok_le (by omega) (hlo z hz)) (by
          rw [List.length_append, List.length_singleton]
          refine List.forall_mem_cons.mpr ⟨fun _ => ?_, fun z hz => rc_vok_le (by omega) (hsk9 z hz)⟩
          show ((os.length : Int)).toNat < os.length + 1
          omega)
        rw [List.length_append, List.length_singleton, rc_szs_app, List.map_cons, hm sk9 hsk9, show rc_val (va_up ad os.length q) (1, (os.length : Int)) = .ref q from congrArg Value.ref (by rw [Int.toNat_natCast, va_up_self]), hsz, show os.length + 1 - n0 = os.length - n0 + 1 by omega, show rc_szs os + (Int32.ofInt n).toInt.toNat - z0 = rc_szs os - z0 + (Int32.ofInt n).toInt.toNat by omega] at this
        exact this
      · cases h
    · cases h
  · -- anewarray
    have := kone _ hlen; subst this
    split at h
    · rename_i t0 ht0
      split at h
      · rename_i n sk9
        split at h
        · rename_i hc
          simp only [Bool.and_eq_true, decide_eq_true_eq] at hc
          cases h
          obtain ⟨cB, Cn, c1, c2, c3⟩ := t4 _ _ ht0
          have hok : rc_ook os.length (2, t0, List.replicate (Int32.ofInt n).toInt.toNat (2, 0)) := fun v hv h1 => by
            rw [List.eq_of_mem_replicate hv] at h1
            cases h1
          rw [List.length_append, List.length_singleton] at hc1
          rw [rc_szs_app] at hc2
          have hsz : rc_sz (2, t0, List.replicate (Int32.ofInt n).toInt.toNat (2, 0)) = (Int32.ofInt n).toInt.toNat := List.length_replicate
          have hsk9 : ∀ v ∈ sk9, rc_vok os.length v := fun v hv => hsk v (List.mem_cons_of_mem _ hv)
          refine va_newq hx hb hown c2 c3 hK hw.1 hw.2.1 hw.2.2.1 hA (N' := (Int32.ofInt n).toInt.toNat) (by
            intro h
            rw [Int32.lt_iff_toInt_lt] at h
            have : (0 : Int32).toInt = 0 := rfl
            omega) rfl (by omega) (by omega) (by omega) hdg (fun q cA H1 hK1 hP1 hD1 hS1 => ?_)
          have hcA : cA = (tys.getD t0 (0, .int)).1 := by
            obtain ⟨_, _, _, _, _, e1⟩ := (hK1.2 tys.length (cA, .object Cn) (by simp)).2
            obtain ⟨_, _, _, _, _, e2⟩ := (hK.2 t0 _ c1).2
            rw [List.getD_eq_getElem?_getD, c1]
            exact Option.some.inj (e1.symm.trans e2)
          subst hcA
          have hE : rc_E tys ad (2, t0, List.replicate (Int32.ofInt n).toInt.toNat (2, 0)) = .inl ((tys.getD t0 (0, .int)).1, (Int32.ofInt n).toInt.toNat, .inr (.inr (.inr (.inr (fun _ => none))))) := by
            show Sum.inl ((tys.getD t0 (0, .int)).1, (List.replicate (Int32.ofInt n).toInt.toNat ((2, 0) : rc_V)).length, Sum.inr (Sum.inr (Sum.inr (Sum.inr (fun i => rc_ref ad ((List.replicate (Int32.ofInt n).toInt.toNat ((2, 0) : rc_V)).getD i (2, 0))))))) = _
            rw [List.length_replicate]
            congr 7
            funext y
            rw [List.getD_eq_getElem?_getD, List.getElem?_replicate]
            split <;> rfl
          rw [← hE] at hP1 hD1
          obtain ⟨hq, hw1⟩ := rc_new hw hok hP1 hD1 hS1
          have hext : ∀ i, i < os.length → va_up ad os.length q i = ad i := fun i hi => va_up_ne _ _ (by omega)
          have hm : ∀ l : List rc_V, (∀ v ∈ l, rc_vok os.length v) → l.map (rc_val (va_up ad os.length q)) = l.map (rc_val ad) := fun l hl9 => List.map_congr_left (fun v hv => rc_val_ext hext (hl9 v hv))
          have hlm : (lo.map fun z => (z.1, rc_val (va_up ad os.length q) z.2)) = lo.map fun z => (z.1, rc_val ad z.2) := List.map_congr_left (fun z hz => by rw [rc_val_ext hext (hlo z hz)])
          have := hk _ _ _ H1 locs ls hw1 (by rw [List.length_append, List.length_singleton]; exact rc_fr_new hfr hq _) (by rw [hlm]; exact hl) (by rw [List.length_append]; exact fun z hz => rc_vok_le (by omega) (hlo z hz)) (by
            rw [List.length_append, List.length_singleton]
            refine List.forall_mem_cons.mpr ⟨fun _ => ?_, fun z hz => rc_vok_le (by omega) (hsk9 z hz)⟩
            show ((os.length : Int)).toNat < os.length + 1
            omega)
          rw [List.length_append, List.length_singleton, rc_szs_app, List.map_cons, hm sk9 hsk9, show rc_val (va_up ad os.length q) (1, (os.length : Int)) = .ref q from congrArg Value.ref (by rw [Int.toNat_natCast, va_up_self]), hsz, show os.length + 1 - n0 = os.length - n0 + 1 by omega, show rc_szs os + (Int32.ofInt n).toInt.toNat - z0 = rc_szs os - z0 + (Int32.ofInt n).toInt.toNat by omega] at this
          exact this
        · cases h
      · cases h
    · cases h
  · -- Object's constructor
    have := kone _ hlen; subst this
    split at h
    · rename_i hi
      split at h
      · rename_i a sk9
        split at h
        · rename_i h8
          rw [Nat.ble_eq] at h8
          cases h
          obtain ⟨o1, o2, o3, o4, o5⟩ := t7 _ hi
          refine W.objInit hx hb hown o1 o2 o3 (g := F0 m pc ls (.ref (ad a.toNat) :: sk9.map (rc_val ad))) rfl (by show ls.size = _; rw [hml]; exact hl.1) rfl hdg o4 (by
            show 2 * 0 + ((sk9.map (rc_val ad)).map fun v => v.category).sum + 12 ≤ _
            rw [rc_cat8]
            omega) ?_
          exact hk ad L f H locs ls hw hfr hl hlo (fun v hv => hsk v (List.mem_cons_of_mem _ hv))
        · cases h
      · cases h
    · cases h
  · -- Math.max
    have := kone _ hlen; subst this
    split at h
    · rename_i hi
      split at h
      · rename_i y x sk9
        split at h
        · rename_i h8
          rw [Nat.ble_eq] at h8
          cases h
          obtain ⟨o1, o2, o3, o4, o5, o6⟩ := t8 _ hi
          refine va_mmax hx hb (hml.trans hl.1.symm) hown o1 o2 o3 o4 o5 (by rw [rc_cat8]; omega) (by omega) (by omega) hdg ?_
          have := hk ad L f H locs ls hw hfr hl hlo (List.forall_mem_cons.mpr ⟨h0v _, fun v hv => hsk v (List.mem_cons_of_mem _ (List.mem_cons_of_mem _ hv))⟩)
          rw [List.map_cons, hint] at this
          by_cases hxy : (Int32.ofInt x).toInt < (Int32.ofInt y).toInt
          · rw [if_pos hxy] at this
            rw [if_pos (Int32.lt_iff_toInt_lt.mpr hxy)]
            exact this
          · rw [if_neg hxy] at this
            rw [if_neg (fun h => hxy (Int32.lt_iff_toInt_lt.mp h))]
            exact this
        · cases h
      · cases h
    · cases h
  · cases h
end RC
