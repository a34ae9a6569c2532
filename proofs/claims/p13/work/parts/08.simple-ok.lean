section RKS
variable {p : Program} {l : Launch} {e : Env} {R : Room} {s : State} {m : MethodId} {args : Array Value} {below : List Frame} {meth : Method} {c : Code} {cm sm : Nat} {Q : State → Prop} {cc : ByteArray} {F : rk_Fx} {nE : Nat} {r0 : Nat → Value}
/-- from every state that the symbolic one covers, the machine comes to Q -/
def rk_G (p : Program) (l : Launch) (e : Env) (R : Room) (s : State) (m : MethodId) (args : Array Value) (below : List Frame) (meth : Method) (c : Code) (cm sm : Nat) (Q : State → Prop) (F : rk_Fx) (nE : Nat) (r0 : Nat → Value) (pc : Nat) (S : rk_St) : Prop :=
  ∀ (r : Nat → Value) (f : Nat → va_E) (H : Heap) (locs : List Loc) (ls : Array Slot) (st : List Value), rk_on F nE r0 r S f H locs ls st → W p l e R s m args below meth c H locs cm sm Q (F0 m pc ls st)
theorem rk_mk_ok {pc : Nat} {S : rk_St} {t : rk_AV} {out : List (Nat × rk_St)} {r : Nat → Value} {f : Nat → va_E} {H : Heap} {locs : List Loc} {ls : Array Slot} {st : List Value} {v : Value} (h : rk_mk nE pc S t = some out) (hk : ∀ q ∈ out, rk_G p l e R s m args below meth c cm sm Q F nE r0 q.1 q.2) (hS : rk_on F nE r0 r S f H locs ls st) (hv : rk_has (rk_fG F) (rk_fX F + S.2.2.2.2.2) t v) : W p l e R s m args below meth c H locs cm sm Q (F0 m pc ls (v :: st)) := by
  obtain ⟨lo, sk, en, kn, fc, co⟩ := S
  simp only [rk_mk] at h
  split at h
  · rename_i hw
    cases h
    obtain ⟨r', e0, e1, hS'⟩ := rk_fresh hS hw v
    have := rk_push en.length (rk_enter (t := t) hS' (by rw [e0]; exact hv))
    rw [e0] at this
    exact hk _ (List.mem_singleton.mpr rfl) r' f H locs ls _ this
  · cases h
theorem rk_lvs {ls : Array Slot} {nL : Nat} {l1 l2 : List (Nat × Value)} (h : lv_has ls nL l1) (hs : ∀ q ∈ l2, q ∈ l1) : lv_has ls nL l2 := ⟨h.1, h.2.1, fun q hq => h.2.2 q (hs q hq)⟩
theorem rk_get {S : rk_St} {r : Nat → Value} {f : Nat → va_E} {H : Heap} {locs : List Loc} {ls : Array Slot} {st : List Value} {i y : Nat} (hS : rk_on F nE r0 r S f H locs ls st) (h : rk_lk S.1 i = some y) : ls[i]? = some (.val (r y)) := by
  obtain ⟨lo, sk, en, kn, fc, co⟩ := S
  have h4 := hS.2.2.2.1
  exact h4.2.2 (i, r y) (List.mem_map.mpr ⟨(i, y), rk_lk_ok lo h, rfl⟩)
/-- behind a store -/
theorem rk_stored {lo : List (Nat × Nat)} {sk : List Nat} {en : List rk_AV} {kn : List (Nat × Nat × Nat)} {fc : List (Nat × Nat × Nat × Int)} {co : Int} {r : Nat → Value} {f : Nat → va_E} {H : Heap} {locs : List Loc} {ls ls' : Array Slot} {st : List Value} {i y : Nat} (hS : rk_on F nE r0 r (lo, sk, en, kn, fc, co) f H locs ls st) (hin : ∀ q ∈ lo, ∃ t, en[q.2]? = some t)
    (hl : lv_has ls' (rk_fn F) ((i, r y) :: (lo.map fun q => (q.1, r q.2)).filter (fun q => !(q.1 == i) && !(q.1 + 1 == i && q.2.category == 2)))) : rk_on F nE r0 r (rk_up lo i y, sk, en, kn, fc, co) f H locs ls' st := by
  obtain ⟨h1, h2, h3, h4, h⟩ := hS
  refine ⟨h1, h2, h3, rk_lvs hl ?_, h⟩
  intro q hq
  obtain ⟨z, hz, rfl⟩ := List.mem_map.mp hq
  rcases List.mem_cons.mp hz with rfl | hz
  · exact List.mem_cons_self
  · obtain ⟨hz1, hz2⟩ := List.mem_filter.mp hz
    refine List.mem_cons_of_mem _ (List.mem_filter.mpr ⟨List.mem_map.mpr ⟨z, hz1, rfl⟩, ?_⟩)
    obtain ⟨t, ht⟩ := hin z hz1
    have hc := rk_has_cat (h1 _ _ ht)
    have hne : ¬ z.1 = i := by
      intro h0
      rw [h0] at hz2
      simp at hz2
    dsimp only
    rw [hc]
    simp [hne]
theorem rk_wf_lo {S : rk_St} (h : rk_wf nE S = true) : ∀ q ∈ S.1, ∃ t, S.2.2.1[q.2]? = some t := by
  obtain ⟨lo, sk, en, kn, fc, co⟩ := S
  simp only [rk_wf, Bool.and_eq_true, List.all_eq_true, Nat.blt_eq, Nat.ble_eq] at h
  intro q hq
  exact ⟨_, List.getElem?_eq_getElem (h.2.1 q hq)⟩
theorem rk_at_mem {pc : Nat} {l : List rk_St} {S : rk_St} (h : S ∈ l) : (pc, S) ∈ rk_at pc l := List.mem_map.mpr ⟨S, h, rfl⟩
theorem rk_tc_mem {pc x : Nat} {a b : Int} {S : rk_St} : ∀ (l : List Int) (k n : Int) (o : Int), k ≤ n → l[(n - k).toNat]? = some o → a ≤ n → n ≤ b → (rk_tgt pc o, (S.1, S.2.1, S.2.2.1.set x (0, n, n), S.2.2.2)) ∈ rk_tc pc x a b S k l
  | [], k, n, o, h, ho, _, _ => by simp at ho
  | q :: l, k, n, o, h, ho, ha, hb => by
    unfold rk_tc
    by_cases hkn : k = n
    · subst hkn
      rw [if_pos ⟨ha, hb⟩]
      rw [Int.sub_self] at ho
      cases ho
      exact List.mem_cons_self
    · have e1 : (n - k).toNat = (n - (k + 1)).toNat + 1 := by omega
      rw [e1, List.getElem?_cons_succ] at ho
      have ih := rk_tc_mem (pc := pc) (x := x) (S := S) l (k + 1) n o (by omega) ho ha hb
      split
      · exact List.mem_cons_of_mem _ ih
      · exact ih
theorem rk_cse_ok {r : Nat → Value} {ins : Instr} {x y z : Nat} : ∀ fc : List (Nat × Nat × Nat × Int), (∀ q ∈ fc, rk_fact r q) → rk_cse ins x y fc = some z → ins = .iadd ∧ ∃ a b : Int32, r x = .int a ∧ r y = .int b ∧ r z = .int (a + b)
  | [], _, h => by cases h
  | q :: l, hl, h => by
    unfold rk_cse at h
    split at h
    · split at h
      · rename_i hc
        have hq := hl q List.mem_cons_self
        simp only [Bool.and_eq_true, Nat.beq_eq, decide_eq_true_eq] at hc
        obtain ⟨n, a, b, d⟩ := q
        dsimp only at hc h
        obtain ⟨rfl, rfl, rfl⟩ := hc
        cases h
        simp only [rk_fact] at hq
        rw [Int.toNat_natCast] at hq
        exact ⟨rfl, hq⟩
      · exact rk_cse_ok l (fun p hp => hl p (List.mem_cons_of_mem _ hp)) h
    · cases h
theorem rk_s1_ok (hx : p.tables.exec = Jvm.exec) (hb : c.code = cc) {own : String} (hown : s.vm.findClass own = some m.cls) {cs : Nat → Option Int32} (hcs : ∀ i v, cs i = some v → (Jvm.Cond.constant own i v).before args s = true) (hX : rk_fX F + 110000000 ≤ 2147483647)
    {pc len : Nat} {ins : Instr} {S : rk_St} {out : List (Nat × rk_St)} (hdg : decode cc pc = .ok (ins, len)) (hlen : rk_lenOk ins len = true) (h : rk_s1 nE (rk_fn F) cs pc ins S = some out) (hk : ∀ q ∈ out, rk_G p l e R s m args below meth c cm sm Q F nE r0 q.1 q.2) : rk_G p l e R s m args below meth c cm sm Q F nE r0 pc S := by
  intro r f H locs ls st hS
  have hXc : (rk_fX F + S.2.2.2.2.2) + 100000000 ≤ 2147483647 := by
    obtain ⟨lo, sk, en, kn, fc, co⟩ := S
    have := hS.2.2.2.2.2.2.1
    dsimp only
    omega
  have kload : ∀ (i n : Nat) (ok : rk_AV → Bool), rk_ld n i S ok = some out → ∃ (y : Nat) (t : rk_AV), ls[i]? = some (.val (r y)) ∧ ok t = true ∧ rk_has (rk_fG F) (rk_fX F + S.2.2.2.2.2) t (r y) ∧ W p l e R s m args below meth c H locs cm sm Q (F0 m n ls (r y :: st)) := by
    intro i n ok h
    have hg := @rk_get F nE r0 S r f H locs ls st i
    obtain ⟨lo, sk, en, kn, fc, co⟩ := S
    simp only [rk_ld] at h
    split at h
    · cases h
    · rename_i y hy
      split at h
      · cases h
      · rename_i t ht
        split at h
        · rename_i hok
          cases h
          exact ⟨y, t, hg hS hy, hok, rk_val hS ht, hk _ (List.mem_singleton.mpr rfl) r f H locs ls _ (rk_push y hS)⟩
        · cases h
  have ksto : ∀ (i n : Nat) (ok : rk_AV → Bool), rk_sto nE (rk_fn F) n i S ok = some out → ∃ (y : Nat) (t : rk_AV) (st' : List Value) (lv : List (Nat × Value)), st = r y :: st' ∧ ok t = true ∧ i < rk_fn F ∧ rk_has (rk_fG F) (rk_fX F + S.2.2.2.2.2) t (r y) ∧ lv_has ls (rk_fn F) lv ∧ ∀ ls' : Array Slot, lv_has ls' (rk_fn F) ((i, r y) :: lv.filter (fun q => !(q.1 == i) && !(q.1 + 1 == i && q.2.category == 2))) → W p l e R s m args below meth c H locs cm sm Q (F0 m n ls' st') := by
    intro i n ok h
    obtain ⟨lo, sk, en, kn, fc, co⟩ := S
    rcases sk with _ | ⟨y, sk'⟩
    · simp [rk_sto] at h
    · simp only [rk_sto] at h
      split at h
      · cases h
      · rename_i t ht
        split at h
        · rename_i hok
          simp only [Bool.and_eq_true, Nat.blt_eq] at hok
          cases h
          obtain ⟨st', e1, hS'⟩ := rk_pop hS
          refine ⟨y, t, st', lo.map fun q => (q.1, r q.2), e1, hok.1, hok.2.1, rk_val hS ht, hS.2.2.2.1, fun ls' hl => ?_⟩
          exact hk _ (List.mem_singleton.mpr rfl) r f H locs ls' _ (rk_stored hS' (rk_wf_lo hok.2.2) hl)
        · cases h
  have kari : ∀ ins' : Instr, ins = ins' → len = 1 → rk_ari nE (pc + 1) ins' S = some out → W p l e R s m args below meth c H locs cm sm Q (F0 m pc ls st) := by
    intro ins' hi hl1 h
    subst hi
    subst hl1
    obtain ⟨lo, sk, en, kn, fc, co⟩ := S
    rcases sk with _ | ⟨y, _ | ⟨x, sk'⟩⟩
    · simp [rk_ari] at h
    · simp [rk_ari] at h
    · simp only [rk_ari] at h
      split at h
      · cases h
      · rename_i tx htx
        split at h
        · cases h
        · rename_i ty hty
          split at h
          · rename_i z hz
            cases h
            obtain ⟨rfl, xx, yy, ex, ey, ez⟩ := rk_cse_ok fc hS.2.2.1 hz
            obtain ⟨st1, d1, hS1⟩ := rk_pop hS
            obtain ⟨st2, d2, hS2⟩ := rk_pop hS1
            subst d1
            subst d2
            rw [ex, ey]
            refine lv_iadd hx hb hdg ?_
            have h3 := rk_push z hS2
            rw [ez] at h3
            exact hk _ (List.mem_singleton.mpr rfl) r f H locs ls _ h3
          · split at h
            · cases h
            · rename_i t fs hop
              split at h
              · rename_i hw
                cases h
                obtain ⟨xx, yy, zz, ex, ey, hm, hz, hfs⟩ := rk_op_ok hXc hS.2.2.1 hop (rk_val hS htx) (rk_val hS hty)
                obtain ⟨r', e0, e1, hS'⟩ := rk_fresh hS hw (.int zz)
                have lx : x < en.length := (List.getElem?_eq_some_iff.mp htx).1
                have ly : y < en.length := (List.getElem?_eq_some_iff.mp hty).1
                obtain ⟨st1, d1, hS1⟩ := rk_pop hS'
                obtain ⟨st2, d2, hS2⟩ := rk_pop hS1
                subst d1
                subst d2
                rw [e1 y ly, e1 x lx, ex, ey]
                refine rk_arW hx hb hdg hm ?_
                have h3 := rk_push en.length (rk_addfs fs (rk_enter (t := t) hS2 (by rw [e0]; exact hz)) (hfs r' e0 ((e1 x lx).trans ex) ((e1 y ly).trans ey)))
                rw [e0] at h3
                exact hk _ (List.mem_singleton.mpr rfl) r' f H locs ls _ h3
              · cases h
  have kld : ∀ (t : rk_AV) (v : Value), rk_isR t = true → rk_has (rk_fG F) (rk_fX F + S.2.2.2.2.2) t v → v = .null ∨ ∃ a : Nat, v = .ref a := fun t v a b => rk_isR_ok a b
  have kli : ∀ (t : rk_AV) (v : Value), rk_isI t = true → rk_has (rk_fG F) (rk_fX F + S.2.2.2.2.2) t v → ∃ x : Int32, v = .int x := fun t v a b => rk_isI_ok a b
  have kone : ∀ n, Nat.beq len n = true → len = n := fun n h => Nat.beq_eq ▸ h
  cases ins with
  | iconst n =>
    have := kone _ hlen; subst this
    exact lv_iconst hx hb hdg rfl (rk_mk_ok h hk hS ⟨_, rfl, Int.le_refl _, Int.le_refl _⟩)
  | bipush n =>
    have := kone _ hlen; subst this
    exact lv_bipush hx hb hdg rfl (rk_mk_ok h hk hS ⟨_, rfl, Int.le_refl _, Int.le_refl _⟩)
  | sipush n =>
    have := kone _ hlen; subst this
    exact lv_sipush hx hb hdg rfl (rk_mk_ok h hk hS ⟨_, rfl, Int.le_refl _, Int.le_refl _⟩)
  | ldc i =>
    have := kone _ hlen; subst this
    simp only [rk_s1] at h
    split at h
    · cases h
    · rename_i v hv
      exact lv_ldc hx hb hown (hcs i v hv) hdg (rk_mk_ok h hk hS ⟨_, rfl, Int.le_refl _, Int.le_refl _⟩)
  | ldc_w i =>
    have := kone _ hlen; subst this
    simp only [rk_s1] at h
    split at h
    · cases h
    · rename_i v hv
      exact lv_ldcw hx hb hown (hcs i v hv) hdg (rk_mk_ok h hk hS ⟨_, rfl, Int.le_refl _, Int.le_refl _⟩)
  | aconst_null =>
    have := kone _ hlen; subst this
    exact lv_null hx hb hdg (rk_mk_ok h hk hS (Or.inl rfl))
  | iload i =>
    have := kone _ hlen; subst this
    obtain ⟨y, t, h1, h2, h3, h4⟩ := kload i _ _ h
    obtain ⟨x, ex⟩ := kli t _ h2 h3
    rw [ex] at h1 h4
    exact lv_iload hx hb hdg h1 h4
  | iload_n i =>
    have := kone _ hlen; subst this
    obtain ⟨y, t, h1, h2, h3, h4⟩ := kload i _ _ h
    obtain ⟨x, ex⟩ := kli t _ h2 h3
    rw [ex] at h1 h4
    exact lv_iload_n hx hb hdg rfl h1 h4
  | aload i =>
    have := kone _ hlen; subst this
    obtain ⟨y, t, h1, h2, h3, h4⟩ := kload i _ _ h
    rcases kld t _ h2 h3 with ex | ⟨a, ex⟩
    · rw [ex] at h1 h4
      exact lv_aloadN hx hb hdg h1 h4
    · rw [ex] at h1 h4
      exact lv_aload hx hb hdg h1 h4
  | aload_n i =>
    have := kone _ hlen; subst this
    obtain ⟨y, t, h1, h2, h3, h4⟩ := kload i _ _ h
    rcases kld t _ h2 h3 with ex | ⟨a, ex⟩
    · rw [ex] at h1 h4
      exact lv_aload_nN hx hb hdg rfl h1 h4
    · rw [ex] at h1 h4
      exact lv_aload_n hx hb hdg rfl h1 h4
  | istore i =>
    have := kone _ hlen; subst this
    obtain ⟨y, t, st', lv, e1, h2, h3, h4, h5, h6⟩ := ksto i _ _ h
    obtain ⟨x, ex⟩ := kli t _ h2 h4
    subst e1
    rw [ex] at h6 ⊢
    exact lv_istore hx hb hdg h5 h3 rfl h6
  | istore_n i =>
    have := kone _ hlen; subst this
    obtain ⟨y, t, st', lv, e1, h2, h3, h4, h5, h6⟩ := ksto i _ _ h
    obtain ⟨x, ex⟩ := kli t _ h2 h4
    subst e1
    rw [ex] at h6 ⊢
    exact lv_istore_n hx hb hdg rfl h5 h3 rfl h6
  | astore i =>
    have := kone _ hlen; subst this
    obtain ⟨y, t, st', lv, e1, h2, h3, h4, h5, h6⟩ := ksto i _ _ h
    subst e1
    rcases kld t _ h2 h4 with ex | ⟨a, ex⟩
    · rw [ex] at h6 ⊢
      exact lv_astoreN hx hb hdg h5 h3 rfl h6
    · rw [ex] at h6 ⊢
      exact lv_astore hx hb hdg h5 h3 rfl h6
  | astore_n i =>
    have := kone _ hlen; subst this
    obtain ⟨y, t, st', lv, e1, h2, h3, h4, h5, h6⟩ := ksto i _ _ h
    subst e1
    rcases kld t _ h2 h4 with ex | ⟨a, ex⟩
    · rw [ex] at h6 ⊢
      exact lv_astore_nN hx hb hdg rfl h5 h3 rfl h6
    · rw [ex] at h6 ⊢
      exact lv_astore_n hx hb hdg rfl h5 h3 rfl h6
  | iinc i cst =>
    have := kone _ hlen; subst this
    have hg := @rk_get F nE r0 S r f H locs ls st i
    obtain ⟨lo, sk, en, kn, fc, co⟩ := S
    simp only [rk_s1, rk_inc] at h
    split at h
    · cases h
    · rename_i y hy
      split at h
      · cases h
      · rename_i t ht
        split at h
        · rename_i hok
          simp only [Bool.and_eq_true, Nat.blt_eq, decide_eq_true_eq] at hok
          obtain ⟨g1, g2, g3, g4, g5⟩ := hok
          cases h
          have hv := rk_val hS ht
          obtain ⟨x, ex⟩ := rk_isI_ok g1 hv
          have ec : (Int32.ofInt cst).toInt = cst := by
            rw [Int32.toInt_ofInt]
            exact rk_bmod (by omega) (by omega)
          obtain ⟨r', e0, e1, hS'⟩ := rk_fresh hS g3 (.int (x + Int32.ofInt cst))
          have ly : y < en.length := (List.getElem?_eq_some_iff.mp ht).1
          obtain ⟨k, hkk⟩ := List.getElem?_of_mem (List.mem_map.mpr ⟨(i, y), rk_lk_ok lo hy, rfl⟩ : (i, r' y) ∈ lo.map fun q => (q.1, r' q.2))
          have ey : r' y = .int x := (e1 y ly).trans ex
          rw [ey] at hkk
          have hv2 : rk_has (rk_fG F) (rk_fX F + co) t (.int x) := ex ▸ hv
          refine lv_iinc hx hb hdg hS'.2.2.2.1 hkk rfl g2 rfl (fun ls' hl => ?_)
          have hS2 := rk_enter (t := rk_add t (0, cst, cst)) hS' (by
            rw [e0]
            exact rk_add_ok hXc hv2 ⟨_, rfl, by omega, by omega⟩)
          have hS3 := rk_addfs (rk_lin en.length y t cst) hS2 (rk_lin_ok hXc hv2 ey e0 (fun a b => by rw [rk_add_e] <;> omega))
          have hl2 := hl
          rw [← e0] at hl2
          refine hk _ (List.mem_singleton.mpr rfl) r' f H locs ls' _ (rk_stored hS3 (fun q hq => ?_) hl2)
          obtain ⟨t', ht'⟩ := rk_wf_lo g3 q hq
          dsimp only at ht'
          exact ⟨t', by rw [List.getElem?_append_left (List.getElem?_eq_some_iff.mp ht').1]; exact ht'⟩
        · cases h
  | iadd => exact kari _ rfl (kone _ hlen) h
  | isub => exact kari _ rfl (kone _ hlen) h
  | imul => exact kari _ rfl (kone _ hlen) h
  | idiv => exact kari _ rfl (kone _ hlen) h
  | irem => exact kari _ rfl (kone _ hlen) h
  | iand => exact kari _ rfl (kone _ hlen) h
  | ior => exact kari _ rfl (kone _ hlen) h
  | ishl => exact kari _ rfl (kone _ hlen) h
  | ishr => exact kari _ rfl (kone _ hlen) h
  | iushr => exact kari _ rfl (kone _ hlen) h
  | pop =>
    have := kone _ hlen; subst this
    obtain ⟨lo, sk, en, kn, fc, co⟩ := S
    simp only [rk_s1] at h
    split at h
    · rename_i y sk'
      split at h
      · rename_i hy
        cases h
        obtain ⟨t, ht⟩ := Option.isSome_iff_exists.mp hy
        obtain ⟨st', d1, hS'⟩ := rk_pop hS
        subst d1
        exact lv_pop hx hb hdg (rk_has_cat (rk_val hS ht)) (hk _ (List.mem_singleton.mpr rfl) r f H locs ls _ hS')
      · cases h
    · cases h
  | dup =>
    have := kone _ hlen; subst this
    obtain ⟨lo, sk, en, kn, fc, co⟩ := S
    simp only [rk_s1] at h
    split at h
    · rename_i y sk'
      split at h
      · rename_i hy
        cases h
        obtain ⟨t, ht⟩ := Option.isSome_iff_exists.mp hy
        obtain ⟨st', d1, hS'⟩ := rk_pop hS
        subst d1
        exact lv_dup hx hb hdg (rk_has_cat (rk_val hS ht)) (hk _ (List.mem_singleton.mpr rfl) r f H locs ls _ (rk_push y hS))
      · cases h
    · cases h
  | dup2 =>
    have := kone _ hlen; subst this
    obtain ⟨lo, sk, en, kn, fc, co⟩ := S
    simp only [rk_s1] at h
    split at h
    · rename_i y x sk'
      split at h
      · rename_i hy
        simp only [Bool.and_eq_true] at hy
        cases h
        obtain ⟨t, ht⟩ := Option.isSome_iff_exists.mp hy.1
        obtain ⟨t2, ht2⟩ := Option.isSome_iff_exists.mp hy.2
        obtain ⟨st', d1, hS'⟩ := rk_pop hS
        obtain ⟨st2, d2, hS2⟩ := rk_pop hS'
        subst d1
        subst d2
        exact lv_dup2_11 hx hb hdg (rk_has_cat (rk_val hS ht)) (rk_has_cat (rk_val hS ht2)) (hk _ (List.mem_singleton.mpr rfl) r f H locs ls _ (rk_push y (rk_push x hS)))
      · cases h
    · cases h
  | goto o =>
    have := kone _ hlen; subst this
    simp only [rk_s1] at h
    split at h
    · rename_i ho
      cases h
      exact lv_goto hx hb hdg (rk_tgt_ok ho) (hk _ (List.mem_singleton.mpr rfl) r f H locs ls _ hS)
    · cases h
  | if_icmp cd o =>
    have := kone _ hlen; subst this
    obtain ⟨lo, sk, en, kn, fc, co⟩ := S
    simp only [rk_s1, rk_cmpS] at h
    split at h
    · rename_i y x sk'
      split at h
      · rename_i ho
        simp only [rk_two] at h
        split at h
        · cases h
        · rename_i la hla
          split at h
          · cases h
          · rename_i lb hlb
            cases h
            obtain ⟨st1, d1, hS1⟩ := rk_pop hS
            obtain ⟨st2, d2, hS2⟩ := rk_pop hS1
            subst d1
            subst d2
            have hxy : (∃ a : Int32, r x = .int a) ∧ ∃ b : Int32, r y = .int b := by
              simp only [rk_brn] at hla
              split at hla
              · cases hla
              · rename_i tx htx
                split at hla
                · cases hla
                · rename_i ty hty
                  split at hla
                  · cases hla
                  · rename_i a b hab
                    split at hla
                    · cases hla
                    · rename_i d e hde
                      obtain ⟨u, eu, -⟩ := rk_iv_ok hab (rk_val hS htx)
                      obtain ⟨v, ev, -⟩ := rk_iv_ok hde (rk_val hS hty)
                      exact ⟨⟨u, eu⟩, ⟨v, ev⟩⟩
            obtain ⟨⟨u, eu⟩, ⟨v, ev⟩⟩ := hxy
            rw [eu, ev]
            refine rk_icmp hx hb hdg (rk_tgt_ok ho) (fun hc => ?_) (fun hc => ?_)
            · obtain ⟨S', hS', ho'⟩ := rk_brn_ok hS2 hla (by rw [eu, ev]; exact hc)
              exact hk _ (List.mem_append_left _ (rk_at_mem hS')) r f H locs ls _ ho'
            · obtain ⟨S', hS', ho'⟩ := rk_brn_ok hS2 hlb (by rw [eu, ev]; exact hc)
              exact hk _ (List.mem_append_right _ (rk_at_mem hS')) r f H locs ls _ ho'
      · cases h
    · cases h
  | ifCond cd o =>
    have := kone _ hlen; subst this
    obtain ⟨lo, sk, en, kn, fc, co⟩ := S
    simp only [rk_s1, rk_if0S] at h
    split at h
    · rename_i x sk'
      split at h
      · rename_i ho
        simp only [rk_two] at h
        split at h
        · cases h
        · rename_i la hla
          split at h
          · cases h
          · rename_i lb hlb
            cases h
            obtain ⟨st1, d1, hS1⟩ := rk_pop hS
            subst d1
            have hxy : ∃ a : Int32, r x = .int a := by
              simp only [rk_br0] at hla
              split at hla
              · cases hla
              · rename_i tx htx
                split at hla
                · cases hla
                · rename_i a b hab
                  obtain ⟨u, eu, -⟩ := rk_iv_ok hab (rk_val hS htx)
                  exact ⟨u, eu⟩
            obtain ⟨u, eu⟩ := hxy
            rw [eu]
            refine rk_if0 hx hb hdg (rk_tgt_ok ho) (fun hc => ?_) (fun hc => ?_)
            · obtain ⟨S', hS', ho'⟩ := rk_br0_ok hS1 hla (by rw [eu]; exact hc)
              exact hk _ (List.mem_append_left _ (rk_at_mem hS')) r f H locs ls _ ho'
            · obtain ⟨S', hS', ho'⟩ := rk_br0_ok hS1 hlb (by rw [eu]; exact hc)
              exact hk _ (List.mem_append_right _ (rk_at_mem hS')) r f H locs ls _ ho'
      · cases h
    · cases h
  | ifnull o =>
    have := kone _ hlen; subst this
    obtain ⟨lo, sk, en, kn, fc, co⟩ := S
    simp only [rk_s1] at h
    split at h
    · rename_i ho
      simp only [rk_nul] at h
      split at h
      · rename_i x sk'
        obtain ⟨st1, d1, hS1⟩ := rk_pop hS
        subst d1
        split at h
        · cases h
        · rename_i t ht
          have hv := rk_val hS ht
          split at h
          · cases h
            obtain ⟨a, ea, -⟩ := hv
            rw [ea]
            exact lv_ifnull hx hb hdg (hk _ (List.mem_singleton.mpr rfl) r f H locs ls _ hS1)
          · cases h
            rcases hv with ea | ⟨a, ea, hg⟩
            · rw [ea]
              exact lv_ifnullN hx hb hdg (rk_tgt_ok ho) (hk _ List.mem_cons_self r f H locs ls _ hS1)
            · rw [ea]
              exact lv_ifnull hx hb hdg (hk _ (List.mem_cons_of_mem _ (List.mem_singleton.mpr rfl)) r f H locs ls _ (rk_ref hS1 ⟨a, ea, hg⟩))
          · cases h
      · cases h
    · cases h
  | ifnonnull o =>
    have := kone _ hlen; subst this
    obtain ⟨lo, sk, en, kn, fc, co⟩ := S
    simp only [rk_s1] at h
    split at h
    · rename_i ho
      simp only [rk_nul] at h
      split at h
      · rename_i x sk'
        obtain ⟨st1, d1, hS1⟩ := rk_pop hS
        subst d1
        split at h
        · cases h
        · rename_i t ht
          have hv := rk_val hS ht
          split at h
          · cases h
            obtain ⟨a, ea, -⟩ := hv
            rw [ea]
            exact lv_ifnonnull hx hb hdg (rk_tgt_ok ho) (hk _ (List.mem_singleton.mpr rfl) r f H locs ls _ hS1)
          · cases h
            rcases hv with ea | ⟨a, ea, hg⟩
            · rw [ea]
              exact lv_ifnonnullN hx hb hdg (hk _ List.mem_cons_self r f H locs ls _ hS1)
            · rw [ea]
              exact lv_ifnonnull hx hb hdg (rk_tgt_ok ho) (hk _ (List.mem_cons_of_mem _ (List.mem_singleton.mpr rfl)) r f H locs ls _ (rk_ref hS1 ⟨a, ea, hg⟩))
          · cases h
      · cases h
    · cases h
  | tableswitch d lo0 hi offs =>
    obtain ⟨lo, sk, en, kn, fc, co⟩ := S
    simp only [rk_s1, rk_tsw] at h
    split at h
    · rename_i x sk'
      obtain ⟨st1, d1, hS1⟩ := rk_pop hS
      subst d1
      split at h
      · cases h
      · rename_i t ht
        split at h
        · cases h
        · rename_i a b hab
          obtain ⟨u, eu, q1, q2⟩ := rk_iv_ok hab (rk_val hS ht)
          split at h
          · rename_i hok
            simp only [Bool.and_eq_true, List.all_eq_true, decide_eq_true_eq] at hok
            obtain ⟨g1, g2, g3⟩ := hok
            cases h
            rw [eu]
            by_cases hin : lo0 ≤ u.toInt ∧ u.toInt ≤ hi
            · have hlt : (u.toInt - lo0).toNat < offs.toList.length := by omega
              have ho : offs.toList[(u.toInt - lo0).toNat]? = some offs.toList[(u.toInt - lo0).toNat] := List.getElem?_eq_getElem hlt
              have hmem : offs.toList[(u.toInt - lo0).toNat] ∈ offs.toList := List.getElem_mem hlt
              generalize offs.toList[(u.toInt - lo0).toNat] = o at ho hmem
              refine lv_tableIn hx hb (off := o) (tgt := rk_tgt pc o) hdg (by omega) (by omega) (by rw [← Array.getElem?_toList]; exact ho) (rk_tgt_ok (g2 _ hmem)) ?_
              refine hk _ (List.mem_append_right _ (rk_tc_mem (S := (lo, sk', en, kn, fc, co)) offs.toList lo0 u.toInt o hin.1 ho q1 q2)) r f H locs ls _ (rk_ref hS1 ?_)
              rw [eu]
              exact ⟨u, rfl, Int.le_refl _, Int.le_refl _⟩
            · refine lv_tableOut hx hb hdg (by omega) (rk_tgt_ok g1) ?_
              refine hk (rk_tgt pc d, (lo, sk', en, kn, fc, co)) (List.mem_append_left _ ?_) r f H locs ls _ hS1
              rw [if_neg (by omega)]
              exact List.mem_singleton.mpr rfl
          · cases h
    · cases h
  | _ => simp [rk_s1] at h
end RKS
