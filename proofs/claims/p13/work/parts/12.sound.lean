theorem rk_loc_ok {q : Nat × Nat} : ∀ (ts : List rk_AV) (k : Nat), q ∈ rk_loc k ts → ∃ (i : Nat) (t : rk_AV), q = (k + i, k + i) ∧ ts[i]? = some t ∧ t.1 < 4
  | [], k, h => by cases h
  | t :: l, k, h => by
    unfold rk_loc at h
    split at h
    · rename_i ht
      rw [Nat.blt_eq] at ht
      rcases List.mem_cons.mp h with rfl | h
      · exact ⟨0, t, rfl, rfl, ht⟩
      · obtain ⟨i, u, e1, e2, e3⟩ := rk_loc_ok l (k + 1) h
        exact ⟨i + 1, u, by rw [e1]; simp only [Prod.mk.injEq]; omega, by rw [List.getElem?_cons_succ]; exact e2, e3⟩
    · obtain ⟨i, u, e1, e2, e3⟩ := rk_loc_ok l (k + 1) h
      exact ⟨i + 1, u, by rw [e1]; simp only [Prod.mk.injEq]; omega, by rw [List.getElem?_cons_succ]; exact e2, e3⟩
theorem rk_fit2_ok {lo : List (Nat × Nat)} {en : List rk_AV} : ∀ (ts : List rk_AV) (k : Nat), rk_fit2 lo en k ts = true → ∀ (i : Nat) (t : rk_AV), ts[i]? = some t → t.1 < 4 → ∃ y u, rk_lk lo (k + i) = some y ∧ en[y]? = some u ∧ rk_le u t = true
  | [], k, _, i, t, h, _ => by simp at h
  | t0 :: l, k, hf, i, t, h, ht => by
    unfold rk_fit2 at hf
    rw [Bool.and_eq_true] at hf
    rcases i with _ | i
    · simp only [List.getElem?_cons_zero, Option.some.injEq] at h
      subst h
      have h1 := hf.1
      rw [if_pos (by rw [Nat.blt_eq]; exact ht)] at h1
      split at h1
      · cases h1
      · rename_i y hy
        split at h1
        · cases h1
        · rename_i u hu
          exact ⟨y, u, hy, hu, h1⟩
    · rw [List.getElem?_cons_succ] at h
      obtain ⟨y, u, e1, e2, e3⟩ := rk_fit2_ok l (k + 1) hf.2 i t h ht
      exact ⟨y, u, by rw [← e1]; congr 1; omega, e2, e3⟩
theorem rk_lv_eq {r r1 : Nat → Value} {n : Nat} (h : ∀ y, y < n → r y = r1 y) : ∀ l : List (Nat × Int), (∀ q ∈ l, q.1 < n) → rk_lv r l = rk_lv r1 l
  | [], _ => rfl
  | q :: l, hl => by
    unfold rk_lv
    rw [rk_lv_eq h l (fun p hp => hl p (List.mem_cons_of_mem _ hp)), h q.1 (hl q List.mem_cons_self)]
theorem rk_args_in {w : Value} : ∀ (vs : List Value) (k i : Nat), (∀ v ∈ vs, v.category = 1) → vs[i]? = some w → (k + i, w) ∈ lv_args k vs
  | [], k, i, _, h => by simp at h
  | v :: vs, k, i, hc, h => by
    unfold lv_args
    rw [if_neg (by rw [hc v List.mem_cons_self]; omega)]
    rcases i with _ | i
    · simp only [List.getElem?_cons_zero, Option.some.injEq] at h
      subst h
      exact List.mem_cons_self
    · rw [List.getElem?_cons_succ] at h
      have := rk_args_in vs (k + 1) i (fun u hu => hc u (List.mem_cons_of_mem _ hu)) h
      refine List.mem_cons_of_mem _ ?_
      rw [show k + (i + 1) = k + 1 + i by omega]
      exact this
theorem rk_sl_len : ∀ vs : List Value, (∀ v ∈ vs, v.category = 1) → (lg_sl vs).length = vs.length
  | [], _ => rfl
  | v :: vs, hc => by
    have ih := rk_sl_len vs (fun u hu => hc u (List.mem_cons_of_mem _ hu))
    unfold lg_sl at ih ⊢
    rw [List.flatMap_cons, List.length_append, ih, if_neg (by rw [hc v List.mem_cons_self]; omega)]
    simp only [List.length_cons, List.length_nil]
    omega
section RKD
variable {p : Program} {l : Launch} {e : Env} {R : Room} {s : State} {m : MethodId} {args : Array Value} {below : List Frame} {meth : Method} {c : Code} {cm sm : Nat} {Q : State → Prop} {nE : Nat} {r0 : Nat → Value}
variable {Pf : (Nat → va_E) → Prop} {K : Nat → rk_KD} {E : Nat → Nat → rk_AV} {tys : List (ClassId × FieldType)} {D : va_G} {A : Nat → Prop} {H0 : Heap} {G : Nat → Option Nat} {L : List Nat} {nL : Nat} {X : Int}
theorem rk_go_ok {wr : Nat → rk_Wr} {Lv : rk_Lvt} {Pw : rk_Pwt} (hPw : ∀ u, Pf u → Pw G u) {lv : Nat} (hL0 : ∀ f u, Lv G 0 f u → u = f) (hPc : ∀ (n : Nat) (f u : Nat → va_E), rk_lle n lv = true → Lv G n f u → Pf f → Pf u) (hPf : ∀ (f : Nat → va_E) (a k : Nat) (e : va_E) (x y : Int), wr lv k x y = true → G a = some k → rk_dif x y (f a) e → Pf f → Pf (va_up f a e)) {P : rk_Pg} (hx : p.tables.exec = Jvm.exec) (hb : c.code = P.1) (hml9 : c.maxLocals = nL) (hnL : P.2.1 = nL) {own : String} (hown : s.vm.findClass own = some m.cls) {Ts : List Jvm.Cond} (hts : ∀ w ∈ Ts, w.before args s = true) (htb : ∀ w ∈ rk_tbl, w ∈ Ts) (hK : va_K D vwCl tys s) {NU : State → Prop} (hNs : NU s) (hNw : ∀ (U : State) (locs : List Loc), va_S A H0 U.heap locs → s.WarmedH U.vm → NU U) (hNc : ∀ u U : State, u.vm = U.vm → u.heap = U.heap → NU u → NU U)
    (hfl : rk_FlOk s args Ts own P.2.2.1) {ER : rk_Er} (hER : ∀ k a b t, ER k a b = some t → ∀ j : Nat, a ≤ (j : Int) → (j : Int) ≤ b → E k j = t) {ap : Nat × Nat} (hap : ∀ cA C, tys[ap.1]? = some (cA, .object C) → ∃ q, vwCl[ap.2]? = some q ∧ q.1 = C)
    {base : Nat} {mt : Nat → rk_Mt} (hml : rk_MlOk s args R own mt P.2.2.2.1) {ctr : rk_Ctr} (hct : ∀ z avs alts C pu, ctr z avs = some (alts, C, pu) → rk_Met base l K E tys D NU Lv Pw (mt z) avs alts C pu) (hBL : ∀ a ∈ L, base ≤ a) (hB0 : base ≤ H0.size) (hcs : ∀ i v, P.2.2.2.2.1 i = some v → (Jvm.Cond.constant own i v).before args s = true) (hss : ∀ i k, P.2.2.2.2.2.1 i = some k → ∃ (tx : String) (a : Nat), vk_R own i tx a s ∧ (E k 0).2.1 = (a : Int)) (hac : ∀ idx, (P.2.2.2.2.2.2 idx = 1 → (Jvm.Cond.methodLink own idx arraycopyName).before args s = true ∧ (Jvm.Cond.native arraycopyName).before args s = true ∧ (Jvm.Cond.static arraycopyName).before args s = true ∧ (Jvm.Cond.initialized "java/lang/System").before args s = true ∧ 1 ≤ R.frames ∧ 8 + (nativeFrameWords "java/lang/System" "arraycopy" 5 + 11) ≤ R.locals) ∧ (P.2.2.2.2.2.2 idx = 2 → (Jvm.Cond.methodLink own idx Lib.Math.min.name).before args s = true ∧ (Jvm.Cond.static Lib.Math.min.name).before args s = true ∧ (Jvm.Cond.initialized "java/lang/Math").before args s = true ∧ (Jvm.Cond.code Lib.Math.min.name Lib.Math.min.code 2 (some .int)).before args s = true ∧ 1 ≤ R.frames ∧ 8 + 13 ≤ R.locals)) (hA : ∀ q, H0.size ≤ q → A q) (hcm : cm ≤ R.cells ∧ sm ≤ R.slots) (hX : 0 ≤ X) (hX2 : X ≤ rk_top) {rk : Nat} {alts : List rk_Alt} {cs : List rk_Cut} {eN : Nat} {tA : Option (Int × List (Nat × Int))} {cA : Int} {lA : List (Nat × Int)} (hcap : ∀ (en : List rk_AV) (co X' : Int) (r : Nat → Value), (∀ y, y < nE → r y = r0 y) → (∀ y t, en[y]? = some t → rk_has G X' t (r y)) → rk_cap cA lA en co = true → X + co ≤ rk_top)
    (Hret : ∀ (pc : Nat) (ins : Instr) (S : rk_St), decode P.1 pc = .ok (ins, 1) → rk_rt eN rk alts cA lA ins S = true → rk_G p l e R s m args below meth c cm sm Q (Pf, K, E, tys, D, A, H0, G, L, nL, X) nE r0 pc S)
    (Hcut : ∀ (B : rk_Cut) (S : rk_St), B ∈ cs → rk_ent tA cA lA B S = true → rk_G p l e R s m args below meth c cm sm Q (Pf, K, E, tys, D, A, H0, G, L, nL, X) nE r0 B.1 S) :
    ∀ (n pc : Nat) (S : rk_St), rk_go K ER ap ctr P wr lv rk alts cs eN tA cA lA nE n pc S = true → rk_G p l e R s m args below meth c cm sm Q (Pf, K, E, tys, D, A, H0, G, L, nL, X) nE r0 pc S
  | 0, _, _, h => by cases h
  | n + 1, pc, S, h => by
    unfold rk_go at h
    split at h
    · cases h
    · rename_i ins len hdg
      rw [Bool.and_eq_true] at h
      obtain ⟨hlen, h⟩ := h
      split at h
      · rename_i hret
        have hl1 : len = 1 := by
          cases ins <;> first | (simp [rk_isRet] at hret; done) | exact Nat.beq_eq ▸ hlen
        subst hl1
        exact Hret pc ins S hdg h
      · split at h
        · cases h
        · rename_i out hout
          have hk : ∀ q ∈ out, rk_G p l e R s m args below meth c cm sm Q (Pf, K, E, tys, D, A, H0, G, L, nL, X) nE r0 q.1 q.2 := by
            intro q hq
            have h1 := List.all_eq_true.mp h q hq
            split at h1
            · rename_i B hB
              obtain ⟨b1, b2⟩ := rk_fc_ok cs hB
              rw [← b2]
              exact Hcut B q.2 b1 h1
            · exact rk_go_ok hPw hL0 hPc hPf hx hb hml9 hnL hown hts htb hK hNs hNw hNc hfl hER hap hml hct hBL hB0 hcs hss hac hA hcm hX hX2 hcap Hret Hcut n q.1 q.2 h1
          have hX3 : X + 110000000 ≤ 2147483647 := by
            have : rk_top = 2000000000 := rfl
            omega
          subst hnL
          have kone : Nat.beq len 3 = true → len = 3 := fun h => Nat.beq_eq ▸ h
          unfold rk_step at hout
          split at hout
          · exact rk_s2_ok hPf hx hb hown hts hK hfl hER hap hX hdg hlen hout hk
          · exact rk_s2_ok hPf hx hb hown hts hK hfl hER hap hX hdg hlen hout hk
          · exact rk_s2_ok hPf hx hb hown hts hK hfl hER hap hX hdg hlen hout hk
          · exact rk_s2_ok hPf hx hb hown hts hK hfl hER hap hX hdg hlen hout hk
          · exact rk_s2_ok hPf hx hb hown hts hK hfl hER hap hX hdg hlen hout hk
          · exact rk_s2_ok hPf hx hb hown hts hK hfl hER hap hX hdg hlen hout hk
          · exact rk_s2_ok hPf hx hb hown hts hK hfl hER hap hX hdg hlen hout hk
          · have := kone hlen
            subst this
            exact rk_inv_ok hcap hPw hL0 hPc hx hb hml9 hown hts htb hK hNs hNw hNc hml hct hBL hB0 hA hcm hX (virt := true) hdg hout hk
          · have := kone hlen
            subst this
            split at hout
            · rename_i hi
              exact rk_acp_ok hPf hx hb hml9 hown hK hER hX ((hac _).1 hi) hdg hout hk
            · rename_i hi
              exact rk_mmn_ok hcm hx hb hml9 hown ((hac _).2 hi) hdg hout hk
            · exact rk_inv_ok hcap hPw hL0 hPc hx hb hml9 hown hts htb hK hNs hNw hNc hml hct hBL hB0 hA hcm hX (virt := false) hdg hout hk
          · exact rk_lsw_ok hx hb hdg hout hk
          · rename_i i _ _ _
            split at hout
            · exact rk_s1_ok hx hb hown hcs hX3 hdg hlen hout hk
            · have hl2 : len = 2 := Nat.beq_eq ▸ hlen
              subst hl2
              exact rk_ldS_ok hx hb hown hss hdg hout hk
          · exact rk_s1_ok hx hb hown hcs hX3 hdg hlen hout hk
end RKD
theorem rk_ms_ok {G : Nat → Option Nat} {X : Int} {r r1 : Nat → Value} {lo : List (Nat × Nat)} {fc : List (Nat × Nat × Nat × Int)} {en : List rk_AV} {A B : Int × List (Nat × Int)} {tk : Int} (h : rk_ms lo fc en A B tk = true) (hf : ∀ q ∈ fc, rk_fact r q) (he : ∀ y t, en[y]? = some t → rk_has G X t (r y)) (hr : ∀ q ∈ B.2, ∀ y, rk_lk lo q.1 = some y → r1 q.1 = r y) : B.1 + rk_lv r1 B.2 + tk ≤ A.1 + rk_lv r A.2 := by
  unfold rk_ms at h
  split at h
  · cases h
  · rename_i l2 k2 hs2
    split at h
    · cases h
    · rename_i w hw9
      rw [decide_eq_true_eq] at h
      have h1 := rk_sb_ok (r1 := r1) hf B.2 A.2 l2 _ k2 hr hs2
      have h2 := rk_low_ok he l2 w hw9
      omega
theorem rk_okL_ok {ts : List rk_AV} {c : Int} {l : List (Nat × Int)} (h : rk_okL ts c l = true) : (∀ q ∈ l, q.1 < ts.length ∧ ∃ a b, ts[q.1]? = some (0, a, b)) ∧ ∀ (G : Nat → Option Nat) (X : Int) (r : Nat → Value), (∀ y t, ts[y]? = some t → rk_has G X t (r y)) → 0 ≤ c + rk_lv r l := by
  unfold rk_okL at h
  rw [Bool.and_eq_true, List.all_eq_true] at h
  obtain ⟨h1, h2⟩ := h
  refine ⟨fun q hq => ?_, fun G X r hr => ?_⟩
  · have := h1 q hq
    rw [Bool.and_eq_true, Nat.blt_eq] at this
    refine ⟨this.1, ?_⟩
    have h3 := this.2
    split at h3
    · rename_i a b ht
      exact ⟨a, b, ht⟩
    · cases h3
  · split at h2
    · cases h2
    · rename_i w hw
      rw [decide_eq_true_eq] at h2
      have := rk_low_ok hr l w hw
      omega
theorem rk_xt_ok {lo : List (Nat × Nat)} {kn : List (Nat × Nat × Nat)} {i v : Nat} : ∀ (kf : List (Nat × Nat)) (k : Nat), (i, v) ∈ rk_xt lo kn k kf → ∃ (q : Nat) (z : Nat × Nat) (y : Nat), kf[q]? = some z ∧ i = k + q ∧ rk_lk lo z.1 = some y ∧ rk_kn y z.2 kn = some v
  | [], k, h => by cases h
  | z :: l, k, h => by
    unfold rk_xt at h
    have up : (∃ (q : Nat) (z' : Nat × Nat) (y : Nat), l[q]? = some z' ∧ i = (k + 1) + q ∧ rk_lk lo z'.1 = some y ∧ rk_kn y z'.2 kn = some v) → ∃ (q : Nat) (z' : Nat × Nat) (y : Nat), (z :: l)[q]? = some z' ∧ i = k + q ∧ rk_lk lo z'.1 = some y ∧ rk_kn y z'.2 kn = some v := by
      intro ⟨q, z', y, h1, h2, h3, h4⟩
      exact ⟨q + 1, z', y, by rw [List.getElem?_cons_succ]; exact h1, by omega, h3, h4⟩
    split at h
    · exact up (rk_xt_ok l (k + 1) h)
    · rename_i y hy
      split at h
      · exact up (rk_xt_ok l (k + 1) h)
      · rename_i v' hv
        rcases List.mem_cons.mp h with h | h
        · cases h
          exact ⟨0, z, y, rfl, rfl, hy, hv⟩
        · exact up (rk_xt_ok l (k + 1) h)
theorem rk_kn0_ok {w : Nat × Nat × Nat} : ∀ (kf : List (Nat × Nat)) (k : Nat), w ∈ rk_kn0 k kf → ∃ (q : Nat) (z : Nat × Nat), kf[q]? = some z ∧ w = (z.1, z.2, k + q)
  | [], k, h => by cases h
  | z :: l, k, h => by
    unfold rk_kn0 at h
    rcases List.mem_cons.mp h with h | h
    · exact ⟨0, z, rfl, h⟩
    · obtain ⟨q, z', h1, h2⟩ := rk_kn0_ok l (k + 1) h
      exact ⟨q + 1, z', by rw [List.getElem?_cons_succ]; exact h1, by rw [h2]; simp only [Prod.mk.injEq, true_and]; omega⟩
theorem rk_lk_app {i y : Nat} {xs : List (Nat × Nat)} : ∀ lo : List (Nat × Nat), rk_lk lo i = some y → rk_lk (lo ++ xs) i = some y
  | [], h => by cases h
  | q :: l, h => by
    rw [List.cons_append]
    unfold rk_lk at h ⊢
    split
    · rename_i hq
      rw [if_pos hq] at h
      exact h
    · rename_i hq
      rw [if_neg hq] at h
      exact rk_lk_app l h
