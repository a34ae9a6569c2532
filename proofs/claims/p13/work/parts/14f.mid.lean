/-- a method's certificate, from a place within it -/
def rk_chkM (K : Nat → rk_KD) (ER : rk_Er) (ap : Nat × Nat) (ctr : rk_Ctr) (P : rk_Pg) (wr : Nat → rk_Wr) (lv : Nat) (rk pc0 : Nat) (ts : List rk_AV) (alts : List rk_Alt) (C : Int) (cs : List rk_Cut) (fuel : Nat) : Bool :=
  Nat.ble ts.length P.2.1 && (decide (0 ≤ C) && (rk_tOk ts && (rk_go K ER ap ctr P wr lv rk alts cs 0 none C [] ts.length fuel pc0 (rk_S0 ts.length ts []) &&
    cs.all (fun B => rk_tOk B.2.1 && (Nat.ble (rk_nT B) P.2.1 && (Nat.ble B.2.2.1.length B.2.1.length && (rk_okK P.2.1 (rk_nT B) B.2.1 B.2.2.1 && (rk_okL B.2.1 B.2.2.2.1.1 B.2.2.2.1.2 && (rk_okL B.2.1 B.2.2.2.2.1 B.2.2.2.2.2 &&
      rk_go K ER ap ctr P wr lv rk alts cs 0 (some B.2.2.2.1) B.2.2.2.2.1 B.2.2.2.2.2 B.2.1.length fuel B.1 (rk_S0 (rk_nT B) B.2.1 B.2.2.1))))))))))
set_option maxHeartbeats 1000000 in
theorem rk_mid {base : Nat} {l : Launch} {K : Nat → rk_KD} {E : Nat → Nat → rk_AV} {tys : List (ClassId × FieldType)} {D : va_G} {NU : State → Prop} {ER : rk_Er} (hER : ∀ k a b t, ER k a b = some t → ∀ j : Nat, a ≤ (j : Int) → (j : Int) ≤ b → E k j = t) {ap : Nat × Nat} (hap : ∀ cA C, tys[ap.1]? = some (cA, .object C) → ∃ q, vwCl[ap.2]? = some q ∧ q.1 = C) (hNc : ∀ u U : State, u.vm = U.vm → u.heap = U.heap → NU u → NU U)
    {Lv : rk_Lvt} {wr : Nat → rk_Wr} (hLv : rk_LvOk Lv wr) {Pw : rk_Pwt} {mt : Nat → rk_Mt} {ctr : rk_Ctr} (hct : ∀ z avs alts C pu, ctr z avs = some (alts, C, pu) → rk_Met base l K E tys D NU Lv Pw (mt z) avs alts C pu) {M : rk_Mt} {P : rk_Pg} (hP1 : P.1 = M.2.1) (hP2 : P.2.1 = M.2.2.1)
    {p : Program} {e : Env} {R : Room} {s : State} {m : MethodId} {args : Array Value} {below : List Frame} {meth : Method} {c : Code} {A : Nat → Prop} {G : Nat → Option Nat} {L : List Nat} (hx : p.tables.exec = Jvm.exec) (hb : c.code = M.2.1) (hml9 : c.maxLocals = M.2.2.1) (hr : meth.sig.returnType = M.2.2.2.1) (hlocks : meth.locks = false) (hown : s.vm.findClass M.1.cls = some m.cls) (hts : ∀ w ∈ rk_ws M, w.before args s = true) (hK : va_K D vwCl tys s) (hN : NU s) (hNw : ∀ (U : State) (locs : List Loc), va_S A s.heap U.heap locs → s.WarmedH U.vm → NU U)
    (hfl : rk_FlOk s args (rk_ws M) M.1.cls P.2.2.1) (hml : rk_MlOk s args R M.1.cls mt P.2.2.2.1) (hcs : ∀ i v, P.2.2.2.2.1 i = some v → (Jvm.Cond.constant M.1.cls i v).before args s = true) (hss : ∀ i k, P.2.2.2.2.2.1 i = some k → ∃ (tx : String) (a : Nat), vk_R M.1.cls i tx a s ∧ (E k 0).2.1 = (a : Int))
    (hac : ∀ idx, (P.2.2.2.2.2.2 idx = 1 → (Jvm.Cond.methodLink M.1.cls idx arraycopyName).before args s = true ∧ (Jvm.Cond.native arraycopyName).before args s = true ∧ (Jvm.Cond.static arraycopyName).before args s = true ∧ (Jvm.Cond.initialized "java/lang/System").before args s = true ∧ 1 ≤ R.frames ∧ 8 + (nativeFrameWords "java/lang/System" "arraycopy" 5 + 11) ≤ R.locals) ∧ (P.2.2.2.2.2.2 idx = 2 → (Jvm.Cond.methodLink M.1.cls idx Lib.Math.min.name).before args s = true ∧ (Jvm.Cond.static Lib.Math.min.name).before args s = true ∧ (Jvm.Cond.initialized "java/lang/Math").before args s = true ∧ (Jvm.Cond.code Lib.Math.min.name Lib.Math.min.code 2 (some .int)).before args s = true ∧ 1 ≤ R.frames ∧ 8 + 13 ≤ R.locals))
    (hBL : ∀ a ∈ L, base ≤ a) (hBs : base ≤ s.heap.size) (hA : ∀ q : Nat, s.heap.size ≤ q → A q) {cm sm : Nat} (hcm : cm ≤ R.cells ∧ sm ≤ R.slots)
    {lv : Nat} (hPw : ∀ (G : Nat → Option Nat) (f u : Nat → va_E), Lv G lv f u → Pw G f → Pw G u) {rk : Nat} (hrt : rk_retOk rk M.2.2.2.1) {alts : List rk_Alt} {C : Int} {cs : List rk_Cut} {fuel : Nat} {Pq : Option Value → (Nat → va_E) → Prop}
    {X : Int} {f : Nat → va_E} {H : Heap} {locs : List Loc} (hX : 0 ≤ X) (hXC : X + C ≤ rk_top) (hTY : rk_TY K E tys G X L f) (hPw0 : Pw G f) (hP : va_P D vwCl (va_pl L f) H) (hD : va_D A (va_pl L f)) (hS : va_S A s.heap H locs)
    (hq : ∀ v u, rk_alt G (X + C) ([] : List Value) alts v → rk_TY K E tys G (X + C) L u → Lv G lv f u → Pq v u)
    {pc0 : Nat} {ts : List rk_AV} {lo : List (Nat × Value)} (vs : Nat → Value) (hlo : ∀ i t, ts[i]? = some t → t.1 < 4 → (i, vs i) ∈ lo) (hty : ∀ i t, ts[i]? = some t → rk_has G X t (vs i)) (h : rk_chkM K ER ap ctr P wr lv rk pc0 ts alts C cs fuel = true) : rv_G p l e R s m args below meth c (MQ below (rk_Q Pq (rk_B D tys L A) A) args s cm sm A) M.2.2.1 cm sm H locs pc0 [] lo := by
  unfold rk_chkM at h
  simp only [Bool.and_eq_true, Nat.ble_eq, decide_eq_true_eq] at h
  obtain ⟨w1, w2, w3, w4, w5⟩ := h
  have hb' : c.code = P.1 := by rw [hP1]; exact hb
  let Qf := MQ below (rk_Q Pq (rk_B D tys L A) A) args s cm sm A
  -- the end of the method
  have Hret : ∀ (X1 : Int) (nE : Nat) (r0 : Nat → Value) (eN : Nat) (cA : Int) (lA : List (Nat × Int)), 0 ≤ X1 → (∀ q ∈ lA, q.1 < nE) → X1 + (cA + rk_lv r0 lA) ≤ X + C → (∀ i, i < eN → i < nE ∧ ([] : List Value)[i]? = some (r0 i)) → ∀ (pc : Nat) (ins : Instr) (S : rk_St), decode P.1 pc = .ok (ins, 1) → rk_rt eN rk alts cA lA ins S = true → rk_G p l e R s m args below meth c cm sm Qf (fun u => Lv G lv f u, K, E, tys, D, A, s.heap, G, L, M.2.2.1, X1) nE r0 pc S := by
    intro X1 nE r0 eN cA lA hX1 hlA hM heN pc ins S hdg hrr r f1 H1 locs1 ls1 st1 hon
    obtain ⟨lo, sk, en, kn, fc, co⟩ := S
    unfold rk_rt at hrr
    rw [Bool.and_eq_true] at hrr
    obtain ⟨hc1, hrr⟩ := hrr
    have hco : X1 + co ≤ X + C := by
      split at hc1
      · cases hc1
      · rename_i w hw
        rw [decide_eq_true_eq] at hc1
        have h1 := rk_low_ok hon.1 lA w hw
        rw [rk_lv_eq hon.2.2.2.2.2.1 lA hlA] at h1
        omega
    obtain ⟨o1, o2, o3, o4, o5, o6, o7, o8⟩ := hon
    obtain ⟨oP, oD, oS, oT, oPf⟩ := o8
    have hargs : ∀ q : Nat × rk_AV, (Nat.blt q.1 eN && (match en[q.1]? with
        | none => false
        | some u => rk_le u q.2)) = true → ∃ w, ([] : List Value)[q.1]? = some w ∧ rk_has G (X + C) q.2 w := by
      intro q hq
      rw [Bool.and_eq_true, Nat.blt_eq] at hq
      obtain ⟨q1, q2⟩ := hq
      obtain ⟨b1, b2⟩ := heN _ q1
      refine ⟨r0 q.1, b2, ?_⟩
      split at q2
      · cases q2
      · rename_i u hu
        rw [← o6 _ b1]
        have h3 : rk_has G (X1 + co) u (r q.1) := o1 _ _ hu
        exact rk_has_X hco (rk_le_ok (by omega) q2 h3)
    have hfin : ∀ (v : Option Value), rk_alt G (X + C) ([] : List Value) alts v → ∀ t : State, t.heap = H1 → s.WarmedH t.vm → rk_Q Pq (rk_B D tys L A) A args s (.returned v) t := fun v hv t ht hW => ⟨⟨v, f1, rfl, hq v f1 hv (rk_TY_X hco oT) oPf, ⟨by rw [ht]; exact oP, va_K.moved hW.alike hK, oD⟩⟩, oS.F ht⟩
    have haok : ∀ (t : rk_AV) (w : Value), rk_has G (X1 + co) t w → alts.any (rk_aOK eN en t) = true → rk_alt G (X + C) ([] : List Value) alts (some w) := by
      intro t w hw hany
      rw [List.any_eq_true] at hany
      obtain ⟨a, ha, hok⟩ := hany
      unfold rk_aOK at hok
      rw [Bool.and_eq_true, Bool.and_eq_true, List.all_eq_true] at hok
      obtain ⟨h9, hle, hargs9⟩ := hok
      refine ⟨a, ha, ?_, fun q hq => hargs q (hargs9 q hq)⟩
      rw [if_neg (by
        intro h0
        rw [h0] at h9
        simp at h9)]
      exact ⟨w, rfl, rk_has_X hco (rk_le_ok (by omega) hle hw)⟩
    rw [hP1] at hdg
    split at hrr
    · rw [Bool.and_eq_true, Bool.and_eq_true, Nat.beq_eq] at hrr
      obtain ⟨k0, k1, k2⟩ := hrr
      have hsk : sk = [] := by
        cases sk with
        | nil => rfl
        | cons _ _ => simp at k1
      subst hsk
      rw [o5]
      refine W.vret hx hb (by rw [hr]; exact hrt.1 k0) (hfin none ?_) oS.2.2 hdg
      rw [List.any_eq_true] at k2
      obtain ⟨a, ha, hok⟩ := k2
      unfold rk_vOK at hok
      rw [Bool.and_eq_true, List.all_eq_true, Nat.beq_eq] at hok
      refine ⟨a, ha, ?_, fun q hq => hargs q (hok.2 q hq)⟩
      rw [if_pos hok.1]
    · split at hrr
      · rename_i y
        split at hrr
        · cases hrr
        · rename_i t ht
          rw [Bool.and_eq_true, Bool.or_eq_true, Bool.and_eq_true, Bool.and_eq_true, Nat.beq_eq, Nat.beq_eq] at hrr
          obtain ⟨hty, hany⟩ := hrr
          have hv : rk_has G (X1 + co) t (r y) := o1 _ _ ht
          rw [o5]
          rcases hty with ⟨k0, k1⟩ | ⟨k0, k1⟩
          · obtain ⟨x, ex⟩ := rk_isI_ok k1 hv
            simp only [List.map_cons, List.map_nil]
            rw [ex]
            rw [ex] at hv
            exact W.iret hx hb (by rw [hr]; exact hrt.2.1 k0) (hfin _ (haok t _ hv hany)) oS.2.2 hdg
          · obtain ⟨x, ex, p1, p2⟩ := rk_le_ok (X := X1 + co) (by omega) k1 hv
            simp only [List.map_cons, List.map_nil]
            rw [ex]
            rw [ex] at hv
            have hx01 : x = 0 ∨ x = 1 := by
              rcases (by omega : x.toInt = 0 ∨ x.toInt = 1) with h0 | h0
              · exact Or.inl (Int32.toInt_inj.mp h0)
              · exact Or.inr (Int32.toInt_inj.mp h0)
            refine W.zret (ty := .boolean) hx hb (by rw [hr]; exact hrt.2.2.1 k0) ?_ (hfin _ (haok t _ hv hany)) oS.2.2 hdg
            rcases hx01 with rfl | rfl <;> rfl
      · cases hrr
    · split at hrr
      · rename_i y
        split at hrr
        · cases hrr
        · rename_i t ht
          rw [Bool.and_eq_true, Bool.and_eq_true, Nat.beq_eq] at hrr
          obtain ⟨k0, k1, hany⟩ := hrr
          have hv : rk_has G (X1 + co) t (r y) := o1 _ _ ht
          rw [o5]
          obtain ⟨rt, hrt1, hrt2⟩ := hrt.2.2.2 k0
          exact W.aret hx hb (by rw [hr]; exact hrt1) hrt2 (rk_isR_ok k1 hv) (hfin _ (haok t _ hv hany)) oS.2.2 hdg
      · cases hrr
    · cases hrr
  -- the walk from a cut
  have Hcap : ∀ (X1 : Int) (nE : Nat) (r0 : Nat → Value) (cA : Int) (lA : List (Nat × Int)), (∀ q ∈ lA, q.1 < nE) → X1 + (cA + rk_lv r0 lA) ≤ X + C → ∀ (en : List rk_AV) (co X' : Int) (r : Nat → Value), (∀ y, y < nE → r y = r0 y) → (∀ y t, en[y]? = some t → rk_has G X' t (r y)) → rk_cap cA lA en co = true → X1 + co ≤ rk_top := by
    intro X1 nE r0 cA lA hlA hM en co X' r hr0 hen hcap
    unfold rk_cap at hcap
    split at hcap
    · cases hcap
    · rename_i w hw
      rw [decide_eq_true_eq] at hcap
      have h1 := rk_low_ok hen lA w hw
      rw [rk_lv_eq hr0 lA hlA] at h1
      omega
  obtain ⟨hLr, hL0, hLc, hLw⟩ := hLv G
  have Go : ∀ (X1 : Int) (nE : Nat) (r0 : Nat → Value) (eN : Nat) (tA : Option (Int × List (Nat × Int))) (cA : Int) (lA : List (Nat × Int)), 0 ≤ X1 → 0 ≤ cA + rk_lv r0 lA → (∀ q ∈ lA, q.1 < nE) → X1 + (cA + rk_lv r0 lA) ≤ X + C → (∀ i, i < eN → i < nE ∧ ([] : List Value)[i]? = some (r0 i)) → (∀ (B : rk_Cut) (S : rk_St), B ∈ cs → rk_ent tA cA lA B S = true → rk_G p l e R s m args below meth c cm sm Qf (fun u => Lv G lv f u, K, E, tys, D, A, s.heap, G, L, M.2.2.1, X1) nE r0 B.1 S) → ∀ (pc : Nat) (S : rk_St), rk_go K ER ap ctr P wr lv rk alts cs eN tA cA lA nE fuel pc S = true → rk_G p l e R s m args below meth c cm sm Qf (fun u => Lv G lv f u, K, E, tys, D, A, s.heap, G, L, M.2.2.1, X1) nE r0 pc S := by
    intro X1 nE r0 eN tA cA lA hX1 hM0 hlA hM heN Hcut pc S hgo
    exact rk_go_ok (Pf := fun u => Lv G lv f u) (fun u hu => hPw G f u hu hPw0) hL0 (fun n f1 u h1 h2 h3 => hLc lv n f f1 u h1 h2 h3) (fun f1 a k e9 x y h1 h2 h3 h4 => hLw lv f f1 a k e9 x y h1 h2 h3 h4) hx hb' hml9 hP2 hown hts (fun w hw => List.mem_cons_of_mem _ hw) hK hN hNw hNc hfl hER hap hml hct hBL hBs hcs hss hac hA hcm hX1 (by omega) (Hcap X1 nE r0 cA lA hlA hM) (Hret X1 nE r0 eN cA lA hX1 hlA hM heN) Hcut fuel pc S hgo
  -- what a cut's own rows say
  have hcut : ∀ B ∈ cs, rk_okK P.2.1 (rk_nT B) B.2.1 B.2.2.1 = true ∧ rk_okL B.2.1 B.2.2.2.1.1 B.2.2.2.1.2 = true ∧ rk_okL B.2.1 B.2.2.2.2.1 B.2.2.2.2.2 = true ∧ B.2.2.1.length ≤ B.2.1.length ∧ rk_go K ER ap ctr P wr lv rk alts cs 0 (some B.2.2.2.1) B.2.2.2.2.1 B.2.2.2.2.2 B.2.1.length fuel B.1 (rk_S0 (rk_nT B) B.2.1 B.2.2.1) = true := by
    intro B hB
    have hBc := List.all_eq_true.mp w5 B hB
    rw [Bool.and_eq_true, Bool.and_eq_true, Bool.and_eq_true, Bool.and_eq_true, Bool.and_eq_true, Bool.and_eq_true] at hBc
    obtain ⟨-, -, c3, c4, c5, c6, c7⟩ := hBc
    exact ⟨c4, c5, c6, Nat.ble_eq ▸ c3, c7⟩
  -- what holds as a cut is come to
  have Arr : ∀ (X1 : Int) (nE : Nat) (r0 : Nat → Value) (tA : Option (Int × List (Nat × Int))) (cA : Int) (lA : List (Nat × Int)), 0 ≤ X1 → (∀ q ∈ lA, q.1 < nE) → (∀ a, tA = some a → ∀ q ∈ a.2, q.1 < nE) → ∀ (B : rk_Cut) (S : rk_St), B ∈ cs → rk_ent tA cA lA B S = true → ∀ (r : Nat → Value) (f2 : Nat → va_E) (H2 : Heap) (locs2 : List Loc) (ls2 : Array Slot) (st2 : List Value), rk_on (fun u => Lv G lv f u, K, E, tys, D, A, s.heap, G, L, M.2.2.1, X1) nE r0 r S f2 H2 locs2 ls2 st2 →
      ∃ (r1 : Nat → Value) (co : Int), st2 = [] ∧ 0 ≤ co ∧ 0 ≤ B.2.2.2.2.1 + rk_lv r1 B.2.2.2.2.2 ∧ 0 ≤ B.2.2.2.1.1 + rk_lv r1 B.2.2.2.1.2 ∧ B.2.2.2.2.1 + rk_lv r1 B.2.2.2.2.2 + co ≤ cA + rk_lv r0 lA ∧ (∀ a, tA = some a → B.2.2.2.1.1 + rk_lv r1 B.2.2.2.1.2 + 1 ≤ a.1 + rk_lv r0 a.2) ∧ (∀ y t, B.2.1[y]? = some t → rk_has G (X1 + co) t (r1 y)) ∧ lv_has ls2 M.2.2.1 ((rk_loc 0 (B.2.1.take (rk_nT B))).map fun q => (q.1, r1 q.2)) ∧ (∀ q ∈ rk_kn0 (rk_nT B) B.2.2.1, ∃ a, r1 q.1 = .ref a ∧ rk_kf r1 (f2 a) q.2.1 = some (r1 q.2.2)) ∧ rk_w (fun u => Lv G lv f u, K, E, tys, D, A, s.heap, G, L, M.2.2.1, X1 + co) 0 f2 H2 locs2 := by
    intro X1 nE r0 tA cA lA hX1 hlA htA B S hB hent r f2 H2 locs2 ls2 st2 hon
    obtain ⟨ck, ct, cc9, cl9, -⟩ := hcut B hB
    have ct := rk_okL_ok ct
    have cc9 := rk_okL_ok cc9
    unfold rk_okK at ck
    rw [Bool.and_eq_true, Bool.and_eq_true, List.all_eq_true, List.all_eq_true, Bool.or_eq_true, Nat.beq_eq] at ck
    obtain ⟨ck0, ck1, ck2⟩ := ck
    obtain ⟨lo, sk, en, kn, fc, co⟩ := S
    rcases sk with _ | ⟨y0, sk⟩
    · simp only [rk_ent] at hent
      rw [Bool.and_eq_true, Bool.and_eq_true] at hent
      obtain ⟨hfit, hms, hmt⟩ := hent
      obtain ⟨o1, o2, o3, o4, o5, o6, o7, o8⟩ := hon
      generalize hlo2 : lo ++ rk_xt lo kn (rk_nT B) B.2.2.1 = lo2 at hfit hms hmt
      have hf2 := rk_fit2_ok B.2.1 0 hfit
      -- the locals as the new start's symbols
      let r1 : Nat → Value := fun i => if (match B.2.1[i]? with
        | some t => Nat.blt t.1 4
        | none => false) then (match rk_lk lo2 i with
          | some y => r y
          | none => .null) else .null
      have hr1 : ∀ (i : Nat) (t : rk_AV), B.2.1[i]? = some t → t.1 < 4 → ∃ y u, rk_lk lo2 i = some y ∧ en[y]? = some u ∧ rk_le u t = true ∧ r1 i = r y := by
        intro i t ht h4
        obtain ⟨y, u, e1, e2, e3⟩ := hf2 i t ht h4
        rw [Nat.zero_add] at e1
        refine ⟨y, u, e1, e2, e3, ?_⟩
        show (if (match B.2.1[i]? with
          | some t => Nat.blt t.1 4
          | none => false) then (match rk_lk lo2 i with
            | some y => r y
            | none => .null) else .null) = r y
        rw [ht]
        dsimp only
        rw [if_pos (by rw [Nat.blt_eq]; exact h4), e1]
      have hty : ∀ y t, B.2.1[y]? = some t → rk_has G (X1 + co) t (r1 y) := by
        intro y t ht
        by_cases h4 : t.1 < 4
        · obtain ⟨z, u, e1, e2, e3, e4⟩ := hr1 y t ht h4
          rw [e4]
          exact rk_le_ok (by omega) e3 (o1 _ _ e2)
        · have hnull : r1 y = .null := by
            show (if (match B.2.1[y]? with
              | some t => Nat.blt t.1 4
              | none => false) then (match rk_lk lo2 y with
                | some y => r y
                | none => .null) else .null) = .null
            rw [ht]
            dsimp only
            rw [if_neg (by rw [Nat.blt_eq]; exact h4)]
          rw [hnull]
          obtain ⟨n, a, b⟩ := t
          dsimp only at h4
          rcases n with _ | _ | _ | _ | n
          · omega
          · omega
          · omega
          · omega
          · exact Or.inl rfl
      have hsb : ∀ (l9 : List (Nat × Int)), (∀ q ∈ l9, q.1 < B.2.1.length ∧ ∃ a b, B.2.1[q.1]? = some (0, a, b)) → ∀ q ∈ l9, ∀ y, rk_lk lo2 q.1 = some y → r1 q.1 = r y := by
        intro l9 h9 q hq y hy
        obtain ⟨g1, a, b, ht⟩ := h9 q hq
        obtain ⟨z, u, e1, e2, e3, e4⟩ := hr1 q.1 _ ht (by simp)
        rw [e4]
        rw [hy] at e1
        cases e1
        rfl
      have hin : ∀ i y, i < rk_nT B → rk_lk lo2 i = some y → (i, y) ∈ lo := by
        intro i y hi hy
        have := rk_lk_ok lo2 hy
        rw [← hlo2] at this
        rcases List.mem_append.mp this with h | h
        · exact h
        · obtain ⟨q, z, y', -, e2, -⟩ := rk_xt_ok _ _ h
          omega
      refine ⟨r1, co, o5, o7.1, cc9.2 G _ r1 hty, ct.2 G _ r1 hty, ?_, ?_, hty, ?_, ?_, ?_⟩
      · have := rk_ms_ok (r1 := r1) hms o3 o1 (hsb _ cc9.1)
        dsimp only at this
        rw [rk_lv_eq o6 lA hlA] at this
        exact this
      · intro a ha
        subst ha
        have := rk_ms_ok (r1 := r1) hmt o3 o1 (hsb _ ct.1)
        rw [rk_lv_eq o6 a.2 (htA a rfl)] at this
        exact this
      · refine ⟨o4.1, o4.2.1, fun q hq => ?_⟩
        obtain ⟨z, hz, rfl⟩ := List.mem_map.mp hq
        obtain ⟨i, t, e1, e2, e3⟩ := rk_loc_ok _ 0 hz
        rw [Nat.zero_add] at e1
        subst e1
        have hiT : i < rk_nT B := by
          have := (List.getElem?_eq_some_iff.mp e2).1
          rw [List.length_take] at this
          omega
        rw [List.getElem?_take_of_lt hiT] at e2
        obtain ⟨y, u, d1, d2, d3, d4⟩ := hr1 i t e2 e3
        dsimp only
        rw [d4]
        exact o4.2.2 (i, r y) (List.mem_map.mpr ⟨(i, y), hin i y hiT d1, rfl⟩)
      · intro q hq
        obtain ⟨k, z, hz, rfl⟩ := rk_kn0_ok _ _ hq
        dsimp only
        have hz2 := ck1 z (List.mem_of_getElem? hz)
        rw [Bool.and_eq_true, Bool.and_eq_true, Nat.blt_eq, Nat.blt_eq] at hz2
        obtain ⟨z1, z2, z3⟩ := hz2
        have hkl : k < B.2.2.1.length := (List.getElem?_eq_some_iff.mp hz).1
        have hpl : rk_nT B + k < B.2.1.length := by
          unfold rk_nT
          omega
        have htp : B.2.1[rk_nT B + k]? = some B.2.1[rk_nT B + k] := List.getElem?_eq_getElem hpl
        have ht4 : (B.2.1[rk_nT B + k]).1 < 4 := by
          have := ck2 (B.2.1[rk_nT B + k]) (by
            rw [List.mem_iff_getElem?]
            exact ⟨k, by rw [List.getElem?_drop]; exact htp⟩)
          rw [Nat.blt_eq] at this
          exact this
        obtain ⟨v, u, d1, d2, d3, d4⟩ := hr1 _ _ htp ht4
        have hmem := rk_lk_ok lo2 d1
        rw [← hlo2] at hmem
        have hx9 : ∃ y, rk_lk lo z.1 = some y ∧ rk_kn y z.2 kn = some v := by
          rcases List.mem_append.mp hmem with h | h
          · -- a local beyond the locals: it isn't there
            have h5 := lv_lt (o4.2.2 (rk_nT B + k, r v) (List.mem_map.mpr ⟨(rk_nT B + k, v), h, rfl⟩))
            rw [o4.1] at h5
            have h6 : rk_fn (fun u => Lv G lv f u, K, E, tys, D, A, s.heap, G, L, M.2.2.1, X1) = M.2.2.1 := rfl
            rw [h6] at h5
            rcases ck0 with h7 | h7
            · rw [List.isEmpty_iff] at h7
              rw [h7] at hkl
              simp at hkl
            · omega
          · obtain ⟨q, z', y', e1, e2, e3, e4⟩ := rk_xt_ok _ _ h
            have : q = k := by omega
            subst this
            rw [hz] at e1
            cases e1
            exact ⟨y', e3, e4⟩
        obtain ⟨y, hy1, hy2⟩ := hx9
        obtain ⟨a, b1, b2⟩ := o2 _ (rk_kn_ok kn hy2)
        dsimp only at b1 b2
        have hrz : r1 z.1 = r y := by
          split at z3
          · rename_i t ht
            rw [Nat.blt_eq] at z3
            obtain ⟨y9, u9, g1, g2, g3, g4⟩ := hr1 z.1 t ht z3
            have h1 := rk_lk_app (xs := rk_xt lo kn (rk_nT B) B.2.2.1) lo hy1
            rw [hlo2, g1] at h1
            cases h1
            exact g4
          · cases z3
        refine ⟨a, by rw [hrz]; exact b1, ?_⟩
        rw [d4, ← b2]
        unfold rk_kf
        rw [if_pos z2, if_pos z2]
      · obtain ⟨a1, a2, a3, a4, a5⟩ := o8
        refine ⟨a1, a2, a3, ?_, a5⟩
        rw [Int.add_zero]
        exact a4
    · simp [rk_ent] at hent
  -- cuts by their measure
  have Cuts : ∀ (n : Nat) (B : rk_Cut), B ∈ cs → ∀ (X1 : Int) (r1 : Nat → Value) (f1 : Nat → va_E) (H1 : Heap) (locs1 : List Loc) (ls1 : Array Slot), 0 ≤ X1 → 0 ≤ B.2.2.2.2.1 + rk_lv r1 B.2.2.2.2.2 → (B.2.2.2.1.1 + rk_lv r1 B.2.2.2.1.2).toNat < n → X1 + (B.2.2.2.2.1 + rk_lv r1 B.2.2.2.2.2) ≤ X + C → (∀ y t, B.2.1[y]? = some t → rk_has G X1 t (r1 y)) → lv_has ls1 M.2.2.1 ((rk_loc 0 (B.2.1.take (rk_nT B))).map fun q => (q.1, r1 q.2)) → (∀ q ∈ rk_kn0 (rk_nT B) B.2.2.1, ∃ a, r1 q.1 = .ref a ∧ rk_kf r1 (f1 a) q.2.1 = some (r1 q.2.2)) → rk_w (fun u => Lv G lv f u, K, E, tys, D, A, s.heap, G, L, M.2.2.1, X1) 0 f1 H1 locs1 → W p l e R s m args below meth c H1 locs1 cm sm Qf (F0 m B.1 ls1 []) := by
    intro n
    induction n with
    | zero => intro B _ X1 r1 f1 H1 locs1 ls1 _ _ h9; omega
    | succ n ih =>
      intro B hB X1 r1 f1 H1 locs1 ls1 hX1 hM0 hn hM hty hls hkn hw
      obtain ⟨-, ct, cc9, -, c5⟩ := hcut B hB
      have ct := rk_okL_ok ct
      have cc9 := rk_okL_ok cc9
      have hon : rk_on (fun u => Lv G lv f u, K, E, tys, D, A, s.heap, G, L, M.2.2.1, X1) B.2.1.length r1 r1 (rk_S0 (rk_nT B) B.2.1 B.2.2.1) f1 H1 locs1 ls1 [] := by
        refine ⟨fun y t ht => ?_, hkn, fun q hq => (by cases hq), hls, rfl, fun _ _ => rfl, ⟨Int.le_refl 0, by omega⟩, hw⟩
        show rk_has G (X1 + 0) t (r1 y)
        rw [Int.add_zero]
        exact hty y t ht
      refine Go X1 B.2.1.length r1 0 (some B.2.2.2.1) B.2.2.2.2.1 B.2.2.2.2.2 hX1 hM0 (fun q hq => (cc9.1 q hq).1) hM (fun i hi => by omega) ?_ B.1 (rk_S0 (rk_nT B) B.2.1 B.2.2.1) c5 r1 f1 H1 locs1 ls1 [] hon
      intro B2 S2 hB2 hent r f2 H2 locs2 ls2 st2 hon2
      obtain ⟨r2, co, e1, e2, e3, e3t, e4, e4t, e5, e6, e6k, e7⟩ := Arr X1 B.2.1.length r1 (some B.2.2.2.1) B.2.2.2.2.1 B.2.2.2.2.2 hX1 (fun q hq => (cc9.1 q hq).1) (fun a ha q hq => by cases ha; exact (ct.1 q hq).1) B2 S2 hB2 hent r f2 H2 locs2 ls2 st2 hon2
      have e4t := e4t _ rfl
      subst e1
      exact ih B2 hB2 (X1 + co) r2 f2 H2 locs2 ls2 (by omega) e3 (by omega) (by omega) e5 e6 e6k e7
  intro ls hl
  have hw0 : rk_w (fun u => Lv G lv f u, K, E, tys, D, A, s.heap, G, L, M.2.2.1, X) 0 f H locs := ⟨hP, hD, hS, by rw [Int.add_zero]; exact hTY, hLr lv f⟩
  have hon : rk_on (fun u => Lv G lv f u, K, E, tys, D, A, s.heap, G, L, M.2.2.1, X) ts.length vs vs (rk_S0 ts.length ts []) f H locs ls [] := by
    refine ⟨fun y t ht => ?_, fun q hq => (by cases hq), fun q hq => (by cases hq), ⟨hl.1, hl.2.1, fun q hq => ?_⟩, rfl, fun _ _ => rfl, ⟨Int.le_refl 0, by omega⟩, hw0⟩
    · show rk_has G (X + 0) t (vs y)
      rw [Int.add_zero]
      exact hty y t ht
    · obtain ⟨z, hz, rfl⟩ := List.mem_map.mp hq
      rw [List.take_length] at hz
      obtain ⟨i, t, e1, e2, e3⟩ := rk_loc_ok ts 0 hz
      rw [Nat.zero_add] at e1
      subst e1
      exact hl.2.2 _ (hlo i t e2 e3)
  refine Go X ts.length vs 0 none C [] hX (by simp only [rk_lv]; omega) (fun q hq => by cases hq) (by simp only [rk_lv]; omega) (fun i hi => by omega) ?_ pc0 (rk_S0 ts.length ts []) w4 _ f H locs ls [] hon
  intro B2 S2 hB2 hent r f2 H2 locs2 ls2 st2 hon2
  obtain ⟨r2, co, e1, e2, e3, e3t, e4, -, e5, e6, e6k, e7⟩ := Arr X ts.length vs none C [] hX (fun q hq => by cases hq) (fun a ha => by cases ha) B2 S2 hB2 hent r f2 H2 locs2 ls2 st2 hon2
  subst e1
  simp only [rk_lv] at e4
  exact Cuts _ B2 hB2 (X + co) r2 f2 H2 locs2 ls2 (by omega) e3 (Nat.lt_succ_self _) (by omega) e5 e6 e6k e7
