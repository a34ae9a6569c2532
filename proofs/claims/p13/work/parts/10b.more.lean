/-! texts by their places, copies of rows, switches by a list -/
def rk_ldS (nE pc : Nat) (K : Nat → rk_KD) (ss : Nat → Option Nat) (i : Nat) (S : rk_St) : rk_Sc := match ss i with
  | none => none
  | some k => if Nat.beq (K k).1 9 then rk_mk nE (pc + 2) S (2, (k : Int), 0) else none
def rk_acp (wr : rk_Wr) (pc : Nat) (K : Nat → rk_KD) (ER : rk_Er) (S : rk_St) : rk_Sc := match S with
  | (lo, sk, en, kn, fc, co) => match sk with
    | n :: dp :: d :: sp :: b :: rest => (match en[n]? with
      | none => none
      | some tn => match en[dp]? with
        | none => none
        | some tdp => match en[sp]? with
          | none => none
          | some tsp => match rk_cst tn with
            | none => none
            | some c => match en[d]? with
              | some (2, kd, _) => (match en[b]? with
                | some (2, kb, _) => (match ER kb.toNat 0 (c - 1) with
                  | none => none
                  | some t1 => match ER kd.toNat 0 (c - 1) with
                    | none => none
                    | some t2 => if rk_cst tdp = some 0 ∧ rk_cst tsp = some 0 ∧ 0 < c ∧ (K kd.toNat).1 = 1 ∧ (K kb.toNat).1 = 1 ∧ c ≤ ((K kd.toNat).2.1 : Int) ∧ c ≤ ((K kb.toNat).2.1 : Int) ∧ rk_le t1 t2 = true ∧ rest.length ≤ 8 ∧ wr kd.toNat 0 (c - 1) = true ∧ rk_wf 0 S = true then some [(pc + 3, (lo, rest, en, kn.filter (fun q => Nat.blt q.2.1 1000000), fc, co))] else none)
                | _ => none)
              | _ => none)
    | _ => none
/-- the smaller of two: one of the two, by the comparison -/
def rk_mmn (pc : Nat) (S : rk_St) : rk_Sc := match S with
  | (lo, sk, en, kn, fc, co) => match sk with
    | y :: x :: rest => if rest.length ≤ 8 ∧ rk_wf 0 (lo, y :: x :: rest, en, kn, fc, co) = true then rk_two (pc + 3) (pc + 3) (rk_brn (lo, y :: rest, en, kn, fc, co) 2 y x) (rk_brn (lo, x :: rest, en, kn, fc, co) 3 y x) else none
    | _ => none
def rk_lc (pc x : Nat) (a b : Int) (S : rk_St) : List (Int × Int) → List (Nat × rk_St)
  | [] => []
  | q :: l => if a ≤ q.1 ∧ q.1 ≤ b then (rk_tgt pc q.2, (S.1, S.2.1, S.2.2.1.set x (0, q.1, q.1), S.2.2.2)) :: rk_lc pc x a b S l else rk_lc pc x a b S l
def rk_lsw (pc : Nat) (d : Int) (ps : Array (Int × Int)) (S : rk_St) : rk_Sc := match S with
  | (l0, sk, en, kn, fc, co) => match sk with
    | x :: sk => (match en[x]? with
      | none => none
      | some t => match rk_iv t with
        | none => none
        | some (a, b) => if rk_tok pc d && (ps.toList.all (fun q => rk_tok pc q.2) && (ps.toList.zip (ps.toList.drop 1)).all (fun (a, next) => a.1 < next.1)) then
            some ((rk_tgt pc d, (l0, sk, en, kn, fc, co)) :: rk_lc pc x a b (l0, sk, en, kn, fc, co) ps.toList) else none)
    | _ => none
theorem rk_lc_mem {pc x : Nat} {a b : Int} {S : rk_St} {d n : Int} (ha : a ≤ n) (hb : n ≤ b) : ∀ (l : List (Int × Int)), Op.lookupswitch.offset l d n = d ∨ ((rk_tgt pc (Op.lookupswitch.offset l d n), (S.1, S.2.1, S.2.2.1.set x (0, n, n), S.2.2.2)) ∈ rk_lc pc x a b S l ∧ (n, Op.lookupswitch.offset l d n) ∈ l)
  | [] => Or.inl rfl
  | q :: l => by
    obtain ⟨k, o⟩ := q
    unfold Op.lookupswitch.offset
    split
    · rename_i hk
      subst hk
      right
      unfold rk_lc
      rw [if_pos ⟨ha, hb⟩]
      exact ⟨List.mem_cons_self, List.mem_cons_self⟩
    · rcases rk_lc_mem (pc := pc) (x := x) (S := S) (d := d) ha hb l with h | ⟨h1, h2⟩
      · exact Or.inl h
      · right
        unfold rk_lc
        refine ⟨?_, List.mem_cons_of_mem _ h2⟩
        split
        · exact List.mem_cons_of_mem _ h1
        · exact h1
section RKM
variable {p : Program} {l : Launch} {e : Env} {R : Room} {s : State} {m : MethodId} {args : Array Value} {below : List Frame} {meth : Method} {c : Code} {cm sm : Nat} {Q : State → Prop} {cc : ByteArray} {nE : Nat} {r0 : Nat → Value}
variable {Pf : (Nat → va_E) → Prop} {K : Nat → rk_KD} {E : Nat → Nat → rk_AV} {tys : List (ClassId × FieldType)} {D : va_G} {A : Nat → Prop} {H0 : Heap} {G : Nat → Option Nat} {L : List Nat} {nL : Nat} {X : Int}
theorem rk_ldS_ok (hx : p.tables.exec = Jvm.exec) (hb : c.code = cc) {own : String} (hown : s.vm.findClass own = some m.cls) {ss : Nat → Option Nat} (hss : ∀ i k, ss i = some k → ∃ (tx : String) (a : Nat), vk_R own i tx a s ∧ (E k 0).2.1 = (a : Int))
    {pc i : Nat} {S : rk_St} {out : List (Nat × rk_St)} (hdg : decode cc pc = .ok (.ldc i, 2)) (h : rk_ldS nE pc K ss i S = some out) (hk : ∀ q ∈ out, rk_G p l e R s m args below meth c cm sm Q (Pf, K, E, tys, D, A, H0, G, L, nL, X) nE r0 q.1 q.2) : rk_G p l e R s m args below meth c cm sm Q (Pf, K, E, tys, D, A, H0, G, L, nL, X) nE r0 pc S := by
  intro r f H locs ls st hS
  unfold rk_ldS at h
  split at h
  · cases h
  · rename_i k hki
    split at h
    · rename_i h9
      rw [Nat.beq_eq] at h9
      obtain ⟨tx, a, h1, h2⟩ := hss i k hki
      have hw : rk_w (Pf, K, E, tys, D, A, H0, G, L, nL, X) S.2.2.2.2.2 f H locs := by
        obtain ⟨lo, sk, en, kn, fc, co⟩ := S
        exact hS.2.2.2.2.2.2.2
      have hG := (hw.2.2.2.1.2 a k h9).mpr h2
      exact va_ldcS hx hb hown h1 hdg (rk_mk_ok h hk hS ⟨a, rfl, by rw [Int.toNat_natCast]; exact hG⟩)
    · cases h
theorem rk_mmn_ok (hcm : cm ≤ R.cells ∧ sm ≤ R.slots) (hx : p.tables.exec = Jvm.exec) (hb : c.code = cc) (hml9 : c.maxLocals = nL) {own : String} (hown : s.vm.findClass own = some m.cls) {idx : Nat}
    (hac : (Jvm.Cond.methodLink own idx Lib.Math.min.name).before args s = true ∧ (Jvm.Cond.static Lib.Math.min.name).before args s = true ∧ (Jvm.Cond.initialized "java/lang/Math").before args s = true ∧ (Jvm.Cond.code Lib.Math.min.name Lib.Math.min.code 2 (some .int)).before args s = true ∧ 1 ≤ R.frames ∧ 8 + 13 ≤ R.locals)
    {pc : Nat} {S : rk_St} {out : List (Nat × rk_St)} (hdg : decode cc pc = .ok (.invokestatic idx, 3)) (h : rk_mmn pc S = some out) (hk : ∀ q ∈ out, rk_G p l e R s m args below meth c cm sm Q (Pf, K, E, tys, D, A, H0, G, L, nL, X) nE r0 q.1 q.2) : rk_G p l e R s m args below meth c cm sm Q (Pf, K, E, tys, D, A, H0, G, L, nL, X) nE r0 pc S := by
  intro r f H locs ls st hS
  obtain ⟨lo, sk, en, kn, fc, co⟩ := S
  rcases sk with _ | ⟨y, _ | ⟨x, rest⟩⟩
  · simp [rk_mmn] at h
  · simp [rk_mmn] at h
  · simp only [rk_mmn] at h
    split at h
    · rename_i hok
      obtain ⟨g9, g11⟩ := hok
      simp only [rk_two] at h
      split at h
      · cases h
      · rename_i la hla
        split at h
        · cases h
        · rename_i lb hlb
          cases h
          obtain ⟨st1, d1, hS1⟩ := rk_pop hS
          obtain ⟨st2, d2, hS2⟩ := rk_pop hS1
          subst d1 d2
          have hxy : (∃ a : Int32, r y = .int a) ∧ ∃ b : Int32, r x = .int b := by
            simp only [rk_brn] at hla
            split at hla
            · cases hla
            · rename_i tx htx
              split at hla
              · cases hla
              · rename_i ty hty
                split at hla
                · cases hla
                · rename_i a b hab
                  split at hla
                  · cases hla
                  · rename_i a2 b2 hab2
                    obtain ⟨v1, w1, _, _⟩ := rk_iv_ok hab (rk_val hS htx)
                    obtain ⟨v2, w2, _, _⟩ := rk_iv_ok hab2 (rk_val hS hty)
                    exact ⟨⟨v1, w1⟩, v2, w2⟩
          obtain ⟨⟨vy, ey⟩, vx, ex⟩ := hxy
          have hcat : ((rest.map r).map fun v => v.category).sum ≤ 8 := by
            have hc1 : ∀ y ∈ rest, (r y).category = 1 := by
              intro y hy
              simp only [rk_wf, Bool.and_eq_true, List.all_eq_true, Nat.blt_eq, Nat.ble_eq] at g11
              exact rk_has_cat (rk_val hS (List.getElem?_eq_getElem (g11.2.2.1 y (by simp [hy]))))
            have : ∀ ys : List Nat, (∀ y ∈ ys, (r y).category = 1) → ((ys.map r).map fun v => v.category).sum = ys.length := by
              intro ys
              induction ys with
              | nil => intro _; rfl
              | cons y ys ih =>
                intro hy
                simp only [List.map_cons, List.sum_cons, List.length_cons]
                rw [ih (fun w hw => hy w (List.mem_cons_of_mem _ hw)), hy y List.mem_cons_self]
                omega
            rw [this _ hc1]
            exact g9
          have hst2 : st2 = rest.map r := hS2.2.2.2.2.1
          have hsz : ls.size = nL := hS.2.2.2.1.1
          rw [ey, ex]
          refine va_mmin hx hb (hml9.trans hsz.symm) hown hac.1 hac.2.1 hac.2.2.1 hac.2.2.2.1 hac.2.2.2.2.1 (by rw [hst2]; have := hac.2.2.2.2.2; omega) hcm.1 hcm.2 hdg ?_
          by_cases hlt : vy < vx
          · rw [if_pos hlt, ← ey]
            obtain ⟨S', hm', hS'⟩ := rk_brn_ok (rk_push y hS2) hla (by rw [ey, ex]; exact Int32.lt_iff_toInt_lt.mp hlt)
            exact hk (pc + 3, S') (List.mem_append_left _ (List.mem_map.mpr ⟨S', hm', rfl⟩)) r f H locs ls _ hS'
          · rw [if_neg hlt, ← ex]
            obtain ⟨S', hm', hS'⟩ := rk_brn_ok (rk_push x hS2) hlb (by rw [ey, ex]; rw [Int32.lt_iff_toInt_lt] at hlt; exact Int.not_lt.mp hlt)
            exact hk (pc + 3, S') (List.mem_append_right _ (List.mem_map.mpr ⟨S', hm', rfl⟩)) r f H locs ls _ hS'
    · cases h
theorem rk_acp_ok {wr : rk_Wr} (hPf : ∀ (f : Nat → va_E) (a k : Nat) (e : va_E) (x y : Int), wr k x y = true → G a = some k → rk_dif x y (f a) e → Pf f → Pf (va_up f a e)) (hx : p.tables.exec = Jvm.exec) (hb : c.code = cc) (hml9 : c.maxLocals = nL) {own : String} (hown : s.vm.findClass own = some m.cls) (hK : va_K D vwCl tys s) {ER : rk_Er} (hER : ∀ k a b t, ER k a b = some t → ∀ j : Nat, a ≤ (j : Int) → (j : Int) ≤ b → E k j = t) (hX : 0 ≤ X) {idx : Nat}
    (hac : (Jvm.Cond.methodLink own idx arraycopyName).before args s = true ∧ (Jvm.Cond.native arraycopyName).before args s = true ∧ (Jvm.Cond.static arraycopyName).before args s = true ∧ (Jvm.Cond.initialized "java/lang/System").before args s = true ∧ 1 ≤ R.frames ∧ 8 + (nativeFrameWords "java/lang/System" "arraycopy" 5 + 11) ≤ R.locals)
    {pc : Nat} {S : rk_St} {out : List (Nat × rk_St)} (hdg : decode cc pc = .ok (.invokestatic idx, 3)) (h : rk_acp wr pc K ER S = some out) (hk : ∀ q ∈ out, rk_G p l e R s m args below meth c cm sm Q (Pf, K, E, tys, D, A, H0, G, L, nL, X) nE r0 q.1 q.2) : rk_G p l e R s m args below meth c cm sm Q (Pf, K, E, tys, D, A, H0, G, L, nL, X) nE r0 pc S := by
  intro r f H locs ls st hS
  obtain ⟨lo, sk, en, kn, fc, co⟩ := S
  have hco := hS.2.2.2.2.2.2.1
  have hw := hS.2.2.2.2.2.2.2
  rcases sk with _ | ⟨n, _ | ⟨dp, _ | ⟨d, _ | ⟨sp, _ | ⟨b, rest⟩⟩⟩⟩⟩
  · simp [rk_acp] at h
  · simp [rk_acp] at h
  · simp [rk_acp] at h
  · simp [rk_acp] at h
  · simp [rk_acp] at h
  · simp only [rk_acp] at h
    split at h
    · cases h
    · rename_i tn htn
      split at h
      · cases h
      · rename_i tdp htdp
        split at h
        · cases h
        · rename_i tsp htsp
          split at h
          · cases h
          · rename_i cst hcst
            split at h
            · rename_i kd zd hd
              split at h
              · rename_i kb zb hbb
                split at h
                · cases h
                · rename_i t1 ht1
                  split at h
                  · cases h
                  · rename_i t2 ht2
                    split at h
                    · rename_i hok
                      obtain ⟨g1, g2, g3, g4, g5, g6, g7, g8, g9, g10, g11⟩ := hok
                      cases h
                      obtain ⟨st1, d1, hS1⟩ := rk_pop hS
                      obtain ⟨st2, d2, hS2⟩ := rk_pop hS1
                      obtain ⟨st3, d3, hS3⟩ := rk_pop hS2
                      obtain ⟨st4, d4, hS4⟩ := rk_pop hS3
                      obtain ⟨st5, d5, hS5⟩ := rk_pop hS4
                      subst d1 d2 d3 d4 d5
                      have isInt : ∀ (t : rk_AV) (y : Nat) (c0 : Int), en[y]? = some t → rk_cst t = some c0 → ∃ x : Int32, r y = .int x ∧ x.toInt = c0 := by
                        intro t y c0 hy hc0
                        have hv := rk_val hS hy
                        have hi : rk_isI t = true := by
                          obtain ⟨n9, a9, b9⟩ := t
                          rcases n9 with _ | n9
                          · rfl
                          · simp [rk_cst] at hc0
                        obtain ⟨x, ex⟩ := rk_isI_ok hi hv
                        rw [ex] at hv
                        exact ⟨x, ex, rk_cst_ok hc0 hv⟩
                      obtain ⟨xn, en1, en2⟩ := isInt tn n cst htn hcst
                      obtain ⟨xd, ed1, ed2⟩ := isInt tdp dp 0 htdp g1
                      obtain ⟨xs, es1, es2⟩ := isInt tsp sp 0 htsp g2
                      have zd0 : xd = 0 := Int32.toInt_inj.mp ed2
                      have zs0 : xs = 0 := Int32.toInt_inj.mp es2
                      subst zd0 zs0
                      obtain ⟨nn, e1, e2, e3⟩ := rk_nI (x := xn) (by omega)
                      have hcl : xn.toNatClampNeg = nn := by rw [e1]; exact nI_clamp e3
                      have hc0 : (0 : Int32).toNatClampNeg = 0 := rfl
                      obtain ⟨ad, ead, hgd⟩ := rk_val hS hd
                      obtain ⟨ab, eab, hgb⟩ := rk_val hS hbb
                      obtain ⟨q1, hq1, hcd⟩ := rk_typed hw hgd (by rw [g4]; decide)
                      obtain ⟨q0, hq0, hcb⟩ := rk_typed hw hgb (by rw [g5]; decide)
                      unfold rk_cell at hcd hcb
                      generalize hKd : K kd.toNat = kkd at hcd g4 g6
                      generalize hKb : K kb.toNat = kkb at hcb g5 g7
                      obtain ⟨td, nd, t0d, tsd⟩ := kkd
                      obtain ⟨tb, nb, t0b, tsb⟩ := kkb
                      dsimp only at g4 g5 g6 g7
                      subst g4 g5
                      obtain ⟨cA1, gd, hf1, hty1, hr1⟩ := hcd
                      obtain ⟨cA0, gb, hf0, hty0, hr0⟩ := hcb
                      have hq1' := hq1
                      rw [hf1] at hq1'
                      rw [hf0] at hq0
                      rw [en1, ed1, es1, ead, eab]
                      have hcat : ((rest.map r).map fun v => v.category).sum ≤ 8 := by
                        have hc1 : ∀ y ∈ rest, (r y).category = 1 := by
                          intro y hy
                          simp only [rk_wf, Bool.and_eq_true, List.all_eq_true, Nat.blt_eq, Nat.ble_eq] at g11
                          exact rk_has_cat (rk_val hS (List.getElem?_eq_getElem (g11.2.2.1 y (by simp [hy]))))
                        have : ∀ ys : List Nat, (∀ y ∈ ys, (r y).category = 1) → ((ys.map r).map fun v => v.category).sum = ys.length := by
                          intro ys
                          induction ys with
                          | nil => intro _; rfl
                          | cons y ys ih =>
                            intro hy
                            simp only [List.map_cons, List.sum_cons, List.length_cons]
                            rw [ih (fun w hw => hy w (List.mem_cons_of_mem _ hw)), hy y List.mem_cons_self]
                            omega
                        rw [this _ hc1]
                        exact g9
                      have hst5 : st5 = rest.map r := hS5.2.2.2.2.1
                      have hsz : ls.size = nL := hS.2.2.2.1.1
                      refine va_copyi hx hb (hml9.trans hsz.symm) hown hac.1 hac.2.1 hac.2.2.1 hac.2.2.2.1 hK hw.1 hw.2.1 hw.2.2.1 q0 q1 0 0 hq0 hq1' hty0 hty1 rfl (by decide) (by decide) (by
                        intro h0
                        rw [Int32.lt_iff_toInt_lt] at h0
                        have : (0 : Int32).toInt = 0 := rfl
                        omega) (by rw [hc0, hcl]; omega) (by rw [hc0, hcl]; omega) (fun i hi => rfl) hac.2.2.2.2.1 (by rw [hst5]; have := hac.2.2.2.2.2; omega) hdg (fun H1 locs1 hP1 hD1 hS9 => ?_)
                      rw [hc0, hcl] at hP1
                      refine hk _ (List.mem_singleton.mpr rfl) r (va_up f ad (.inl (cA1, nd, .inl (va_cpy gb gd 0 0 nn)))) H1 locs1 ls _ ?_
                      have hcell2 : rk_cell K E tys G (X + (co + 0)) kd.toNat (.inl (cA1, nd, .inl (va_cpy gb gd 0 0 nn))) := by
                        rw [Int.add_zero]
                        unfold rk_cell
                        rw [hKd]
                        refine ⟨cA1, _, rfl, hty1, fun j hj => ?_⟩
                        by_cases hjn : j < nn
                        · rw [pk_cpy_in (Nat.zero_le j) (by omega), Nat.zero_add, Nat.sub_zero]
                          have b1 := hr0 j (by omega)
                          rw [hER _ _ _ _ ht1 j (by omega) (by omega)] at b1
                          rw [hER _ _ _ _ ht2 j (by omega) (by omega)]
                          exact rk_le_ok (by omega) g8 b1
                        · rw [pk_cpy_out (Or.inr (by omega))]
                          exact hr1 j hj
                      have hw1 := rk_w_up (d := 0) hw hgd (by rw [hKd]; dsimp only; omega) (Int.le_refl 0) hq1 hcell2 hP1 hS9 (hPf _ _ _ _ _ _ g10 hgd (Or.inr (Or.inl ⟨cA1, nd, gd, _, hf1, rfl, fun j hj => pk_cpy_out (Or.inr (by omega))⟩)))
                      rw [Int.add_zero] at hw1
                      obtain ⟨o1, o2, o3, o4, o5, o6, o7, o8⟩ := hS5
                      refine ⟨o1, fun q hq => ?_, o3, o4, o5, o6, o7, hw1⟩
                      obtain ⟨hq1, hq2⟩ := List.mem_filter.mp hq
                      rw [Nat.blt_eq] at hq2
                      obtain ⟨b1, b2, b3⟩ := o2 q hq1
                      refine ⟨b1, b2, ?_⟩
                      unfold rk_kf at b3 ⊢
                      rw [if_pos hq2] at b3 ⊢
                      by_cases hba : b1 = ad
                      · subst hba
                        rw [hf1] at b3
                        cases b3
                      · rw [va_up_ne _ _ hba]
                        exact b3
                    · cases h
              · cases h
            · cases h
theorem rk_lsw_ok (hx : p.tables.exec = Jvm.exec) (hb : c.code = cc) {F : rk_Fx} {pc len : Nat} {d : Int} {ps : Array (Int × Int)} {S : rk_St} {out : List (Nat × rk_St)} (hdg : decode cc pc = .ok (.lookupswitch d ps, len)) (h : rk_lsw pc d ps S = some out) (hk : ∀ q ∈ out, rk_G p l e R s m args below meth c cm sm Q F nE r0 q.1 q.2) : rk_G p l e R s m args below meth c cm sm Q F nE r0 pc S := by
  intro r f H locs ls st hS
  obtain ⟨lo, sk, en, kn, fc, co⟩ := S
  rcases sk with _ | ⟨x, sk'⟩
  · simp [rk_lsw] at h
  · simp only [rk_lsw] at h
    obtain ⟨st1, d1, hS1⟩ := rk_pop hS
    subst d1
    split at h
    · cases h
    · rename_i t ht
      split at h
      · cases h
      · rename_i a b hab
        obtain ⟨u, eu, q1, q2⟩ := rk_iv_ok hab (rk_val hS ht)
        split at h
        · rename_i hok
          rw [Bool.and_eq_true, Bool.and_eq_true] at hok
          obtain ⟨g1, g2, g3⟩ := hok
          cases h
          rw [eu]
          rcases rk_lc_mem (pc := pc) (x := x) (S := (lo, sk', en, kn, fc, co)) (d := d) q1 q2 ps.toList with h0 | ⟨h1, h2⟩
          · exact lv_lookup hx hb hdg g3 h0 (rk_tgt_ok g1) (hk _ List.mem_cons_self r f H locs ls _ hS1)
          · refine lv_lookup hx hb hdg g3 rfl (rk_tgt_ok ?_) (hk _ (List.mem_cons_of_mem _ h1) r f H locs ls _ (rk_ref hS1 ?_))
            · exact List.all_eq_true.mp g2 _ h2
            · rw [eu]
              exact ⟨u, rfl, Int.le_refl _, Int.le_refl _⟩
        · cases h
end RKM
