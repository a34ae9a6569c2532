/-! calls -/
section RSS
variable {MT : Nat → rk_Mt × Nat × Nat}
theorem rs_fr_tr {F : rs_Fx} {X : List (ClassId × FieldType) × va_G × (Nat → Prop) × Heap × (Nat → Int32) × Nat × Nat} {hp hp' : rs_H} {nn nn' : Nat} {ad ad' : Nat → Nat} {L L' : List Nat} {f f' : Nat → va_E} (h1 : rs_fr F hp nn ad L f) (h2 : rs_fr (X, hp, nn, ad, L, f) hp' nn' ad' L' f') : rs_fr F hp' nn' ad' L' f' := by
  obtain ⟨Y, hp0, nn0, ad0, L0, f0⟩ := F
  obtain ⟨a1, a2, a3, a4, a5, a6⟩ := h1
  obtain ⟨b1, b2, b3, b4, b5, b6⟩ := h2
  refine ⟨by omega, fun i hi => (b2 i (by omega)).trans (a2 i hi), fun i hi ht => a3 i hi (b3 i (by omega) ht), fun a ha => b4 a (a4 a ha), fun i h1 h2 hm => ?_, fun a ha hn => ?_⟩
  · by_cases hi : i < nn
    · rw [b2 i hi] at hm
      exact a5 i h1 hi hm
    · exact b5 i (by omega) h2 (a4 _ hm)
  · rw [b6 a (a4 a ha) (fun i hi ht e => ?_), a6 a ha hn]
    by_cases h0 : i < nn0
    · exact hn i h0 (a3 i h0 ht) (e.trans (a2 i h0))
    · exact a5 i (by omega) hi (e ▸ ha)
theorem rs_tkE : ∀ (n : Nat) (sk acc : List rs_V) (k : List rs_V → List rs_V → Bool), rs_tk n sk acc k = true → ∃ pre rest, sk = pre ++ rest ∧ pre.length = n ∧ k (pre.reverse ++ acc) rest = true
  | 0, sk, acc, k, h => ⟨[], sk, rfl, rfl, h⟩
  | n + 1, [], acc, k, h => by cases h
  | n + 1, v :: sk, acc, k, h => by
    obtain ⟨pre, rest, e1, e2, e3⟩ := rs_tkE n sk (v :: acc) k h
    exact ⟨v :: pre, rest, by rw [e1]; rfl, by rw [List.length_cons, e2], by rw [List.reverse_cons, List.append_assoc]; exact e3⟩
theorem rs_stk_app {dn : rs_V → Value → Prop} : ∀ (pre rest : List rs_V) (st : List Value), rs_stk dn (pre ++ rest) st → ∃ vp vr, st = vp ++ vr ∧ rs_stk dn pre vp ∧ rs_stk dn rest vr
  | [], rest, st, h => ⟨[], st, rfl, trivial, h⟩
  | v :: pre, rest, st, h => by
    obtain ⟨x, st', rfl, h1, h2⟩ := rs_stk_cons h
    obtain ⟨vp, vr, rfl, h3, h4⟩ := rs_stk_app pre rest st' h2
    exact ⟨x :: vp, vr, rfl, ⟨h1, h3⟩, h4⟩
theorem rs_stk_snoc {dn : rs_V → Value → Prop} {v : rs_V} {x : Value} (hv : dn v x) : ∀ (sk : List rs_V) (st : List Value), rs_stk dn sk st → rs_stk dn (sk ++ [v]) (st ++ [x])
  | [], [], _ => ⟨hv, trivial⟩
  | u :: sk, y :: st, h => ⟨h.1, rs_stk_snoc hv sk st h.2⟩
  | [], _ :: _, h => absurd h id
  | _ :: _, [], h => absurd h id
theorem rs_stk_rev {dn : rs_V → Value → Prop} : ∀ (sk : List rs_V) (st : List Value), rs_stk dn sk st → rs_stk dn sk.reverse st.reverse
  | [], [], _ => trivial
  | u :: sk, y :: st, h => by
    rw [List.reverse_cons, List.reverse_cons]
    exact rs_stk_snoc h.1 _ _ (rs_stk_rev sk st h.2)
  | [], _ :: _, h => absurd h id
  | _ :: _, [], h => absurd h id
theorem rs_stk_len {dn : rs_V → Value → Prop} : ∀ (sk : List rs_V) (st : List Value), rs_stk dn sk st → st.length = sk.length
  | [], [], _ => rfl
  | u :: sk, y :: st, h => by
    rw [List.length_cons, List.length_cons, rs_stk_len sk st h.2]
  | [], _ :: _, h => absurd h id
  | _ :: _, [], h => absurd h id
theorem rs_callW {p : Program} {l : Launch} {e : Env} {R : Room} {s : State} {m : MethodId} {args : Array Value} {below : List Frame} {meth : Method} {c : Code} {Q : State → Prop} {H0 H : Heap} {locs : List Loc} {pc cells slots mc ms : Nat} {ls : Array Slot} {rest st0 : List Value} {a : Array Value} {A0 A1 : Nat → Prop} {free : Addr → Prop} {QQ : Array Value → State → Outcome → State → Prop} (hr : va_Run p l e R s m args below meth c H locs cells slots mc ms (F0 m pc ls st0) rest (QQ a) free) (hQF : ∀ st oc t, QQ a st oc t → va_F A1 st t) (hS : va_S A0 H0 H locs) (hA : ∀ q, q < H.size → A1 q → A0 q) (hf : ∀ q, free q → A0 q)
    (kk : ∀ (v : Option Value) (st₀ t : State) (H1 : Heap) (locs1 : List Loc), t.heap = H1 → s.vm.Alike t.vm → st₀.heap = H → QQ a st₀ (.returned v) t → va_S A0 H0 H1 locs1 → W p l e R s m args below meth c H1 locs1 (cells + mc) (slots + ms) Q (F0 m (pc + 3) ls (v.toList ++ rest))) : W p l e R s m args below meth c H locs cells slots Q (F0 m pc ls st0) := by
  intro T hT X
  obtain ⟨v, st₀, t, T', L, h0, X', hL, e1, e2, hq, st⟩ := hr T hT X
  obtain ⟨hz, hk⟩ := hQF _ _ _ hq
  rw [h0] at hz hk
  obtain ⟨t2, a1, b1⟩ := kk v st₀ t T'.heap (locs ++ L) e1.symm (by rw [← e2]; exact X'.warmed.alike) h0 hq
    ⟨Nat.le_trans hS.1 (by rw [e1]; exact hz), fun q h1 h2 => by rw [e1, hk q (Nat.lt_of_lt_of_le h1 hS.1) (fun z => h2 (hA q (Nat.lt_of_lt_of_le h1 hS.1) z))]; exact hS.2.1 q h1 h2, fun q hq => by
      rcases List.mem_append.mp hq with h | h
      · exact hS.2.2 q h
      · exact hf _ (hL q h)⟩ T' rfl X'
  exact ⟨t2, st t2 a1, b1⟩
/-- the words of a call (0 static, 1 virtual, 2 a constructor) -/
noncomputable def rs_lk (md : Nat) (own : String) (idx : Nat) (M : rk_Mt) (n : Nat) (l : List Nat) : Bool :=
  ((rk_tat (.initialized M.1.cls) (rs_nth l 0 6) && (!decide (M.1.cls = "java/lang/invoke/MethodHandle") && !decide (M.1.cls = "java/lang/invoke/VarHandle"))) &&
   ((if Nat.beq (rs_nth l 0 8) 1 then decide (rk_nm[rs_nth l 0 7]? = some (own, idx, M.1, "SpaceLinks")) else rk_tat (.methodLink own idx M.1) (rs_nth l 0 7)) && rk_tat (.code M.1 M.2.1 M.2.2.1 M.2.2.2.1) (rs_nth l 0 11))) &&
  (match md with
   | 0 => rk_tat (.static M.1) (rs_nth l 0 9) && decide ((parseMethodDescriptor M.1.desc).map (fun d => d.parameters.length) = some n)
   | 1 => (rk_tat (.instanceMethod M.1) (rs_nth l 0 9) && rk_tat (.selects M.1.cls M.1 M.1) (rs_nth l 0 10)) && ((decide ((vwCl[rs_nth l 0 5]?).map (fun q => q.1) = some M.1.cls) && Nat.blt (rs_nth l 0 5) 16) && (Nat.ble 1 n && decide ((parseMethodDescriptor M.1.desc).map (fun d => d.parameters.length) = some (n - 1))))
   | _ => (rk_tat (.instanceMethod M.1) (rs_nth l 0 9) && decide (M.1.name = "<init>")) && (M.2.2.2.1.isNone && (Nat.ble 1 n && decide ((parseMethodDescriptor M.1.desc).map (fun d => d.parameters.length) = some (n - 1)))))
theorem rs_lkE {md : Nat} {own : String} {idx : Nat} {M : rk_Mt} {n : Nat} {l : List Nat} (h : rs_lk md own idx M n l = true) {s : State} {args : Array Value} (hts : ∀ w ∈ rk_tbl, w.before args s = true) (hN : rs_NU s) : (Jvm.Cond.initialized M.1.cls).before args s = true ∧ (M.1.cls ≠ "java/lang/invoke/MethodHandle" ∧ M.1.cls ≠ "java/lang/invoke/VarHandle") ∧ ((Jvm.Cond.methodLink own idx M.1).before args s = true ∨ ∃ host : String, va_Nw (.methodLinkNest own idx M.1 host) s) ∧ Jvm.Cond.code M.1 M.2.1 M.2.2.1 M.2.2.2.1 ∈ rk_tbl ∧
    (md = 0 → (Jvm.Cond.static M.1).before args s = true ∧ (parseMethodDescriptor M.1.desc).map (fun d => d.parameters.length) = some n) ∧
    (md = 1 → (Jvm.Cond.instanceMethod M.1).before args s = true ∧ (Jvm.Cond.selects M.1.cls M.1 M.1).before args s = true ∧ (∃ q, vwCl[rs_nth l 0 5]? = some q ∧ q.1 = M.1.cls) ∧ rs_nth l 0 5 < 16 ∧ 1 ≤ n ∧ (parseMethodDescriptor M.1.desc).map (fun d => d.parameters.length) = some (n - 1)) ∧
    (md = 2 → (Jvm.Cond.instanceMethod M.1).before args s = true ∧ M.1.name = "<init>" ∧ M.2.2.2.1 = none ∧ 1 ≤ n ∧ (parseMethodDescriptor M.1.desc).map (fun d => d.parameters.length) = some (n - 1)) := by
  have use : ∀ {w : Jvm.Cond} {i : Nat}, rk_tat w i = true → w.before args s = true := fun h => hts _ (rk_tat_ok h)
  unfold rs_lk at h
  obtain ⟨h, h5⟩ := rs_tru h
  obtain ⟨h, h3⟩ := rs_tru h
  obtain ⟨h1, h2⟩ := rs_tru h
  obtain ⟨h2a, h2b⟩ := rs_tru h2
  obtain ⟨h3, h4⟩ := rs_tru h3
  refine ⟨use h1, ⟨by simpa using h2a, by simpa using h2b⟩, ?_, rk_tat_ok h4, ?_, ?_, ?_⟩
  · split at h3
    · exact Or.inr ⟨"SpaceLinks", hN.1.2 _ (List.mem_of_getElem? (of_decide_eq_true h3))⟩
    · exact Or.inl (use h3)
  · intro hm
    subst hm
    obtain ⟨a1, a2⟩ := rs_tru h5
    exact ⟨use a1, of_decide_eq_true a2⟩
  · intro hm
    subst hm
    obtain ⟨a1, a2⟩ := rs_tru h5
    obtain ⟨a1, a3⟩ := rs_tru a1
    obtain ⟨a2, a4⟩ := rs_tru a2
    obtain ⟨a2, a5⟩ := rs_tru a2
    obtain ⟨a4, a6⟩ := rs_tru a4
    have a2 := of_decide_eq_true a2
    rw [Nat.blt_eq] at a5
    refine ⟨use a1, use a3, ?_, a5, rs_leE a4, of_decide_eq_true a6⟩
    cases hq : vwCl[rs_nth l 0 5]? with
    | none => rw [hq] at a2; cases a2
    | some q => rw [hq] at a2; exact ⟨q, rfl, by simpa using a2⟩
  · intro hm
    subst hm
    obtain ⟨a1, a2⟩ := rs_tru h5
    obtain ⟨a1, a3⟩ := rs_tru a1
    obtain ⟨a2, a4⟩ := rs_tru a2
    obtain ⟨a4, a6⟩ := rs_tru a4
    exact ⟨use a1, of_decide_eq_true a3, by simpa using a2, rs_leE a4, of_decide_eq_true a6⟩
noncomputable def rs_cck (MT : Nat → rk_Mt × Nat × Nat) (md : Nat) : rs_Ck := fun M cap _ _ a b c' l' => ((rs_lk md M.1.cls a (MT b).1 c' l' && Nat.ble c' (MT b).1.2.2.1) && (Nat.ble ((MT b).1.2.2.2.2.1 + 1) M.2.2.2.2.1 && Nat.ble (8 + ((MT b).1.2.2.1 + 11) + (MT b).1.2.2.2.2.2) M.2.2.2.2.2)) && ((Nat.beq (rs_nth l' 0 1) (MT b).2.1 && Nat.beq (rs_nth l' 0 2) (MT b).2.2) && ((Nat.ble (rs_nth l' 0 3) cap.1 && Nat.ble (rs_nth l' 0 4) cap.2) && (Nat.beq (rs_nth l' 0 0) 0 == (MT b).1.2.2.2.1.isNone)))
def rs_mdI (md a : Nat) : Instr := match md with
  | 0 => .invokestatic a
  | 1 => .invokevirtual a
  | _ => .invokespecial a
set_option maxHeartbeats 1000000 in
theorem rs_callE (md : Nat) (hmd : md ≤ 2) : rs_Snd MT (rs_call md) (fun _ a _ _ _ => (rs_mdI md a, 3)) (rs_cck MT md) := by
  intro p l e R s m args below meth c Q F M cap ft cx pc a b c' l' kt kc kr sk lo en w hdg hck h hk hc hr ad L f H locs ls st hon
  obtain ⟨hx, hb, ⟨hml, hnL⟩, hown, hts, hK, hA, hN, hroom, hnm, htys, hfl⟩ := cx
  obtain ⟨k1, k2⟩ := rs_tru hck
  obtain ⟨k1, k3⟩ := rs_tru k1
  obtain ⟨k1, k1b⟩ := rs_tru k1
  have k1b := rs_leE k1b
  obtain ⟨k3, k4⟩ := rs_tru k3
  obtain ⟨k2, k5⟩ := rs_tru k2
  obtain ⟨k2, k6⟩ := rs_tru k2
  obtain ⟨k5, k7⟩ := rs_tru k5
  obtain ⟨k5, k8⟩ := rs_tru k5
  have k2 := rs_eqE k2
  have k6 := rs_eqE k6
  have k3 := rs_leE k3
  have k4 := rs_leE k4
  have k5 := rs_leE k5
  have k8 := rs_leE k8
  have k7 : Nat.beq (rs_nth l' 0 0) 0 = (MT b).1.2.2.2.1.isNone := by simpa using k7
  obtain ⟨q1, q2, q3, q4, q5, q6, q7⟩ := rs_lkE k1 hts hN
  unfold rs_call at h
  obtain ⟨pre, rest, e1, e2, hg⟩ := rs_tkE _ _ _ _ h
  clear h
  subst e1
  rw [List.append_nil] at hg
  have h := hg
  clear hg
  obtain ⟨h1, h⟩ := rs_andE h
  obtain ⟨h2, h⟩ := rs_andE h
  have h := rs_nfE h
  have h := rs_nfE h
  obtain ⟨h3, h⟩ := rs_andE h
  obtain ⟨h4, h⟩ := rs_andE h
  have h1 := rs_leE h1
  rw [rs_lenE] at h1
  have h3 : w.2.2.1 + rs_nth l' 0 1 ≤ rs_nth l' 0 3 := rs_leE h3
  have h4 : w.2.2.2 + rs_nth l' 0 2 ≤ rs_nth l' 0 4 := rs_leE h4
  rw [k2] at h3
  rw [k6] at h4
  obtain ⟨vp, vr, rfl, hvp, hvr⟩ := rs_stk_app pre rest st hon.2.2.2.2
  have hvs := rs_stk_rev _ _ hvp
  have hlen : vp.length = c' := by rw [rs_stk_len _ _ hvp, e2]
  have hcat := rs_catE (fun _ _ => rs_den_cat) _ _ hvr
  obtain ⟨hP, hD, hS, hnn⟩ := rs_w_all hon.2.1
  have hWd : rs_Wd F.1.1 F.1.2.2.2.2.1 F.1.2.2.2.2.2.1 w.1 w.2.1 ad L f := by
    obtain ⟨⟨tys, D, A, H0, r, sb, nL⟩, Z⟩ := F
    exact ⟨hon.2.1.2.2.2.1, hon.2.1.2.2.2.2.1, hnn⟩
  have hM := hc b _ en w.1 w.2.1 _ h hon.1 (by rw [List.length_reverse]; omega) ad L f vp.reverse H.size hvs hWd
  have hF : ∀ q, va_A (va_pl L f) H.size q → F.1.2.2.1 q := by
    intro q hq
    rcases hq with ⟨k, e9, hke⟩ | hq
    · exact hD.2 k (q, e9) hke
    · exact hA q (Nat.le_trans hS.1 hq)
  have hG := rk_good (M := (MT b).1) (big := rk_tbl) (fun _ h => h) q4
  have hbl : FrameBlind (va_Pc vp.reverse (rk_Pre F.1.2.1 F.1.1 rs_NU L f H.size)) := fun a U g mk q => by
    obtain ⟨q0, q1, q2, q3, q4, q5⟩ := q
    exact ⟨q0, q1, q2, va_K.moved (u := U) (U := U.calling g mk a) (Vm.Alike.refl U.vm) q3, q4, rs_NU_same (u := U) rfl q5⟩
  have hpre : ∀ U : State, U.heap = H → s.WarmedH U.vm → rk_Pre F.1.2.1 F.1.1 rs_NU L f H.size U := fun U hU hW => ⟨by rw [hU], by rw [hU]; exact hP, va_K.moved hW.alike hK, hD.weaken (fun _ _ _ _ => trivial), rs_NU_warm hW hN⟩
  have hroom2 : (MT b).1.2.2.2.2.1 + 1 ≤ R.frames ∧ 8 + ((MT b).1.2.2.1 + 11) + (MT b).1.2.2.2.2.2 ≤ R.locals := ⟨by omega, by omega⟩
  have hcs : w.2.2.1 + (MT b).2.1 ≤ R.cells ∧ w.2.2.2 + (MT b).2.2 ≤ R.slots := ⟨by omega, by omega⟩
  have hsz : ls.size = M.2.2.1 := by rw [← hnL]; exact hon.2.2.2.1.1
  have hfin : ∀ (aa : Array Value), va_Run p l e R s m args below meth c H locs w.2.2.1 w.2.2.2 (MT b).2.1 (MT b).2.2 (F0 m pc ls (vp ++ vr)) vr (rs_Q F.1.1 F.1.2.1 F.1.2.2.2.2.1 F.1.2.2.2.2.2.1 w.1 w.2.1 ad L f (va_A (va_pl L f) H.size) (MT b).1.2.2.2.1 (fun v en hp nn => @Bool.rec (fun _ => Bool) (kt (Nat.add pc 3) (v :: rest) lo en (hp, nn, Nat.add w.2.2.1 (rs_nth l' 0 1), Nat.add w.2.2.2 (rs_nth l' 0 2))) (kt (Nat.add pc 3) rest lo en (hp, nn, Nat.add w.2.2.1 (rs_nth l' 0 1), Nat.add w.2.2.2 (rs_nth l' 0 2))) (Nat.beq (rs_nth l' 0 0) 0)) aa) (va_A (va_pl L f) H.size) → W p l e R s m args below meth c H locs w.2.2.1 w.2.2.2 Q (F0 m pc ls (vp ++ vr)) := by
    intro aa hrun
    refine rs_callW hrun (fun st oc t h => h.2) hS (fun q _ h9 => hF q h9) hF ?_
    intro x st₀ t H1 locs1 ht hvm hst0 hq hS1
    obtain ⟨⟨x', v, en', hp', nn', ad', L', f', o1, o2, o3, o4, o5, o6, o7, o8, o9, o10⟩, -⟩ := hq
    cases o1
    rw [ht] at o8
    have hfr := rs_fr_tr hon.2.2.1 o7
    have o7' := o7
    have hmono : ∀ v x, rs_dn F ad w.2.1 v x → rs_dn F ad' nn' v x := fun v x h => rs_den_mono o7'.1 o7'.2.1 h
    have hw' : rs_w F hp' nn' ad' L' f' H1 locs1 := by
      obtain ⟨⟨tys, D, A, H0, r, sb, nL⟩, Z⟩ := F
      exact ⟨o8, o10.weaken (fun k q _ h9 => hF q.1 h9), hS1, o6.1, o6.2.1, o6.2.2⟩
    have hloc : rs_loc (rs_dn F ad' nn') F.1.2.2.2.2.2.2 lo ls := ⟨hon.2.2.2.1.1, hon.2.2.2.1.2.1, fun i hi => by
      obtain ⟨x, u1, u2⟩ := hon.2.2.2.1.2.2 i hi
      exact ⟨x, u1, hmono _ _ u2⟩⟩
    have hvr' := rs_stk_mono hmono _ _ hvr
    rcases rs_ifE o3 with ⟨z1, o3⟩ | ⟨z1, o3⟩
    · rw [k7] at z1
      have hx0 : x = none := o2.mpr (by simpa using z1)
      subst hx0
      have := hk _ _ _ _ _ o3 ad' L' f' H1 locs1 ls vr ⟨o4, hw', hfr, hloc, hvr'⟩
      rw [show (MT b).2.1 = rs_nth l' 0 1 from k2.symm, show (MT b).2.2 = rs_nth l' 0 2 from k6.symm]
      exact this
    · rw [k7] at z1
      cases x with
      | none =>
        have := o2.mp rfl
        rw [this] at z1
        cases z1
      | some y =>
        have := hk _ _ _ _ _ o3 ad' L' f' H1 locs1 ls (y :: vr) ⟨o4, hw', hfr, hloc, o5 y rfl, hvr'⟩
        rw [show (MT b).2.1 = rs_nth l' 0 1 from k2.symm, show (MT b).2.2 = rs_nth l' 0 2 from k6.symm]
        exact this
  have hstk : vp ++ vr = vp.reverse.reverse ++ vr := by rw [List.reverse_reverse]
  have hcat8 : (vr.map fun v => v.category).sum ≤ 8 := by omega
  have hmd3 : md = 0 ∨ md = 1 ∨ md = 2 := by omega
  rcases hmd3 with hm | hm | hm
  · subst hm
    obtain ⟨i1, hpar⟩ := q5 rfl
    have hPs : PreS s H (va_Pc vp.reverse (rk_Pre F.1.2.1 F.1.1 rs_NU L f H.size)) vp.reverse := ⟨hbl, fun U hU hW => ⟨rfl, hpre U hU hW⟩⟩
    rcases q3 with hl | ⟨host, hl⟩
    · exact hfin _ (va_runS (As := vp.reverse) (rest := vr) ⟨hx, hb, hml, hown, hts⟩ hM ⟨callB_of c' hts hG rfl rfl rfl q1 hl ⟨q2.1, q2.2, hpar⟩ hroom2, i1⟩ hPs rfl (by rw [List.length_reverse]; exact hlen) hsz hstk (lv_room hcat8) hdg hcs)
    · exact hfin _ (va_runSN (As := vp.reverse) (rest := vr) ⟨hx, hb, hml, hown, hts⟩ hM ⟨va_cnB c' hts hG rfl rfl rfl hl q1 ⟨q2.1, q2.2, hpar⟩ hroom2, i1, trivial⟩ hPs rfl (by rw [List.length_reverse]; exact hlen) hsz hstk (lv_room hcat8) hdg hcs)
  · subst hm
    obtain ⟨i1, i2, ⟨qc, hqc, hqn⟩, i4, i5, hpar⟩ := q6 rfl
    -- the receiver
    unfold rs_rcv at h2
    have h9 := h2
    · generalize hpr : pre.reverse = pr at h9 hvs
      generalize hvv : vp.reverse = vv at hvs hM hbl hstk hfin
      cases pr with
      | nil => cases h9
      | cons v0 pr =>
        obtain ⟨x0, vv', hvv', hv0, hvs'⟩ := rs_stk_cons hvs
        subst hvv'
        obtain ⟨z1, z2⟩ := rs_andE h9
        obtain ⟨hi0, rfl⟩ := rs_den_R (rs_eqE z1) hv0
        · have z3 : (rt_g w.1 v0.2.1).1 = rs_nth l' 0 5 := rs_eqE z2
          obtain ⟨-, -, -, ⟨k, hk9⟩, hrel⟩ := rs_w_of hon.2.1 hi0 (by omega)
          obtain ⟨vs, r1, -⟩ := hrel.1 (by omega)
          rw [r1, z3] at hk9
          have hrv := va_recv hK hP hqc hk9
          rw [hqn] at hrv
          have hPv : PreV s H (MT b).1.1.cls (ad v0.2.1) (va_Pc (.ref (ad v0.2.1) :: vv') (rk_Pre F.1.2.1 F.1.1 rs_NU L f H.size)) vv' := ⟨hbl, hrv, fun U hU hW => ⟨rfl, hpre U hU hW⟩⟩
          have hl9 : vv'.length = c' - 1 := by
            have : (vp.reverse).length = c' := by rw [List.length_reverse]; exact hlen
            rw [hvv, List.length_cons] at this
            omega
          have hstk2 : vp ++ vr = vv'.reverse ++ .ref (ad v0.2.1) :: vr := by
            rw [hstk, List.reverse_cons, List.append_assoc]
            rfl
          rcases q3 with hl | ⟨host, hl⟩
          · exact hfin _ (va_runV (As := vv') (rest := vr) (b := ad v0.2.1) (C := (MT b).1.1.cls) ⟨hx, hb, hml, hown, hts⟩ hM ⟨callB_of (c' - 1) hts hG rfl rfl rfl q1 hl ⟨q2.1, q2.2, hpar⟩ hroom2, i1, i2⟩ hPv rfl hl9 hsz hstk2 (lv_room hcat8) hdg hcs)
          · exact hfin _ (va_runVN (As := vv') (rest := vr) (b := ad v0.2.1) (C := (MT b).1.1.cls) ⟨hx, hb, hml, hown, hts⟩ hM ⟨va_cnB (c' - 1) hts hG rfl rfl rfl hl q1 ⟨q2.1, q2.2, hpar⟩ hroom2, i1, i2⟩ hPv rfl hl9 hsz hstk2 (lv_room hcat8) hdg hcs)
  · subst hm
    obtain ⟨i1, i2, i3, i5, hpar⟩ := q7 rfl
    unfold rs_rcv at h2
    have h9 := h2
    · generalize hpr : pre.reverse = pr at h9 hvs
      generalize hvv : vp.reverse = vv at hvs hM hbl hstk hfin
      cases pr with
      | nil => cases h9
      | cons v0 pr =>
        obtain ⟨x0, vv', hvv', hv0, hvs'⟩ := rs_stk_cons hvs
        subst hvv'
        obtain ⟨z1, -⟩ := rs_andE h9
        obtain ⟨hi0, rfl⟩ := rs_den_R (rs_eqE z1) hv0
        have hPs : PreS s H (va_Pc (.ref (ad v0.2.1) :: vv') (rk_Pre F.1.2.1 F.1.1 rs_NU L f H.size)) (.ref (ad v0.2.1) :: vv') := ⟨hbl, fun U hU hW => ⟨rfl, hpre U hU hW⟩⟩
        have hl9 : vv'.length = c' - 1 := by
          have : (vp.reverse).length = c' := by rw [List.length_reverse]; exact hlen
          rw [hvv, List.length_cons] at this
          omega
        have hstk2 : vp ++ vr = vv'.reverse ++ .ref (ad v0.2.1) :: vr := by
          rw [hstk, List.reverse_cons, List.append_assoc]
          rfl
        have hws : rk_ws (MT b).1 = Jvm.Cond.code (MT b).1.1 (MT b).1.2.1 (MT b).1.2.2.1 none :: rk_tbl := by
          unfold rk_ws
          rw [i3]
        rcases q3 with hl | ⟨host, hl⟩
        · exact hfin _ (va_runI (As := vv') (rest := vr) (b := ad v0.2.1) ⟨hx, hb, hml, hown, hts⟩ hM ⟨callB_of (c' - 1) hts hG hws rfl rfl q1 hl ⟨q2.1, q2.2, hpar⟩ hroom2, i2, i1⟩ hPs rfl hl9 hsz hstk2 (lv_room hcat8) hdg hcs)
        · exact hfin _ (va_runIN (As := vv') (rest := vr) (b := ad v0.2.1) ⟨hx, hb, hml, hown, hts⟩ hM ⟨va_cnB (c' - 1) hts hG hws rfl rfl hl q1 ⟨q2.1, q2.2, hpar⟩ hroom2, i2, i1⟩ hPs rfl hl9 hsz hstk2 (lv_room hcat8) hdg hcs)
theorem rs_o_virt : rs_Snd MT (rs_call 1) (fun _ a _ _ _ => (.invokevirtual a, 3)) (rs_cck MT 1) := rs_callE 1 (by decide)
theorem rs_o_stat : rs_Snd MT (rs_call 0) (fun _ a _ _ _ => (.invokestatic a, 3)) (rs_cck MT 0) := rs_callE 0 (by decide)
theorem rs_o_init : rs_Snd MT (rs_call 2) (fun _ a _ _ _ => (.invokespecial a, 3)) (rs_cck MT 2) := rs_callE 2 (by decide)
end RSS
