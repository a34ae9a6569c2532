/-! contracts that stand for many runs: a step of time over things that hang on its number; a method over things, of which nothing is known behind it -/
/-- a over b, leaf by leaf -/
noncomputable def rs_cq {α : Type} (e : α → α → Bool) (b : α) (a : Lean.RArray α) : Bool := @Lean.RArray.rec α (fun _ => Bool) (fun x => e x b) (fun _ _ _ l r => (@Bool.rec (fun _ => Bool) false r l)) a
noncomputable def rs_tq {α : Type} (e : α → α → Bool) (b : Lean.RArray α) : Lean.RArray α → Bool := @Lean.RArray.rec α (fun _ => Lean.RArray α → Bool) (fun y a => rs_cq e y a) (fun _ _ _ hl hr a => @Lean.RArray.rec α (fun _ => Bool) (fun x => (@Bool.rec (fun _ => Bool) false (hr (.leaf x)) (hl (.leaf x)))) (fun _ al ar _ _ => (@Bool.rec (fun _ => Bool) false (hr ar) (hl al))) a) b
theorem rs_cqE {α : Type} {e : α → α → Bool} {b : α} : ∀ (a : Lean.RArray α), rs_cq e b a = true → ∀ i, e (rt_g a i) b = true
  | .leaf x, h, i => h
  | .branch p l r, h, i => by
    obtain ⟨h1, h2⟩ := rs_andE (c := rs_cq e b l) h
    rw [rt_g_branch]
    split
    · exact rs_cqE l h1 _
    · exact rs_cqE r h2 _
theorem rs_tqE {α : Type} {e : α → α → Bool} : ∀ (b a : Lean.RArray α), rs_tq e b a = true → ∀ i, e (rt_g a i) (rt_g b i) = true
  | .leaf y, a, h, i => rs_cqE a h i
  | .branch p bl br, .leaf x, h, i => by
    obtain ⟨h1, h2⟩ := rs_andE (c := rs_tq e bl (.leaf x)) h
    rw [rt_g_branch]
    split
    · exact rs_tqE bl (.leaf x) h1 (i / 2)
    · exact rs_tqE br (.leaf x) h2 (i / 2)
  | .branch p bl br, .branch q al ar, h, i => by
    obtain ⟨h1, h2⟩ := rs_andE (c := rs_tq e bl al) h
    rw [rt_g_branch, rt_g_branch]
    split
    · exact rs_tqE bl al h1 (i / 2)
    · exact rs_tqE br ar h2 (i / 2)
/-- things over things: those that b says -/
noncomputable def rs_oq (e : rs_V → rs_V → Bool) (a b : rs_O) : Bool := (@Bool.rec (fun _ => Bool) (@Bool.rec (fun _ => Bool) false (@Bool.rec (fun _ => Bool) false (rs_tq e b.2.2 a.2.2) (Nat.beq a.2.1 b.2.1)) (Nat.beq a.1 b.1)) true (Nat.ble 32 b.1))
noncomputable def rs_hq (e : rs_V → rs_V → Bool) (b a : rs_H) : Bool := rs_tq (rs_oq e) b a
theorem rs_hqE {e : rs_V → rs_V → Bool} {b a : rs_H} (h : rs_hq e b a = true) (i : Nat) (ht : (rt_g b i).1 < 32) : (rt_g a i).1 = (rt_g b i).1 ∧ (rt_g a i).2.1 = (rt_g b i).2.1 ∧ ∀ k, e (rt_g (rt_g a i).2.2 k) (rt_g (rt_g b i).2.2 k) = true := by
  have h1 := rs_tqE b a h i
  rcases rs_orE h1 with h2 | h2
  · have := rs_leE h2
    omega
  · obtain ⟨h3, h4⟩ := rs_andE h2
    obtain ⟨h4, h5⟩ := rs_andE h4
    exact ⟨rs_eqE h3, rs_eqE h4, fun k => rs_tqE _ _ h5 k⟩
/-- (1, 7, c) is t + c; else the same, no number of the script -/
noncomputable def rs_ei (t : Nat) (a b : rs_V) : Bool := (@Bool.rec (fun _ => Bool) (@Bool.rec (fun _ => Bool) false (@Bool.rec (fun _ => Bool) false (@Bool.rec (fun _ => Bool) true false (Nat.beq b.1 2)) (Nat.beq a.2.1 b.2.1)) (Nat.beq a.1 b.1)) (@Bool.rec (fun _ => Bool) false (@Bool.rec (fun _ => Bool) false (Nat.beq a.2.1 (Nat.mod (Nat.add t b.2.2) 4294967296)) (Nat.beq a.1 0)) (Nat.beq b.2.1 7)) (Nat.beq b.1 1))
/-- (1, 7, c) has become (1, 7, c + 1) -/
noncomputable def rs_eh (a b : rs_V) : Bool := (@Bool.rec (fun _ => Bool) (@Bool.rec (fun _ => Bool) false (@Bool.rec (fun _ => Bool) false (@Bool.rec (fun _ => Bool) true false (Nat.beq b.1 2)) (Nat.beq a.2.1 b.2.1)) (Nat.beq a.1 b.1)) (@Bool.rec (fun _ => Bool) false (@Bool.rec (fun _ => Bool) false (@Bool.rec (fun _ => Bool) false (Nat.beq a.2.2 (Nat.add b.2.2 1)) (Nat.beq a.2.1 7)) (Nat.beq a.1 1)) (Nat.beq b.2.1 7)) (Nat.beq b.1 1))
noncomputable def rs_in (t : Nat) (b : rs_V) : rs_V := @Bool.rec (fun _ => rs_V) b (0, (Nat.mod (Nat.add t b.2.2) 4294967296), 0) (Nat.beq b.1 1)
noncomputable def rs_mp {α β : Type} (f : α → β) (t : Lean.RArray α) : Lean.RArray β := @Lean.RArray.rec α (fun _ => Lean.RArray β) (fun x => .leaf (f x)) (fun p _ _ l r => .branch p l r) t
theorem rs_mpE {α β : Type} {f : α → β} : ∀ (t : Lean.RArray α) (i : Nat), rt_g (rs_mp f t) i = f (rt_g t i)
  | .leaf x, i => rfl
  | .branch p l r, i => by
    show rt_g (.branch p (rs_mp f l) (rs_mp f r)) i = _
    rw [rt_g_branch, rt_g_branch]
    split
    · exact rs_mpE l _
    · exact rs_mpE r _
noncomputable def rs_ins (t : Nat) (W : rs_H) : rs_H := rs_mp (fun o => (o.1, o.2.1, rs_mp (rs_in t) o.2.2)) W
theorem rs_insE (t : Nat) (W : rs_H) (i : Nat) : rt_g (rs_ins t W) i = ((rt_g W i).1, (rt_g W i).2.1, rs_mp (rs_in t) (rt_g W i).2.2) := rs_mpE W i
theorem rs_Met_imp {l : Launch} {y : MethodName} {ws : List Jvm.Cond} {rm : Room} {Pc Pc' : Array Value → State → Prop} {Qc Qc' : Array Value → State → Outcome → State → Prop} {mc ms : Nat} {free : Addr → Prop} (h : Met l y ws rm Pc Qc mc ms free) (hP : ∀ a s, Pc' a s → Pc a s) (hQ : ∀ a s o t, Pc' a s → Qc a s o t → Qc' a s o t) : Met l y ws rm Pc' Qc' mc ms free := fun p e h1 h2 h3 s m args below h4 h5 hp hk => by
  obtain ⟨n, o, a1, a2, a3, a4, a5⟩ := h p e h1 h2 h3 s m args below h4 h5 (hP _ _ hp) hk
  exact ⟨n, o, a1, a2, a3, hQ _ _ _ _ hp a4, a5⟩
/-- the number of time as number 7 of the script -/
def rs_r7 (r : Nat → Int32) (t : Nat) : Nat → Int32 := fun k => if k = 7 then rs_i t else r k
theorem rs_eiE {r : Nat → Int32} {t sb : Nat} {ad : Nat → Nat} {nn : Nat} {a b : rs_V} (h : rs_ei t a b = true) (x : Value) : rs_den r sb ad nn a x ↔ rs_den (rs_r7 r t) sb ad nn b x := by
  obtain ⟨ta, aa, ca⟩ := a
  obtain ⟨tb, ab, cb⟩ := b
  rcases rs_ifE h with ⟨h1, h⟩ | ⟨h1, h⟩
  · obtain ⟨h2, h⟩ := rs_andE h
    obtain ⟨h3, h4⟩ := rs_andE h
    have e1 : tb = 1 := rs_eqE h1
    have e2 : ab = 7 := rs_eqE h2
    have e3 : ta = 0 := rs_eqE h3
    have e4 : aa = (t + cb) % 4294967296 := rs_eqE h4
    rw [e1, e2, e3, e4]
    show x = .int (rs_i ((t + cb) % 4294967296)) ↔ x = .int (rs_r7 r t 7 + rs_i cb)
    rw [show rs_r7 r t 7 = rs_i t from if_pos rfl, rs_i_add]
  · obtain ⟨h2, h⟩ := rs_andE h
    obtain ⟨h3, h4⟩ := rs_andE h
    have e1 : tb ≠ 1 := rs_neq h1
    have e2 : ta = tb := rs_eqE h2
    have e3 : aa = ab := rs_eqE h3
    have e4 : tb ≠ 2 := rs_neq (rs_notE h4)
    rw [e2, e3]
    rcases tb with _ | _ | _ | _ | _ | _ | _ | tb
    · exact Iff.rfl
    · exact absurd rfl e1
    · exact absurd rfl e4
    · exact Iff.rfl
    · exact Iff.rfl
    · exact Iff.rfl
    · exact Iff.rfl
    · exact Iff.rfl
theorem rs_ehE {r : Nat → Int32} {t sb : Nat} {ad : Nat → Nat} {nn : Nat} {a b : rs_V} (h : rs_eh a b = true) (x : Value) (hd : rs_den (rs_r7 r t) sb ad nn a x) : rs_den r sb ad nn (rs_in (t + 1) b) x := by
  obtain ⟨ta, aa, ca⟩ := a
  obtain ⟨tb, ab, cb⟩ := b
  rcases rs_ifE h with ⟨h1, h⟩ | ⟨h1, h⟩
  · obtain ⟨h2, h⟩ := rs_andE h
    obtain ⟨h3, h⟩ := rs_andE h
    obtain ⟨h4, h5⟩ := rs_andE h
    have e1 : tb = 1 := rs_eqE h1
    have e3 : ta = 1 := rs_eqE h3
    have e4 : aa = 7 := rs_eqE h4
    have e5 : ca = cb + 1 := rs_eqE h5
    rw [e3, e4, e5] at hd
    have hd : x = .int (rs_r7 r t 7 + rs_i (cb + 1)) := hd
    rw [e1]
    show x = .int (rs_i ((t + 1 + cb) % 4294967296))
    rw [hd, show rs_r7 r t 7 = rs_i t from if_pos rfl, rs_i_add, show t + (cb + 1) = t + 1 + cb by omega]
  · obtain ⟨h2, h⟩ := rs_andE h
    obtain ⟨h3, h4⟩ := rs_andE h
    have e1 : tb ≠ 1 := rs_neq h1
    have e2 : ta = tb := rs_eqE h2
    have e3 : aa = ab := rs_eqE h3
    have e4 : tb ≠ 2 := rs_neq (rs_notE h4)
    have e5 : rs_in (t + 1) (tb, ab, cb) = (tb, ab, cb) := by
      unfold rs_in
      have h1 : Nat.beq tb 1 = false := h1
      rw [h1]
    rw [e5]
    rw [e2, e3] at hd
    rcases tb with _ | _ | _ | _ | _ | _ | _ | tb
    · exact hd
    · exact absurd rfl e1
    · exact absurd rfl e4
    · exact hd
    · exact hd
    · exact hd
    · exact hd
    · exact hd
theorem rs_rel_tr {tys : List (ClassId × FieldType)} {dn dn' : rs_V → Value → Prop} {a b : rs_O} {E : va_E} (h1 : a.1 = b.1) (h2 : a.2.1 = b.2.1) (h3 : ∀ k x, dn (rt_g a.2.2 k) x → dn' (rt_g b.2.2 k) x) (hr : rs_rel tys dn a E) : rs_rel tys dn' b E := by
  obtain ⟨q1, q2, q3⟩ := hr
  rw [h1, h2] at q1 q2 q3
  refine ⟨fun a9 => ?_, fun a9 => ?_, fun a9 b9 => ?_⟩
  · obtain ⟨vs, e1, e2, e3, e4⟩ := q1 a9
    exact ⟨vs, e1, e2, e3, fun k hk => (e4 k hk).imp (fun x hx => ⟨hx.1, h3 _ _ hx.2⟩)⟩
  · obtain ⟨cA, g, e1, e2, e3, e4⟩ := q2 a9
    exact ⟨cA, g, e1, e2, e3, fun k hk => h3 _ _ (e4 k hk)⟩
  · obtain ⟨cA, C, g, e1, e2, e3, e4⟩ := q3 a9 b9
    exact ⟨cA, C, g, e1, e2, e3, fun k hk => h3 _ _ (e4 k hk)⟩
/-- the same things -/
noncomputable def rs_ee (a b : rs_V) : Bool := (@Bool.rec (fun _ => Bool) false (@Bool.rec (fun _ => Bool) false (@Bool.rec (fun _ => Bool) false (@Bool.rec (fun _ => Bool) true false (Nat.beq b.1 2)) (@Bool.rec (fun _ => Bool) true false (Nat.beq b.1 1))) (Nat.beq a.2.1 b.2.1)) (Nat.beq a.1 b.1))
theorem rs_eeE {r r' : Nat → Int32} {sb : Nat} {ad : Nat → Nat} {nn : Nat} {a b : rs_V} (h : rs_ee a b = true) (x : Value) : rs_den r sb ad nn a x ↔ rs_den r' sb ad nn b x := by
  obtain ⟨ta, aa, ca⟩ := a
  obtain ⟨tb, ab, cb⟩ := b
  obtain ⟨h1, h⟩ := rs_andE h
  obtain ⟨h2, h⟩ := rs_andE h
  obtain ⟨h3, h4⟩ := rs_andE h
  have e2 : ta = tb := rs_eqE h1
  have e3 : aa = ab := rs_eqE h2
  have e1 : tb ≠ 1 := rs_neq (rs_notE h3)
  have e4 : tb ≠ 2 := rs_neq (rs_notE h4)
  rw [e2, e3]
  rcases tb with _ | _ | _ | _ | _ | _ | _ | tb
  · exact Iff.rfl
  · exact absurd rfl e1
  · exact absurd rfl e4
  · exact Iff.rfl
  · exact Iff.rfl
  · exact Iff.rfl
  · exact Iff.rfl
  · exact Iff.rfl
/-- things that hang on the number have one of two headers; all others are the same -/
noncomputable def rs_sy (s1 s2 h : Nat) : Bool := (@Bool.rec (fun _ => Bool) (Nat.beq h s2) true (Nat.beq h s1))
noncomputable def rs_op (s1 s2 : Nat) (e : rs_V → rs_V → Bool) (a b : rs_O) : Bool := (@Bool.rec (fun _ => Bool) (rs_oq rs_ee a b) (rs_oq e a b) (rs_sy s1 s2 b.1))
noncomputable def rs_hz (s1 s2 : Nat) (e : rs_V → rs_V → Bool) (b a : rs_H) : Bool := rs_tq (rs_op s1 s2 e) b a
theorem rs_oqE {e : rs_V → rs_V → Bool} {a b : rs_O} (h1 : rs_oq e a b = true) (ht : b.1 < 32) : a.1 = b.1 ∧ a.2.1 = b.2.1 ∧ ∀ k, e (rt_g a.2.2 k) (rt_g b.2.2 k) = true := by
  rcases rs_orE h1 with h2 | h2
  · have := rs_leE h2
    omega
  · obtain ⟨h3, h4⟩ := rs_andE h2
    obtain ⟨h4, h5⟩ := rs_andE h4
    exact ⟨rs_eqE h3, rs_eqE h4, fun k => rs_tqE _ _ h5 k⟩
theorem rs_hzE {s1 s2 : Nat} {e : rs_V → rs_V → Bool} {b a : rs_H} (h : rs_hz s1 s2 e b a = true) (i : Nat) (ht : (rt_g b i).1 < 32) : (rt_g a i).1 = (rt_g b i).1 ∧ (rt_g a i).2.1 = (rt_g b i).2.1 ∧ ((rs_sy s1 s2 (rt_g b i).1 = true ∧ ∀ k, e (rt_g (rt_g a i).2.2 k) (rt_g (rt_g b i).2.2 k) = true) ∨ (rs_sy s1 s2 (rt_g b i).1 = false ∧ ∀ k, rs_ee (rt_g (rt_g a i).2.2 k) (rt_g (rt_g b i).2.2 k) = true)) := by
  have h1 := rs_tqE b a h i
  rcases rs_ifE h1 with ⟨h2, h3⟩ | ⟨h2, h3⟩
  · obtain ⟨c1, c2, c3⟩ := rs_oqE h3 ht
    exact ⟨c1, c2, .inl ⟨h2, c3⟩⟩
  · obtain ⟨c1, c2, c3⟩ := rs_oqE h3 ht
    exact ⟨c1, c2, .inr ⟨h2, c3⟩⟩
noncomputable def rs_inz (s1 s2 t : Nat) (W : rs_H) : rs_H := rs_mp (fun o => @Bool.rec (fun _ => rs_O) o (o.1, o.2.1, rs_mp (rs_in t) o.2.2) (rs_sy s1 s2 o.1)) W
theorem rs_inz_t {s1 s2 t : Nat} {W : rs_H} {i : Nat} (h : rs_sy s1 s2 (rt_g W i).1 = true) : rt_g (rs_inz s1 s2 t W) i = ((rt_g W i).1, (rt_g W i).2.1, rs_mp (rs_in t) (rt_g W i).2.2) := by
  have e := rs_mpE (f := fun o => @Bool.rec (fun _ => rs_O) o (o.1, o.2.1, rs_mp (rs_in t) o.2.2) (rs_sy s1 s2 o.1)) W i
  rw [h] at e
  exact e
theorem rs_inz_f {s1 s2 t : Nat} {W : rs_H} {i : Nat} (h : rs_sy s1 s2 (rt_g W i).1 = false) : rt_g (rs_inz s1 s2 t W) i = rt_g W i := by
  have e := rs_mpE (f := fun o => @Bool.rec (fun _ => rs_O) o (o.1, o.2.1, rs_mp (rs_in t) o.2.2) (rs_sy s1 s2 o.1)) W i
  rw [h] at e
  exact e
theorem rs_inz_h {s1 s2 t : Nat} {W : rs_H} {i : Nat} : (rt_g (rs_inz s1 s2 t W) i).1 = (rt_g W i).1 := by
  cases h : rs_sy s1 s2 (rt_g W i).1 with
  | true => rw [rs_inz_t h]
  | false => rw [rs_inz_f h]
def rs_eT : rs_E := [(0, 4294967295, 0), (0, 4294967295, 0), (0, 4294967295, 0), (0, 4294967295, 0), (0, 4294967295, 0), (0, 4294967295, 0), (0, 4294967295, 0), (2147483648, 2147484148, 0)]
theorem rs_eT_ok {r : Nat → Int32} {t : Nat} (ht : t ≤ 500) : rs_env (rs_r7 r t) rs_eT := by
  intro k
  by_cases h7 : k = 7
  · subst h7
    show rs_iv (rs_r7 r t 7) (2147483648, 2147484148, 0)
    rw [show rs_r7 r t 7 = rs_i t from if_pos rfl]
    refine ⟨?_, ?_, fun h => absurd h (by dsimp only; decide), fun h => absurd h (by dsimp only; decide), fun h => absurd h (by dsimp only; decide)⟩
    · dsimp only; rw [rs_b_i, rs_bi_e]; omega
    · dsimp only; rw [rs_b_i, rs_bi_e]; omega
  · have e : rs_eg rs_eT k = (0, 4294967295, 0) := by
      rcases k with _ | _ | _ | _ | _ | _ | _ | _ | k
      · rfl
      · rfl
      · rfl
      · rfl
      · rfl
      · rfl
      · rfl
      · exact absurd rfl h7
      · rfl
    rw [e]
    exact rs_iv_all _
noncomputable def rs_krS (s1 s2 : Nat) (W : rs_H) (nn : Nat) : rs_KR := fun _ _ hp' nn' => (@Bool.rec (fun _ => Bool) false (rs_hz s1 s2 rs_eh W hp') (Nat.beq nn' nn))
/-- a step of time -/
theorem rs_stepCon {s1 s2 q w0 nn : Nat} {W : rs_H} (hS : rs_kc0 q [(4, w0, 0)] rs_eT W nn (rs_krS s1 s2 W nn) = true) (hret : (rs_MT q).1.2.2.2.1 = none) {l : Launch} {tys : List (ClassId × FieldType)} {D : va_G} {r : Nat → Int32} {sb : Nat} (hty : rs_tyq tys) {t : Nat} (ht : t ≤ 500) {c0 : Nat} {en : rs_E} {hp : rs_H} {kr : rs_KR} (hq : rs_hz s1 s2 (rs_ei t) W hp = true) (hk : kr (9, 0, 0) en (rs_inz s1 s2 (t + 1) W) nn = true) : rs_Con l tys D r sb (rs_MT q).1 (rs_MT q).2 [(4, w0, c0)] en hp nn kr := by
  intro he hlen ad L f vs sz hvs hWd
  have hW' : rs_Wd tys (rs_r7 r t) sb W nn ad L f := by
    refine ⟨fun i hi => ⟨(hWd.1 i hi).1, fun htg => ?_⟩, hWd.2⟩
    obtain ⟨a1, a2, a3⟩ := rs_hzE hq i htg
    rcases a3 with ⟨-, a3⟩ | ⟨-, a3⟩
    · exact rs_rel_tr a1 a2 (fun k x h => (rs_eiE (a3 k) x).mp h) ((hWd.1 i hi).2 (by rw [a1]; exact htg))
    · exact rs_rel_tr a1 a2 (fun k x h => (rs_eeE (a3 k) x).mp h) ((hWd.1 i hi).2 (by rw [a1]; exact htg))
  have hvs' : rs_stk (rs_den (rs_r7 r t) sb ad nn) [(4, w0, 0)] vs := by
    obtain ⟨x, st', rfl, h1, h2⟩ := rs_stk_cons hvs
    obtain rfl := rs_stk_nil h2
    exact ⟨h1, trivial⟩
  have hM := rs_kc0_ok l tys D (rs_r7 r t) sb hty q [(4, w0, 0)] rs_eT W nn _ hS (rs_eT_ok ht) hlen ad L f vs sz hvs' hW'
  refine rs_Met_imp hM (fun _ _ h => h) (fun a st oc t9 _ hQ => ?_)
  obtain ⟨⟨x, v, en', hp', nn', ad', L', f', o1, o2, o3, o4, o5, o6, o7, o8, o9, o10⟩, oF⟩ := hQ
  obtain ⟨k1, k2⟩ := rs_andE o3
  have k1 : nn' = nn := rs_eqE k1
  rw [k1] at o6 o7
  have hx : x = none := o2.mpr hret
  obtain ⟨b1, b2, b3, b4, b5, b6⟩ := o7
  refine ⟨⟨x, (9, 0, 0), en, rs_inz s1 s2 (t + 1) W, nn, ad', L', f', o1, o2, hk, he, (fun y hy => absurd (hx.symm.trans hy) (fun h9 => by cases h9)), ⟨fun i hi => ⟨(o6.1 i hi).1, fun htg => ?_⟩, o6.2⟩, ⟨b1, b2, fun i hi htg => ?_, b4, b5, fun a ha hn => b6 a ha (fun i hi htg => hn i hi ?_)⟩, o8, o9, o10⟩, oF⟩
  · rw [rs_inz_h] at htg
    obtain ⟨a1, a2, a3⟩ := rs_hzE k2 i htg
    rcases a3 with ⟨hs, a3⟩ | ⟨hs, a3⟩
    · rw [rs_inz_t hs]
      refine rs_rel_tr (b := ((rt_g W i).1, (rt_g W i).2.1, rs_mp (rs_in (t + 1)) (rt_g W i).2.2)) a1 a2 (fun k x h => ?_) ((o6.1 i hi).2 (by rw [a1]; exact htg))
      dsimp only
      rw [rs_mpE]
      exact rs_ehE (a3 k) x h
    · rw [rs_inz_f hs]
      exact rs_rel_tr a1 a2 (fun k x h => (rs_eeE (a3 k) x).mp h) ((o6.1 i hi).2 (by rw [a1]; exact htg))
  · rw [rs_inz_h] at htg
    rw [(rs_hzE hq i htg).1]
    exact htg
  · rw [(rs_hzE hq i htg).1]
    exact htg
noncomputable def rs_kcS (s1 s2 q0 w0 nn0 ob ix : Nat) (W : rs_H) : rs_KC := fun q as en hp nn kr => (@Bool.rec (fun _ => Bool) (rs_kc0 q as en hp nn kr) (@List.rec _ (fun _ => Bool) false (fun v t _ => (@List.rec _ (fun _ => Bool) (@Bool.rec (fun _ => Bool) false (@Bool.rec (fun _ => Bool) false (@Bool.rec (fun _ => Bool) false (rs_nf (rt_g (rt_g hp ob).2.2 ix).2.1 (fun t => (@Bool.rec (fun _ => Bool) false (@Bool.rec (fun _ => Bool) false (rs_nf (Nat.add t 1) (fun t1 => kr (9, 0, 0) en (rs_inz s1 s2 t1 W) nn)) (rs_hz s1 s2 (rs_ei t) W hp)) (Nat.ble t 500)))) (Nat.beq nn nn0)) (Nat.beq v.2.1 w0)) (Nat.beq v.1 4)) (fun _ _ _ => false) t)) as) (Nat.beq q q0))
theorem rs_kcS_ok {s1 s2 q0 w0 nn0 ob ix : Nat} {W : rs_H} (hS : rs_kc0 q0 [(4, w0, 0)] rs_eT W nn0 (rs_krS s1 s2 W nn0) = true) (hret : (rs_MT q0).1.2.2.2.1 = none) : rs_KCall (rs_kcS s1 s2 q0 w0 nn0 ob ix W) := by
  intro l tys D r sb hty q as en hp nn kr h
  rcases rs_ifE h with ⟨h1, h⟩ | ⟨-, h⟩
  · have h1 : q = q0 := rs_eqE h1
    rw [h1]
    rcases as with _ | ⟨v, _ | ⟨u, as⟩⟩
    · cases h
    · obtain ⟨v1, v2, v3⟩ := v
      obtain ⟨h2, h⟩ := rs_andE h
      obtain ⟨h3, h⟩ := rs_andE h
      obtain ⟨h4, h⟩ := rs_andE h
      have h := rs_nfE h
      obtain ⟨h5, h⟩ := rs_andE h
      obtain ⟨h6, h⟩ := rs_andE h
      have h := rs_nfE h
      have h2 : v1 = 4 := rs_eqE h2
      have h3 : v2 = w0 := rs_eqE h3
      have h4 : nn = nn0 := rs_eqE h4
      rw [h2, h3, h4]
      rw [h4] at h
      exact rs_stepCon hS hret hty (rs_leE h5) h6 h
    · cases h
  · exact rs_kc0_ok l tys D r sb hty q as en hp nn kr h
/-- not in both -/
noncomputable def rs_dj (K P : rs_H) : Bool := rs_tq (fun a b => (@Bool.rec (fun _ => Bool) (Nat.ble 32 b.1) true (Nat.ble 32 a.1))) K P
/-- what is known of the first number of the script is at least that -/
noncomputable def rs_ein (en : rs_E) (lo hi : Nat) : Bool := (@Bool.rec (fun _ => Bool) false (Nat.ble (rs_eg en 1).2.1 hi) (Nat.ble lo (rs_eg en 1).1))
def rs_eP (lo hi : Nat) : rs_E := [(0, 4294967295, 0), (lo, hi, 0), (0, 4294967295, 0)]
theorem rs_einE {r : Nat → Int32} {en : rs_E} {lo hi : Nat} (h : rs_ein en lo hi = true) (he : rs_env r en) : rs_env r (rs_eP lo hi) := by
  obtain ⟨h1, h2⟩ := rs_andE h
  have h1 := rs_leE h1
  have h2 := rs_leE h2
  have h3 := he 1
  intro k
  rcases k with _ | _ | _ | k
  · exact rs_iv_all _
  · exact ⟨Nat.le_trans h1 h3.1, Nat.le_trans h3.2.1 h2, fun h => absurd h (by show ¬ (0 : Nat) = 1; decide), fun h => absurd h (by show ¬ (0 : Nat) = 2; decide), fun h => absurd h (by show ¬ 3 ≤ (0 : Nat); decide)⟩
  · exact rs_iv_all _
  · exact rs_iv_all _
/-- the answer is v: the number, or the first number of the script -/
noncomputable def rs_vq (v : rs_V) (u : rs_V) (en : rs_E) : Bool := (@Bool.rec (fun _ => Bool) (@Bool.rec (fun _ => Bool) false (@Bool.rec (fun _ => Bool) false (@Bool.rec (fun _ => Bool) false (@Bool.rec (fun _ => Bool) (@Bool.rec (fun _ => Bool) false (@Bool.rec (fun _ => Bool) false (Nat.beq u.2.2 0) (Nat.beq u.2.1 1)) (Nat.beq u.1 1)) (@Bool.rec (fun _ => Bool) false (Nat.beq (rs_eg en 1).1 (rs_bi u.2.1)) (Nat.beq (rs_eg en 1).1 (rs_eg en 1).2.1)) (Nat.beq u.1 0)) (Nat.beq v.2.2 0)) (Nat.beq v.2.1 1)) (Nat.beq v.1 1)) (@Bool.rec (fun _ => Bool) false (Nat.beq u.2.1 v.2.1) (Nat.beq u.1 0)) (Nat.beq v.1 0))
theorem rs_vqE {r : Nat → Int32} {sb : Nat} {ad ad' : Nat → Nat} {nn nn' : Nat} {v u : rs_V} {en : rs_E} (h : rs_vq v u en = true) (he : rs_env r en) {y : Value} (hd : rs_den r sb ad nn u y) : rs_den r sb ad' nn' v y := by
  obtain ⟨tv, av, cv⟩ := v
  obtain ⟨tu, au, cu⟩ := u
  rcases rs_ifE h with ⟨h1, h⟩ | ⟨-, h⟩
  · obtain ⟨h2, h3⟩ := rs_andE h
    have e1 : tv = 0 := rs_eqE h1
    have e2 : tu = 0 := rs_eqE h2
    have e3 : au = av := rs_eqE h3
    rw [e2, e3] at hd
    rw [e1]
    exact hd
  · obtain ⟨h1, h⟩ := rs_andE h
    obtain ⟨h2, h⟩ := rs_andE h
    obtain ⟨h3, h⟩ := rs_andE h
    have e1 : tv = 1 := rs_eqE h1
    have e2 : av = 1 := rs_eqE h2
    have e3 : cv = 0 := rs_eqE h3
    rw [e1, e2, e3]
    show y = .int (r 1 + rs_i 0)
    rw [rs_add0]
    rcases rs_ifE h with ⟨h4, h⟩ | ⟨-, h⟩
    · obtain ⟨h5, h6⟩ := rs_andE h
      have e4 : tu = 0 := rs_eqE h4
      have h5 := rs_eqE h5
      have h6 := rs_eqE h6
      have hv := he 1
      rw [e4] at hd
      have hd : y = .int (rs_i au) := hd
      rw [hd]
      have : rs_i au = r 1 := rs_b_inj (by
        rw [rs_b_i]
        have h6 : (rs_eg en 1).1 = rs_bi au := h6
        have := hv.1
        have := hv.2.1
        omega)
      rw [this]
    · obtain ⟨h5, h⟩ := rs_andE h
      obtain ⟨h6, h7⟩ := rs_andE h
      have e4 : tu = 1 := rs_eqE h5
      have e5 : au = 1 := rs_eqE h6
      have e6 : cu = 0 := rs_eqE h7
      rw [e4, e5, e6] at hd
      have hd : y = .int (r 1 + rs_i 0) := hd
      rw [hd, rs_add0]
noncomputable def rs_krP (v : rs_V) : rs_KR := fun u en _ _ => rs_vq v u en
/-- a method, with an answer that is told, and nothing known of its things behind it -/
theorem rs_sumCon {kc : rs_KC} (hkc : rs_KCall kc) {q n nn lo hi : Nat} {as : List rs_V} {P K : rs_H} {v : rs_V} (hC : rs_fd rs_hs (rt_g rs_ct q) kc (rs_krP v) n 0 [] as (rs_eP lo hi) (P, nn, 0, 0) = true) (hdj : rs_dj K P = true) {l : Launch} {tys : List (ClassId × FieldType)} {D : va_G} {r : Nat → Int32} {sb : Nat} (hty : rs_tyq tys) {en : rs_E} {hp : rs_H} {kr : rs_KR} (hen : rs_ein en lo hi = true) (hq : rs_hq rs_ee P hp = true) (hqK : rs_hq rs_ee K hp = true) (hret : (rs_MT q).1.2.2.2.1 ≠ none) (hk : kr v en K nn = true) : rs_Con l tys D r sb (rs_MT q).1 (rs_MT q).2 as en hp nn kr := by
  intro he hlen ad L f vs sz hvs hWd
  have hW' : rs_Wd tys r sb P nn ad L f := by
    refine ⟨fun i hi => ⟨(hWd.1 i hi).1, fun htg => ?_⟩, hWd.2⟩
    obtain ⟨a1, a2, a3⟩ := rs_hqE hq i htg
    exact rs_rel_tr a1 a2 (fun k x h => (rs_eeE (a3 k) x).mp h) ((hWd.1 i hi).2 (by rw [a1]; exact htg))
  have hM := rs_fd_con (D := D) rs_kTM.1 rs_kTM.2 hty (fun tys D r sb hty q as en hp nn kr hq => hkc l tys D r sb hty q as en hp nn kr hq) hC (rs_einE hen he) hlen ad L f vs sz hvs hW'
  refine rs_Met_imp hM (fun _ _ h => h) (fun a st oc t9 _ hQ => ?_)
  obtain ⟨⟨x, u, en', hp', nn', ad', L', f', o1, o2, o3, o4, o5, o6, o7, o8, o9, o10⟩, oF⟩ := hQ
  obtain ⟨b1, b2, b3, b4, b5, b6⟩ := o7
  have hdis : ∀ i, (rt_g K i).1 < 32 → ¬ (rt_g P i).1 < 32 := fun i h1 h2 => by
    have h3 := rs_tqE K P hdj i
    rcases rs_orE h3 with h4 | h4
    · have := rs_leE h4
      omega
    · have := rs_leE h4
      omega
  refine ⟨⟨x, v, en, K, nn, ad', L', f', o1, o2, hk, he, fun y hy => rs_vqE o3 o4 (o5 y hy), ⟨fun i hi => ⟨(o6.1 i (by omega)).1, fun htg => ?_⟩, fun i j hi hj => o6.2.1 i j (by omega) (by omega), hWd.2.2⟩, ⟨Nat.le_refl _, b2, fun i hi htg => ?_, b4, fun i h1 h2 => absurd h1 (by omega), fun a ha hn => b6 a ha (fun i hi htg => hn i hi ?_)⟩, o8, o9, o10⟩, oF⟩
  · obtain ⟨a1, a2, a3⟩ := rs_hqE hqK i htg
    have hL := (hWd.1 i hi).1
    have hf : f' (ad' i) = f (ad i) := by
      rw [b2 i hi]
      exact b6 _ hL (fun j hj hjt e => hdis i htg (by rw [hWd.2.1 i j hi hj e]; exact hjt))
    rw [hf]
    exact rs_rel_tr a1 a2 (fun k x h => rs_den_mono (Nat.le_refl _) b2 ((rs_eeE (a3 k) x).mp h)) ((hWd.1 i hi).2 (by rw [a1]; exact htg))
  · rw [(rs_hqE hqK i htg).1]
    exact htg
  · rw [(rs_hqE hq i htg).1]
    exact htg
