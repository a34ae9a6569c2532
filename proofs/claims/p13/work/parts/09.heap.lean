/-! instructions over cells -/
def rk_kn (y i : Nat) : List (Nat × Nat × Nat) → Option Nat
  | [] => none
  | q :: l => if Nat.beq q.1 y && Nat.beq q.2.1 i then some q.2.2 else rk_kn y i l
theorem rk_kn_ok {y i v : Nat} : ∀ l : List (Nat × Nat × Nat), rk_kn y i l = some v → (y, i, v) ∈ l
  | [], h => by cases h
  | q :: l, h => by
    unfold rk_kn at h
    split at h
    · rename_i hq
      simp only [Bool.and_eq_true, Nat.beq_eq] at hq
      obtain ⟨a, b, d⟩ := q
      dsimp only at hq h
      obtain ⟨rfl, rfl⟩ := hq
      cases h
      exact List.mem_cons_self
    · exact List.mem_cons_of_mem _ (rk_kn_ok l h)
/-- what a store of such a value costs the counters -/
def rk_dc (tv t : rk_AV) : Option Int := if rk_le tv t then some 0 else match t with
  | (1, 0, _) => (match tv with
    | (1, e, _) => if 0 ≤ e then some e else none
    | (0, a, b) => if 0 ≤ a ∧ 0 ≤ b then some b else none
    | _ => none)
  | _ => none
theorem rk_dc_ok {G : Nat → Option Nat} {X d : Int} {tv t : rk_AV} {v : Value} (hX : 0 ≤ X) (h : rk_dc tv t = some d) (hv : rk_has G X tv v) : 0 ≤ d ∧ rk_has G (X + d) t v := by
  unfold rk_dc at h
  split at h
  · rename_i hle
    cases h
    exact ⟨Int.le_refl 0, by rw [Int.add_zero]; exact rk_le_ok hX hle hv⟩
  · split at h
    · split at h
      · split at h
        · rename_i he
          cases h
          refine ⟨he, ?_⟩
          obtain ⟨x, rfl, h1, h2⟩ := hv
          exact ⟨x, rfl, h1, by omega⟩
        · cases h
      · split at h
        · rename_i he
          cases h
          refine ⟨he.2, ?_⟩
          obtain ⟨x, rfl, h1, h2⟩ := hv
          exact ⟨x, rfl, by omega, by omega⟩
        · cases h
      · cases h
    · cases h
abbrev rk_Fl : Type := Nat → Option (Nat × Nat × Nat)
/-- may a kind be written at these places -/
abbrev rk_Wr : Type := Nat → Int → Int → Bool
/-- two contents differ in these places alone -/
def rk_dif (x y : Int) (e0 e : va_E) : Prop := (∃ (ci : Nat) (fs : List Value) (i : Nat) (v : Value), e0 = .inr (ci, fs) ∧ e = .inr (ci, fs.set i v) ∧ x ≤ (i : Int) ∧ (i : Int) ≤ y) ∨ (∃ (cA : ClassId) (n : Nat) (g g' : Nat → Int32), e0 = .inl (cA, n, .inl g) ∧ e = .inl (cA, n, .inl g') ∧ ∀ j : Nat, ((j : Int) < x ∨ y < (j : Int)) → g' j = g j) ∨ (∃ (cA : ClassId) (n : Nat) (g g' : Nat → Option Nat), e0 = .inl (cA, n, .inr (.inr (.inr (.inr g)))) ∧ e = .inl (cA, n, .inr (.inr (.inr (.inr g')))) ∧ ∀ j : Nat, ((j : Int) < x ∨ y < (j : Int)) → g' j = g j)
def rk_gf (nE pc : Nat) (K : Nat → rk_KD) (fl : rk_Fl) (idx : Nat) (S : rk_St) : rk_Sc := match S with
  | (lo, sk, en, kn, fc, co) => match sk with
    | [] => none
    | y :: sk => match en[y]? with
      | some (2, k, _) => (match fl idx with
        | none => none
        | some (ci, i, _) => match K k.toNat with
          | (0, cj, _, ts) => if Nat.beq ci cj && Nat.blt i 1000000 then (match rk_kn y i kn with
            | some v => some [(pc + 3, (lo, v :: sk, en, kn, fc, co))]
            | none => match ts[i]? with
              | none => none
              | some t => if rk_wf nE S then some [(pc + 3, (lo, en.length :: sk, en ++ [t], (y, i, en.length) :: kn, fc, co))] else none) else none
          | _ => none)
      | _ => none
def rk_wOk (w : Nat) (tv : rk_AV) : Bool := if Nat.beq w 0 then rk_isI tv else if Nat.beq w 1 then rk_le tv (0, 0, 1) else if Nat.beq w 2 then rk_isR tv else false
def rk_aOk (tg : Nat) (K : Nat → rk_KD) (ap : Nat × Nat) (k : Nat) (tv : rk_AV) : Bool := if Nat.beq tg 1 then rk_isI tv else Nat.beq (K k).2.2.1 ap.1 && (Nat.beq tv.1 2 && (Nat.beq (K tv.2.1.toNat).1 0 && Nat.beq (K tv.2.1.toNat).2.1 ap.2))
def rk_pf (wr : rk_Wr) (pc : Nat) (K : Nat → rk_KD) (fl : rk_Fl) (idx : Nat) (S : rk_St) : rk_Sc := match S with
  | (lo, sk, en, kn, fc, co) => match sk with
    | [] => none
    | v :: sk => match sk with
      | [] => none
      | y :: sk => match en[v]? with
        | none => none
        | some tv => match en[y]? with
          | some (2, k, _) => (match fl idx with
            | none => none
            | some (ci, i, w) => match K k.toNat with
              | (0, cj, _, ts) => if Nat.beq ci cj && Nat.blt i 1000000 then (match ts[i]? with
                | none => none
                | some t => match rk_dc tv t with
                  | none => none
                  | some d => if decide (co + d ≤ 10000000) && (rk_wOk w tv && wr k.toNat (i : Int) (i : Int)) then
                      some [(pc + 3, (lo, sk, en, (y, i, v) :: kn.filter (fun q => !(Nat.beq q.2.1 i)), fc, co + d))] else none) else none
              | _ => none)
          | _ => none
def rk_al (nE pc : Nat) (K : Nat → rk_KD) (S : rk_St) : rk_Sc := match S with
  | (lo, sk, en, kn, fc, co) => match sk with
    | [] => none
    | y :: sk => match en[y]? with
      | some (2, k, _) => (match K k.toNat with
        | (0, _, _, _) => none
        | (tg, n, _, _) => if Nat.blt n 2147483648 && Nat.blt tg 9 then (if rk_wf nE S then some [(pc + 1, (lo, en.length :: sk, en ++ [(0, (n : Int), (n : Int))], kn, fc, co))] else none) else none)
      | _ => none
abbrev rk_Er : Type := Nat → Int → Int → Option rk_AV
/-- tg 1: ints; 2: references -/
def rk_ald (nE pc tg : Nat) (K : Nat → rk_KD) (ER : rk_Er) (S : rk_St) : rk_Sc := match S with
  | (lo, sk, en, kn, fc, co) => match sk with
    | [] => none
    | i :: sk => match sk with
      | [] => none
      | y :: sk => match en[i]? with
        | none => none
        | some ti => match en[y]? with
          | some (2, k, _) => (match rk_iv ti with
            | none => none
            | some (a, b) => match ER k.toNat a b with
              | none => none
              | some t => if Nat.beq (K k.toNat).1 tg && (decide (0 ≤ a) && (decide (b < ((K k.toNat).2.1 : Int)) && rk_wf nE S)) then (match rk_kn y (1000000 + i) kn with
                | some v => some [(pc + 1, (lo, v :: sk, en, kn, fc, co))]
                | none => some [(pc + 1, (lo, en.length :: sk, en ++ [t], (y, 1000000 + i, en.length) :: kn, fc, co))]) else none)
          | _ => none
def rk_ast (wr : rk_Wr) (pc tg : Nat) (K : Nat → rk_KD) (ER : rk_Er) (ap : Nat × Nat) (S : rk_St) : rk_Sc := match S with
  | (lo, sk, en, kn, fc, co) => match sk with
    | [] => none
    | v :: sk => match sk with
      | [] => none
      | i :: sk => match sk with
        | [] => none
        | y :: sk => match en[v]? with
          | none => none
          | some tv => match en[i]? with
            | none => none
            | some ti => match en[y]? with
              | some (2, k, _) => (match rk_iv ti with
                | none => none
                | some (a, b) => match ER k.toNat a b with
                  | none => none
                  | some t => match rk_dc tv t with
                    | none => none
                    | some d => if Nat.beq (K k.toNat).1 tg && (decide (0 ≤ a) && (decide (b < ((K k.toNat).2.1 : Int)) && (decide (co + d ≤ 10000000) && (rk_aOk tg K ap k.toNat tv && wr k.toNat a b)))) then
                        some [(pc + 1, (lo, sk, en, kn.filter (fun q => Nat.blt q.2.1 1000000), fc, co + d))] else none)
              | _ => none
def rk_s2 (wr : rk_Wr) (nE : Nat) (K : Nat → rk_KD) (ER : rk_Er) (fl : rk_Fl) (ap : Nat × Nat) (pc : Nat) (ins : Instr) (S : rk_St) : rk_Sc := match ins with
  | .getfield i => rk_gf nE pc K fl i S
  | .putfield i => rk_pf wr pc K fl i S
  | .arraylength => rk_al nE pc K S
  | .iaload => rk_ald nE pc 1 K ER S
  | .aaload => rk_ald nE pc 2 K ER S
  | .iastore => rk_ast wr pc 1 K ER ap S
  | .aastore => rk_ast wr pc 2 K ER ap S
  | _ => none
section RKH
variable {p : Program} {l : Launch} {e : Env} {R : Room} {s : State} {m : MethodId} {args : Array Value} {below : List Frame} {meth : Method} {c : Code} {cm sm : Nat} {Q : State → Prop} {cc : ByteArray} {nE : Nat} {r0 : Nat → Value}
variable {Pf : (Nat → va_E) → Prop} {K : Nat → rk_KD} {E : Nat → Nat → rk_AV} {tys : List (ClassId × FieldType)} {D : va_G} {A : Nat → Prop} {H0 : Heap} {G : Nat → Option Nat} {L : List Nat} {nL : Nat} {X : Int}
/-- what the tables say of a field: its class, its place, how it may be stored -/
def rk_FlOk (s : State) (args : Array Value) (Ts : List Jvm.Cond) (own : String) (fl : rk_Fl) : Prop := ∀ (idx ci k w : Nat), fl idx = some (ci, k, w) → ∃ (C : String) (T : u_T) (N : Nat) (ty0 : Nat → FieldType), vwCl[ci]? = some (C, T, N) ∧ k < N ∧ (∀ z ∈ u_ws C T N, z ∈ Ts) ∧ (∀ j, j < N → parseFieldDescriptor (T j).2.2.1 = some (ty0 j)) ∧ (∀ a, a < N → ∀ b, b < N → a ≠ b → (T a).2.1 ≠ (T b).2.1) ∧
  ((Jvm.Cond.fieldLink own idx (T k).1 (T k).2.1 (T k).2.2.1).before args s = true ∨ ∃ host : String, (Jvm.Cond.fieldLinkNest own idx (T k).1 (T k).2.1 (T k).2.2.1 host).before args s = true) ∧
  (w < 3 → (T k).2.2.2 = false) ∧ (w = 0 → ty0 k = .int) ∧ (w = 1 → ty0 k = .boolean) ∧ (w = 2 → ∃ n, ty0 k = .object n)
theorem rk_typed {co : Int} {f : Nat → va_E} {H : Heap} {locs : List Loc} {a k : Nat} (h : rk_w (Pf, K, E, tys, D, A, H0, G, L, nL, X) co f H locs) (ha : G a = some k) (hk9 : (K k).1 ≠ 9) : ∃ q0 : Nat, (va_pl L f)[q0]? = some (a, f a) ∧ rk_cell K E tys G (X + co) k (f a) := by
  obtain ⟨hP, hD, hS, hT, -⟩ := h
  obtain ⟨h1, h2⟩ := hT.1 a k ha hk9
  obtain ⟨q0, hq⟩ := va_pl_get (X := []) (f := f) h1
  exact ⟨q0, hq, h2⟩
theorem rk_w_up {co d : Int} {f : Nat → va_E} {H H1 : Heap} {locs locs1 : List Loc} {a k q0 : Nat} {e : va_E} (h : rk_w (Pf, K, E, tys, D, A, H0, G, L, nL, X) co f H locs) (ha : G a = some k) (hk9 : (K k).1 ≠ 9) (hd : 0 ≤ d) (hq : (va_pl L f)[q0]? = some (a, f a)) (he : rk_cell K E tys G (X + (co + d)) k e) (hP1 : va_P D vwCl ((va_pl L f).set q0 (a, e)) H1) (hS1 : va_S A H0 H1 locs1) (hPf : Pf f → Pf (va_up f a e)) : rk_w (Pf, K, E, tys, D, A, H0, G, L, nL, X) (co + d) (va_up f a e) H1 locs1 := by
  obtain ⟨hP, hD, hS, hT, hPo⟩ := h
  have hL := (hT.1 a k ha hk9).1
  have e1 := va_pl_set (X := []) (e := e) hD hL hq
  have e2 : (va_pl L f).set q0 (a, e) = va_pl L (va_up f a e) := e1
  rw [e2] at hP1
  have hD1 : va_D A (va_pl L (va_up f a e)) := by
    rw [← e2]
    exact hD.set hq
  exact ⟨hP1, hD1, hS1, rk_TY_up (rk_TY_X (by omega) hT) ha he, hPf hPo⟩
theorem rk_s2_ok {wr : rk_Wr} (hPf : ∀ (f : Nat → va_E) (a k : Nat) (e : va_E) (x y : Int), wr k x y = true → G a = some k → rk_dif x y (f a) e → Pf f → Pf (va_up f a e)) (hx : p.tables.exec = Jvm.exec) (hb : c.code = cc) {own : String} (hown : s.vm.findClass own = some m.cls) {Ts : List Jvm.Cond} (hts : ∀ w ∈ Ts, w.before args s = true) (hK : va_K D vwCl tys s) {fl : rk_Fl} (hfl : rk_FlOk s args Ts own fl) {ER : rk_Er} (hER : ∀ k a b t, ER k a b = some t → ∀ j : Nat, a ≤ (j : Int) → (j : Int) ≤ b → E k j = t) {ap : Nat × Nat} (hap : ∀ cA C, tys[ap.1]? = some (cA, .object C) → ∃ q, vwCl[ap.2]? = some q ∧ q.1 = C) (hX : 0 ≤ X)
    {pc len : Nat} {ins : Instr} {S : rk_St} {out : List (Nat × rk_St)} (hdg : decode cc pc = .ok (ins, len)) (hlen : rk_lenOk ins len = true) (h : rk_s2 wr nE K ER fl ap pc ins S = some out) (hk : ∀ q ∈ out, rk_G p l e R s m args below meth c cm sm Q (Pf, K, E, tys, D, A, H0, G, L, nL, X) nE r0 q.1 q.2) : rk_G p l e R s m args below meth c cm sm Q (Pf, K, E, tys, D, A, H0, G, L, nL, X) nE r0 pc S := by
  intro r f H locs ls st hS
  obtain ⟨lo, sk, en, kn, fc, co⟩ := S
  have hco := hS.2.2.2.2.2.2.1
  have hw := hS.2.2.2.2.2.2.2
  have kone : ∀ n, Nat.beq len n = true → len = n := fun n h => Nat.beq_eq ▸ h
  have kald : ∀ tg : Nat, rk_ald nE pc tg K ER (lo, sk, en, kn, fc, co) = some out → ∃ (a : Nat) (i : Int32) (st' : List Value) (t : rk_AV) (k : Nat), st = .int i :: .ref a :: st' ∧ G a = some k ∧ (K k).1 = tg ∧ 0 ≤ i.toInt ∧ i.toInt < ((K k).2.1 : Int) ∧ E k i.toNatClampNeg = t ∧ ∀ v, rk_has G (X + co) t v → rk_elt (f a) (.int i) = some v → W p l e R s m args below meth c H locs cm sm Q (F0 m (pc + 1) ls (v :: st')) := by
    intro tg h
    rcases sk with _ | ⟨i, _ | ⟨y, sk'⟩⟩
    · simp [rk_ald] at h
    · simp [rk_ald] at h
    · simp only [rk_ald] at h
      split at h
      · cases h
      · rename_i ti hti
        split at h
        · rename_i k z hty
          split at h
          · cases h
          · rename_i a b hab
            split at h
            · cases h
            · rename_i t ht
              split at h
              · rename_i hok
                simp only [Bool.and_eq_true, Nat.beq_eq, decide_eq_true_eq] at hok
                obtain ⟨g1, g2, g3, g4⟩ := hok
                obtain ⟨ix, ei, q1, q2⟩ := rk_iv_ok hab (rk_val hS hti)
                obtain ⟨aa, ea, hg⟩ := rk_val hS hty
                obtain ⟨st1, d1, hS1⟩ := rk_pop hS
                obtain ⟨st2, d2, hS2⟩ := rk_pop hS1
                obtain ⟨n, en1, en2, en3⟩ := rk_nI (x := ix) (by omega)
                have hcl : ix.toNatClampNeg = n := by rw [en1]; exact nI_clamp en3
                refine ⟨aa, ix, st2, t, k.toNat, by rw [d1, d2, ei, ea], hg, g1, by omega, by omega, by rw [hcl]; exact hER _ _ _ _ ht n (by omega) (by omega), fun v hv hel => ?_⟩
                have li : i < en.length := (List.getElem?_eq_some_iff.mp hti).1
                have ly : y < en.length := (List.getElem?_eq_some_iff.mp hty).1
                split at h
                · rename_i vv hkn
                  cases h
                  have hmem := rk_kn_ok kn hkn
                  obtain ⟨a', e1, e2⟩ := hS.2.1 _ hmem
                  dsimp only at e1 e2
                  rw [ea] at e1
                  cases e1
                  unfold rk_kf at e2
                  rw [if_neg (by omega), Nat.add_sub_cancel_left, ei, hel] at e2
                  cases e2
                  exact hk _ (List.mem_singleton.mpr rfl) r f H locs ls _ (rk_push vv hS2)
                · cases h
                  obtain ⟨r', e0, e1, hS'⟩ := rk_fresh hS g4 v
                  obtain ⟨st3, d3, hS3⟩ := rk_pop hS'
                  obtain ⟨st4, d4, hS4⟩ := rk_pop hS3
                  have e5 : st4 = st2 := by
                    rw [d1, d2] at d3
                    rw [d4] at d3
                    simp only [List.cons.injEq] at d3
                    exact d3.2.2.symm
                  have h5 := rk_push en.length (rk_addk (q := (y, 1000000 + i, en.length)) (rk_enter (t := t) hS4 (by rw [e0]; exact hv)) ⟨aa, by rw [e1 y ly]; exact ea, by
                    dsimp only
                    unfold rk_kf
                    rw [if_neg (by omega), Nat.add_sub_cancel_left, e1 i li, ei, e0]
                    exact hel⟩)
                  rw [e0, e5] at h5
                  exact hk _ (List.mem_singleton.mpr rfl) r' f H locs ls _ h5
              · cases h
        · cases h
  have kast : ∀ tg : Nat, rk_ast wr pc tg K ER ap (lo, sk, en, kn, fc, co) = some out → ∃ (wx wy : Int) (a : Nat) (i : Int32) (v : Value) (st' : List Value) (t tv : rk_AV) (d : Int) (k : Nat), (wr k wx wy = true ∧ wx ≤ i.toInt ∧ i.toInt ≤ wy) ∧ st = v :: .int i :: .ref a :: st' ∧ G a = some k ∧ (K k).1 = tg ∧ 0 ≤ i.toInt ∧ i.toInt < ((K k).2.1 : Int) ∧ E k i.toNatClampNeg = t ∧ 0 ≤ d ∧ rk_has G (X + (co + d)) t v ∧ rk_has G (X + co) tv v ∧ (if Nat.beq tg 1 then rk_isI tv = true else (K k).2.2.1 = ap.1 ∧ tv.1 = 2 ∧ (K tv.2.1.toNat).1 = 0 ∧ (K tv.2.1.toNat).2.1 = ap.2) ∧
      ∀ (f1 : Nat → va_E) (H1 : Heap) (locs1 : List Loc), rk_w (Pf, K, E, tys, D, A, H0, G, L, nL, X) (co + d) f1 H1 locs1 → (∀ b j, rk_fld (f1 b) j = rk_fld (f b) j) → W p l e R s m args below meth c H1 locs1 cm sm Q (F0 m (pc + 1) ls st') := by
    intro tg h
    rcases sk with _ | ⟨v, _ | ⟨i, _ | ⟨y, sk'⟩⟩⟩
    · simp [rk_ast] at h
    · simp [rk_ast] at h
    · simp [rk_ast] at h
    · simp only [rk_ast] at h
      split at h
      · cases h
      · rename_i tv htv
        split at h
        · cases h
        · rename_i ti hti
          split at h
          · rename_i k z hty
            split at h
            · cases h
            · rename_i a b hab
              split at h
              · cases h
              · rename_i t ht
                split at h
                · cases h
                · rename_i d hd
                  split at h
                  · rename_i hok
                    simp only [Bool.and_eq_true, Nat.beq_eq, decide_eq_true_eq] at hok
                    obtain ⟨g1, g2, g3, g4, g5, g5m⟩ := hok
                    cases h
                    have hvv := rk_val hS htv
                    obtain ⟨hd0, hdv⟩ := rk_dc_ok (X := X + co) (by omega) hd hvv
                    obtain ⟨ix, ei, q1, q2⟩ := rk_iv_ok hab (rk_val hS hti)
                    obtain ⟨aa, ea, hg⟩ := rk_val hS hty
                    obtain ⟨st0, d0, hS0⟩ := rk_pop hS
                    obtain ⟨st1, d1, hS1⟩ := rk_pop hS0
                    obtain ⟨st2, d2, hS2⟩ := rk_pop hS1
                    obtain ⟨n, en1, en2, en3⟩ := rk_nI (x := ix) (by omega)
                    have hcl : ix.toNatClampNeg = n := by rw [en1]; exact nI_clamp en3
                    have hdv2 : rk_has G (X + (co + d)) t (r v) := by
                      have : X + co + d = X + (co + d) := by omega
                      rw [← this]
                      exact hdv
                    refine ⟨a, b, aa, ix, r v, st2, t, tv, d, k.toNat, ⟨g5m, by omega, by omega⟩, by rw [d0, d1, d2, ei, ea], hg, g1, by omega, by omega, by rw [hcl]; exact hER _ _ _ _ ht n (by omega) (by omega), hd0, hdv2, hvv, ?_, fun f1 H1 locs1 hw1 hfl1 => ?_⟩
                    · unfold rk_aOk at g5
                      split at g5
                      · rename_i htg
                        rw [if_pos htg]
                        exact g5
                      · rename_i htg
                        rw [if_neg htg]
                        simp only [Bool.and_eq_true, Nat.beq_eq] at g5
                        exact g5
                    · refine hk _ (List.mem_singleton.mpr rfl) r f1 H1 locs1 ls _ ?_
                      obtain ⟨h1, h2, h3, h4, h5, h6, h7, h8⟩ := hS2
                      exact ⟨fun y' t' ht' => rk_has_X (by
                        show X + co ≤ X + (co + d)
                        omega) (h1 y' t' ht'), fun q hq => by
                          obtain ⟨hq1, hq2⟩ := List.mem_filter.mp hq
                          rw [Nat.blt_eq] at hq2
                          obtain ⟨b1, b2, b3⟩ := h2 q hq1
                          refine ⟨b1, b2, ?_⟩
                          unfold rk_kf at b3 ⊢
                          rw [if_pos hq2] at b3 ⊢
                          rw [hfl1]
                          exact b3, h3, h4, h5, h6, ⟨by omega, by omega⟩, hw1⟩
                  · cases h
          · cases h
  cases ins with
  | getfield idx =>
    have := kone _ hlen; subst this
    rcases sk with _ | ⟨y, sk'⟩
    · simp [rk_s2, rk_gf] at h
    · simp only [rk_s2, rk_gf] at h
      split at h
      · rename_i k z hty
        split at h
        · cases h
        · rename_i ci i w hfi
          split at h
          · rename_i cj z2 ts hKk
            split at h
            · rename_i hcc
              rw [Bool.and_eq_true, Nat.beq_eq, Nat.blt_eq] at hcc
              obtain ⟨hcc, hi6⟩ := hcc
              subst hcc
              obtain ⟨a, ea, hg⟩ := rk_val hS hty
              obtain ⟨st1, d1, hS1⟩ := rk_pop hS
              subst d1
              rw [ea]
              obtain ⟨q0, hq0, hcell⟩ := rk_typed hw hg (by rw [hKk]; dsimp only; omega)
              unfold rk_cell at hcell
              rw [hKk] at hcell
              obtain ⟨fs, hfs, hfl0, hft⟩ := hcell
              rw [hfs] at hq0
              obtain ⟨C, T, N, ty0, hC, hkN, hin, hty0, hnm, hlink, -⟩ := hfl _ _ _ _ hfi
              have go : ∀ v : Value, fs[i]? = some v → W p l e R s m args below meth c H locs cm sm Q (F0 m (pc + 3) ls (v :: st1)) → W p l e R s m args below meth c H locs cm sm Q (F0 m pc ls (.ref a :: st1)) := by
                intro v hv kk
                rcases hlink with hl | ⟨host, hl⟩
                · exact va_get hx hb hts hin hown hK hw.1 q0 hq0 hC i hkN hl (fun _ h9 => h9) hv hdg kk
                · exact va_getN hx hb hts hin hown hK hw.1 q0 hq0 hC i hkN hl (fun _ h9 => h9) hv hdg kk
              split at h
              · rename_i v hkn
                cases h
                have hmem := rk_kn_ok kn hkn
                obtain ⟨a', e1, e2⟩ := hS.2.1 _ hmem
                dsimp only at e1 e2
                rw [ea] at e1
                cases e1
                rw [hfs] at e2
                unfold rk_kf at e2
                rw [if_pos hi6] at e2
                exact go _ e2 (hk _ (List.mem_singleton.mpr rfl) r f H locs ls _ (rk_push v hS1))
              · split at h
                · cases h
                · rename_i t ht
                  split at h
                  · rename_i hwf
                    cases h
                    have hlt : i < fs.length := by rw [hfl0]; exact (List.getElem?_eq_some_iff.mp ht).1
                    have hv : fs[i]? = some fs[i] := List.getElem?_eq_getElem hlt
                    refine go _ hv ?_
                    obtain ⟨r', e0, e1, hS'⟩ := rk_fresh hS hwf fs[i]
                    obtain ⟨st3, d3, hS3⟩ := rk_pop hS'
                    have ly : y < en.length := (List.getElem?_eq_some_iff.mp hty).1
                    have e5 : st3 = st1 := by
                      simp only [List.cons.injEq] at d3
                      exact d3.2.symm
                    have h5 := rk_push en.length (rk_addk (q := (y, i, en.length)) (rk_enter (t := t) hS3 (by rw [e0]; exact hft i t _ ht hv)) ⟨a, by rw [e1 y ly]; exact ea, by
                      dsimp only
                      unfold rk_kf
                      rw [if_pos hi6, hfs, e0]
                      exact hv⟩)
                    rw [e0, e5] at h5
                    exact hk _ (List.mem_singleton.mpr rfl) r' f H locs ls _ h5
                  · cases h
            · cases h
          · cases h
      · cases h
  | putfield idx =>
    have := kone _ hlen; subst this
    rcases sk with _ | ⟨v, _ | ⟨y, sk'⟩⟩
    · simp [rk_s2, rk_pf] at h
    · simp [rk_s2, rk_pf] at h
    · simp only [rk_s2, rk_pf] at h
      split at h
      · cases h
      · rename_i tv htv
        split at h
        · rename_i k z hty
          split at h
          · cases h
          · rename_i ci i w hfi
            split at h
            · rename_i cj z2 ts hKk
              split at h
              · rename_i hcc
                rw [Bool.and_eq_true, Nat.beq_eq, Nat.blt_eq] at hcc
                obtain ⟨hcc, hi6⟩ := hcc
                subst hcc
                split at h
                · cases h
                · rename_i t ht
                  split at h
                  · cases h
                  · rename_i d hd
                    split at h
                    · rename_i hok
                      simp only [Bool.and_eq_true, decide_eq_true_eq] at hok
                      obtain ⟨g1, g2, g2m⟩ := hok
                      cases h
                      have hvv := rk_val hS htv
                      obtain ⟨hd0, hdv⟩ := rk_dc_ok (X := X + co) (by omega) hd hvv
                      have hdv2 : rk_has G (X + (co + d)) t (r v) := by
                        have : X + co + d = X + (co + d) := by omega
                        rw [← this]
                        exact hdv
                      obtain ⟨a, ea, hg⟩ := rk_val hS hty
                      obtain ⟨st0, d0, hS0⟩ := rk_pop hS
                      obtain ⟨st1, d1, hS1⟩ := rk_pop hS0
                      subst d0
                      subst d1
                      rw [ea]
                      obtain ⟨q0, hq0, hcell⟩ := rk_typed hw hg (by rw [hKk]; dsimp only; omega)
                      unfold rk_cell at hcell
                      rw [hKk] at hcell
                      obtain ⟨fs, hfs, hfl0, hft⟩ := hcell
                      have hq1 := hq0
                      rw [hfs] at hq1
                      obtain ⟨C, T, N, ty0, hC, hkN, hin, hty0, hnm, hlink, hf3, hf0, hf1, hf2⟩ := hfl _ _ _ _ hfi
                      have hlt : i < fs.length := by rw [hfl0]; exact (List.getElem?_eq_some_iff.mp ht).1
                      have kfit : w < 3 ∧ narrow (ty0 i) (r v) = r v ∧ fits (ty0 i) (r v) = true := by
                        unfold rk_wOk at g2
                        split at g2
                        · rename_i hw0
                          rw [Nat.beq_eq] at hw0
                          subst hw0
                          obtain ⟨x, ex⟩ := rk_isI_ok g2 hvv
                          rw [hf0 rfl, ex]
                          exact ⟨by omega, rfl, rfl⟩
                        · split at g2
                          · rename_i hw1
                            rw [Nat.beq_eq] at hw1
                            subst hw1
                            obtain ⟨x, ex, p1, p2⟩ := rk_le_ok (X := X + co) (by omega) g2 hvv
                            rw [hf1 rfl, ex]
                            have hx01 : x = 0 ∨ x = 1 := by
                              rcases (by omega : x.toInt = 0 ∨ x.toInt = 1) with h0 | h0
                              · exact Or.inl (Int32.toInt_inj.mp h0)
                              · exact Or.inr (Int32.toInt_inj.mp h0)
                            rcases hx01 with rfl | rfl
                            · exact ⟨by omega, rfl, rfl⟩
                            · exact ⟨by omega, rfl, rfl⟩
                          · split at g2
                            · rename_i hw2
                              rw [Nat.beq_eq] at hw2
                              subst hw2
                              obtain ⟨n, hn⟩ := hf2 rfl
                              rw [hn]
                              rcases rk_isR_ok g2 hvv with ex | ⟨b, ex⟩
                              · rw [ex]; exact ⟨by omega, rfl, rfl⟩
                              · rw [ex]; exact ⟨by omega, rfl, rfl⟩
                            · cases g2
                      have kk : ∀ (H1 : Heap) (locs1 : List Loc), va_P D vwCl ((va_pl L f).set q0 (a, .inr (ci, fs.set i (r v)))) H1 → va_D A ((va_pl L f).set q0 (a, .inr (ci, fs.set i (r v)))) → va_S A H0 H1 locs1 → W p l e R s m args below meth c H1 locs1 cm sm Q (F0 m (pc + 3) ls st1) := by
                        intro H1 locs1 hP1 hD1 hS9
                        have hcell2 : rk_cell K E tys G (X + (co + d)) k.toNat (.inr (ci, fs.set i (r v))) := by
                          unfold rk_cell
                          rw [hKk]
                          refine ⟨_, rfl, by rw [List.length_set]; exact hfl0, fun j t' v' hj hv' => ?_⟩
                          by_cases hji : j = i
                          · subst hji
                            rw [List.getElem?_set_self hlt] at hv'
                            cases hv'
                            rw [ht] at hj
                            cases hj
                            exact hdv2
                          · rw [List.getElem?_set_ne (Ne.symm hji)] at hv'
                            exact rk_has_X (by omega) (hft j t' v' hj hv')
                        have hw1 := rk_w_up (d := d) hw hg (by rw [hKk]; dsimp only; omega) hd0 hq0 hcell2 hP1 hS9 (hPf _ _ _ _ _ _ g2m hg (Or.inl ⟨ci, fs, i, r v, hfs, rfl, Int.le_refl _, Int.le_refl _⟩))
                        refine hk _ (List.mem_singleton.mpr rfl) r (va_up f a (.inr (ci, fs.set i (r v)))) H1 locs1 ls _ ?_
                        obtain ⟨h1, h2, h3, h4, h5, h6, h7, h8⟩ := hS1
                        refine ⟨fun y' t' ht' => rk_has_X (by
                          show X + co ≤ X + (co + d)
                          omega) (h1 y' t' ht'), fun q hq => ?_, h3, h4, h5, h6, ⟨by omega, by omega⟩, hw1⟩
                        rcases List.mem_cons.mp hq with rfl | hq
                        · refine ⟨a, ea, ?_⟩
                          dsimp only
                          unfold rk_kf
                          rw [if_pos hi6, va_up_self]
                          exact List.getElem?_set_self hlt
                        · obtain ⟨hq1, hq2⟩ := List.mem_filter.mp hq
                          obtain ⟨b, e1, e2⟩ := h2 q hq1
                          refine ⟨b, e1, ?_⟩
                          by_cases hba : b = a
                          · subst hba
                            rw [va_up_self]
                            rw [hfs] at e2
                            have hne : ¬ q.2.1 = i := by
                              intro h0
                              rw [h0] at hq2
                              simp at hq2
                            unfold rk_kf at e2 ⊢
                            split
                            · rename_i h6
                              rw [if_pos h6] at e2
                              show (fs.set i (r v))[q.2.1]? = _
                              rw [List.getElem?_set_ne (Ne.symm hne)]
                              exact e2
                            · rename_i h6
                              rw [if_neg h6] at e2
                              cases e2
                          · rw [va_up_ne _ _ hba]
                            exact e2
                      rcases hlink with hl | ⟨host, hl⟩
                      · exact va_put hx hb hts hin ty0 hty0 hnm hown hK hw.1 hw.2.1 hw.2.2.1 q0 hq1 hC i hkN hl (fun _ h9 => h9) (hf3 kfit.1) (hty0 i hkN) kfit.2.1 kfit.2.2 hlt hdg kk
                      · exact va_putN hx hb hts hin ty0 hty0 hnm hown hK hw.1 hw.2.1 hw.2.2.1 q0 hq1 hC i hkN hl (fun _ h9 => h9) (hf3 kfit.1) (hty0 i hkN) kfit.2.1 kfit.2.2 hlt hdg kk
                    · cases h
              · cases h
            · cases h
        · cases h
  | arraylength =>
    have := kone _ hlen; subst this
    rcases sk with _ | ⟨y, sk'⟩
    · simp [rk_s2, rk_al] at h
    · simp only [rk_s2, rk_al] at h
      split at h
      · rename_i k z hty
        split at h
        · cases h
        · rename_i tg n t0 ts hno hKk
          split at h
          · rename_i hn
            rw [Bool.and_eq_true, Nat.blt_eq, Nat.blt_eq] at hn
            split at h
            · rename_i hwf
              cases h
              obtain ⟨a, ea, hg⟩ := rk_val hS hty
              obtain ⟨st1, d1, hS1⟩ := rk_pop hS
              subst d1
              rw [ea]
              obtain ⟨q0, hq0, hcell⟩ := rk_typed hw hg (by rw [hKk]; dsimp only; omega)
              unfold rk_cell at hcell
              rw [hKk] at hcell
              have hval : (Int32.ofNat n).toInt = (n : Int) := nI_toInt (by omega)
              have kk : W p l e R s m args below meth c H locs cm sm Q (F0 m (pc + 1) ls (.int (Int32.ofNat n) :: st1)) := by
                obtain ⟨r', e0, e1, hS'⟩ := rk_fresh hS hwf (.int (Int32.ofNat n))
                obtain ⟨st3, d3, hS3⟩ := rk_pop hS'
                have e5 : st3 = st1 := by
                  simp only [List.cons.injEq] at d3
                  exact d3.2.symm
                have h5 := rk_push en.length (rk_enter (t := (0, (n : Int), (n : Int))) hS3 (by rw [e0]; exact ⟨_, rfl, by omega, by omega⟩))
                rw [e0, e5] at h5
                exact hk _ (List.mem_singleton.mpr rfl) r' f H locs ls _ h5
              rcases tg with _ | _ | tg
              · exact (hno rfl).elim
              · obtain ⟨cA, g, hf, ht, -⟩ := hcell
                rw [hf] at hq0
                exact va_alen hx hb hK hw.1 q0 0 hq0 ht rfl hdg kk
              · obtain ⟨cA, C, g, hf, ht, -⟩ := hcell
                rw [hf] at hq0
                exact va_alen hx hb hK hw.1 q0 t0 hq0 ht rfl hdg kk
            · cases h
          · cases h
      · cases h
  | iaload =>
    have := kone _ hlen; subst this
    obtain ⟨a, i, st', t, k, d1, hg, g1, g2, g3, g4, kk⟩ := kald 1 h
    subst d1
    obtain ⟨q0, hq0, hcell⟩ := rk_typed hw hg (by rw [g1]; decide)
    unfold rk_cell at hcell
    generalize hKk : K k = kd at hcell g1 g3
    obtain ⟨tg, n, t0, ts⟩ := kd
    dsimp only at g1 g3
    subst g1
    obtain ⟨cA, g, hf, ht, hr⟩ := hcell
    rw [hf] at hq0
    obtain ⟨m', e1, e2, e3⟩ := rk_nI g2
    have hcl : i.toNatClampNeg = m' := by rw [e1]; exact nI_clamp e3
    refine va_iald hx hb hK hw.1 q0 0 hq0 ht (vp_in_iff.mpr ⟨g2, g3⟩) hdg (kk _ ?_ (by rw [hf]; rfl))
    rw [← g4, hcl]
    exact hr m' (by omega)
  | aaload =>
    have := kone _ hlen; subst this
    obtain ⟨a, i, st', t, k, d1, hg, g1, g2, g3, g4, kk⟩ := kald 2 h
    subst d1
    obtain ⟨q0, hq0, hcell⟩ := rk_typed hw hg (by rw [g1]; decide)
    unfold rk_cell at hcell
    generalize hKk : K k = kd at hcell g1 g3
    obtain ⟨tg, n, t0, ts⟩ := kd
    dsimp only at g1 g3
    subst g1
    obtain ⟨cA, C, g, hf, ht, hr⟩ := hcell
    rw [hf] at hq0
    obtain ⟨m', e1, e2, e3⟩ := rk_nI g2
    have hcl : i.toNatClampNeg = m' := by rw [e1]; exact nI_clamp e3
    refine va_aldq hx hb hK hw.1 q0 t0 hq0 ht (vp_in_iff.mpr ⟨g2, g3⟩) hdg (kk _ ?_ (by rw [hf]; rfl))
    rw [← g4, hcl]
    exact hr m' (by omega)
  | iastore =>
    have := kone _ hlen; subst this
    obtain ⟨wx, wy, a, i, v, st', t, tv, d, k, ⟨hwr, hwx, hwy⟩, d1, hg, g1, g2, g3, g4, g5, g6, g7, g8, kk⟩ := kast 1 h
    subst d1
    obtain ⟨q0, hq0, hcell⟩ := rk_typed hw hg (by rw [g1]; decide)
    have hcell0 := hcell
    unfold rk_cell at hcell
    generalize hKk : K k = kd at hcell g1 g3
    obtain ⟨tg, n, t0, ts⟩ := kd
    dsimp only at g1 g3
    subst g1
    obtain ⟨cA, g, hf, ht, hr⟩ := hcell
    have hq1 := hq0
    rw [hf] at hq1
    obtain ⟨m', e1, e2, e3⟩ := rk_nI g2
    have hcl : i.toNatClampNeg = m' := by rw [e1]; exact nI_clamp e3
    obtain ⟨x, ex⟩ := rk_isI_ok g8 g7
    subst ex
    refine va_iast hx hb hK hw.1 hw.2.1 hw.2.2.1 q0 0 hq1 ht (vp_in_iff.mpr ⟨g2, g3⟩) hdg (fun H1 locs1 hP1 hD1 hS1 => ?_)
    refine kk (va_up f a (.inl (cA, n, .inl (upd g i.toNatClampNeg x)))) H1 locs1 (rk_w_up (d := d) hw hg (by rw [hKk]; dsimp only; omega) g5 hq0 ?_ hP1 hS1 (hPf _ _ _ _ _ _ hwr hg (Or.inr (Or.inl ⟨cA, n, g, _, hf, rfl, fun j hj => pk_un (by rw [hcl]; omega)⟩)))) (fun b j => ?_)
    · unfold rk_cell
      rw [hKk]
      refine ⟨cA, _, rfl, ht, fun j hj => ?_⟩
      by_cases hji : j = i.toNatClampNeg
      · subst hji
        rw [pk_us, g4]
        exact g6
      · rw [pk_un hji]
        exact rk_has_X (by omega) (hr j hj)
    · by_cases hba : b = a
      · subst hba
        rw [va_up_self, hf]
        rfl
      · rw [va_up_ne _ _ hba]
  | aastore =>
    have := kone _ hlen; subst this
    obtain ⟨wx, wy, a, i, v, st', t, tv, d, k, ⟨hwr, hwx, hwy⟩, d1, hg, g1, g2, g3, g4, g5, g6, g7, g8, kk⟩ := kast 2 h
    subst d1
    obtain ⟨q0, hq0, hcell⟩ := rk_typed hw hg (by rw [g1]; decide)
    have hcell0 := hcell
    unfold rk_cell at hcell
    have g8 : (K k).2.2.1 = ap.1 ∧ tv.1 = 2 ∧ (K tv.2.1.toNat).1 = 0 ∧ (K tv.2.1.toNat).2.1 = ap.2 := g8
    generalize hKk : K k = kd at hcell g1 g3 g8
    obtain ⟨tg, n, t0, ts⟩ := kd
    dsimp only at g1 g3 g8
    subst g1
    obtain ⟨cA, C, g, hf, ht, hr⟩ := hcell
    have hq1 := hq0
    rw [hf] at hq1
    obtain ⟨m', e1, e2, e3⟩ := rk_nI g2
    have hcl : i.toNatClampNeg = m' := by rw [e1]; exact nI_clamp e3
    obtain ⟨g81, g82, g83, g84⟩ := g8
    obtain ⟨tt, tk, tz⟩ := tv
    dsimp only at g82 g83 g84
    subst g82
    obtain ⟨b, eb, hgb⟩ := g7
    subst eb
    obtain ⟨qk, hqk, hcb⟩ := rk_typed hw hgb (by rw [g83]; decide)
    unfold rk_cell at hcb
    generalize hKb : K tk.toNat = kb at hcb g83 g84
    obtain ⟨tb, cb, tb0, tbs⟩ := kb
    dsimp only at g83 g84
    subst g83
    obtain ⟨fs, hfs, -⟩ := hcb
    rw [hfs] at hqk
    rw [g81] at ht
    obtain ⟨q, hq, hqC⟩ := hap cA C ht
    rw [← g84] at hq
    rw [← g81] at ht
    subst hqC
    refine va_astq hx hb hK hw.1 hw.2.1 hw.2.2.1 q0 t0 qk cb hq1 ht hqk hq (vp_in_iff.mpr ⟨g2, g3⟩) hdg (fun H1 locs1 hP1 hD1 hS1 => ?_)
    refine kk (va_up f a (.inl (cA, n, .inr (.inr (.inr (.inr (va_up g i.toNatClampNeg (some b)))))))) H1 locs1 (rk_w_up (d := d) hw hg (by rw [hKk]; dsimp only; omega) g5 hq0 ?_ hP1 hS1 (hPf _ _ _ _ _ _ hwr hg (Or.inr (Or.inr ⟨cA, n, g, _, hf, rfl, fun j hj => va_up_ne _ _ (by rw [hcl]; omega)⟩)))) (fun b' j => ?_)
    · unfold rk_cell
      rw [hKk]
      refine ⟨cA, _, _, rfl, ht, fun j hj => ?_⟩
      by_cases hji : j = i.toNatClampNeg
      · subst hji
        rw [va_up_self, g4]
        exact g6
      · rw [va_up_ne _ _ hji]
        exact rk_has_X (by omega) (hr j hj)
    · by_cases hba : b' = a
      · subst hba
        rw [va_up_self, hf]
        rfl
      · rw [va_up_ne _ _ hba]
  | _ => simp [rk_s2] at h
end RKH
