/-! cells -/
section RSS
variable {MT : Nat → rk_Mt × Nat × Nat}
theorem rs_ix {a n : Nat} (h : a < n) (hn : n ≤ 8192) : vp_in (rs_i a) n ∧ (rs_i a).toNatClampNeg = a := by
  have h1 := rs_i_pos (a := a) (by omega)
  exact ⟨vp_in_iff.mpr ⟨by omega, by omega⟩, rs_cl (by omega)⟩
theorem rs_dpE {n : Nat} (h : n ≤ 8192) : n ≤ 2 ^ rs_dp n := by
  unfold rs_dp
  cases hb : Nat.ble n 64
  · show n ≤ 2 ^ 13
    omega
  · have := rs_leE hb
    show n ≤ 2 ^ 6
    omega
theorem rs_w_of {F : rs_Fx} {hp : rs_H} {nn : Nat} {ad : Nat → Nat} {L : List Nat} {f : Nat → va_E} {H : Heap} {locs : List Loc} (hw : rs_w F hp nn ad L f H locs) {i : Nat} (hi : i < nn) (ht : (rt_g hp i).1 < 32) : va_P F.1.2.1 vwCl (va_pl L f) H ∧ va_D F.1.2.2.1 (va_pl L f) ∧ va_S F.1.2.2.1 F.1.2.2.2.1 H locs ∧ (∃ k : Nat, (va_pl L f)[k]? = some (ad i, f (ad i))) ∧ rs_rel F.1.1 (rs_dn F ad nn) (rt_g hp i) (f (ad i)) := by
  obtain ⟨⟨tys, D, A, H0, r, sb, nL⟩, Z⟩ := F
  obtain ⟨k, h1, h2, h3⟩ := rs_at hw hi ht
  exact ⟨hw.1, hw.2.1, hw.2.2.1, ⟨k, h1⟩, h3⟩
theorem rs_w_all {F : rs_Fx} {hp : rs_H} {nn : Nat} {ad : Nat → Nat} {L : List Nat} {f : Nat → va_E} {H : Heap} {locs : List Loc} (hw : rs_w F hp nn ad L f H locs) : va_P F.1.2.1 vwCl (va_pl L f) H ∧ va_D F.1.2.2.1 (va_pl L f) ∧ va_S F.1.2.2.1 F.1.2.2.2.1 H locs ∧ nn ≤ 1024 := by
  obtain ⟨⟨tys, D, A, H0, r, sb, nL⟩, Z⟩ := F
  exact ⟨hw.1, hw.2.1, hw.2.2.1, hw.2.2.2.2.2⟩
/-- the state behind a change of one thing -/
theorem rs_up9 {F : rs_Fx} {sk sk' lo : List rs_V} {en : rs_E} {w : rs_W} {ad : Nat → Nat} {L : List Nat} {f : Nat → va_E} {H : Heap} {locs : List Loc} {ls : Array Slot} {st st' : List Value} (hon : rs_on F sk lo en w ad L f H locs ls st) (hst : rs_stk (rs_dn F ad w.2.1) sk' st') {i : Nat} (hi : i < w.2.1) (ht : (rt_g w.1 i).1 < 32) {o' : rs_O} {E' : va_E} (hrel : rs_rel F.1.1 (rs_dn F ad w.2.1) o' E') {hp' : rs_H} (g1 : rt_g hp' i = o') (g2 : ∀ j, j < 2 ^ 10 → j ≠ i → rt_g hp' j = rt_g w.1 j) {k : Nat} (hk : (va_pl L f)[k]? = some (ad i, f (ad i))) {H1 : Heap} {locs1 : List Loc} (hP : va_P F.1.2.1 vwCl ((va_pl L f).set k (ad i, E')) H1) (hD : va_D F.1.2.2.1 ((va_pl L f).set k (ad i, E'))) (hS : va_S F.1.2.2.1 F.1.2.2.2.1 H1 locs1) : rs_on F sk' lo en (hp', w.2) ad L (va_up f (ad i) E') H1 locs1 ls st' := by
  obtain ⟨⟨tys, D, A, H0, r, sb, nL⟩, Z⟩ := F
  obtain ⟨h1, h2, h3, h4, h5⟩ := hon
  obtain ⟨a1, a2⟩ := rs_up h2 h3 hi ht hrel g1 g2 hk hP hD hS
  exact ⟨h1, a1, a2, h4, hst⟩
/-- the state behind a thing more -/
theorem rs_more9 {F : rs_Fx} {sk sk' lo : List rs_V} {en : rs_E} {w : rs_W} {ad : Nat → Nat} {L : List Nat} {f : Nat → va_E} {H : Heap} {locs : List Loc} {ls : Array Slot} {st st' : List Value} (hon : rs_on F sk lo en w ad L f H locs ls st) (hst : rs_stk (rs_dn F ad w.2.1) sk' st') {o' : rs_O} {E' : va_E} (hrel : rs_rel F.1.1 (rs_dn F ad w.2.1) o' E') (hnn : w.2.1 < 1024) {hp' : rs_H} (g1 : rt_g hp' w.2.1 = o') (g2 : ∀ j, j < 2 ^ 10 → j ≠ w.2.1 → rt_g hp' j = rt_g w.1 j) {q : Nat} {H1 : Heap} (hP : va_P F.1.2.1 vwCl (va_pl L f ++ [(q, E')]) H1) (hD : va_D F.1.2.2.1 (va_pl L f ++ [(q, E')])) (hS : va_S F.1.2.2.1 F.1.2.2.2.1 H1 locs) (cs ss : Nat) : rs_on F ((4, w.2.1, 0) :: sk') lo en (hp', w.2.1 + 1, cs, ss) (va_up ad w.2.1 q) (L ++ [q]) (va_up f q E') H1 locs ls (.ref q :: st') := by
  obtain ⟨⟨tys, D, A, H0, r, sb, nL⟩, Z⟩ := F
  obtain ⟨h1, h2, h3, h4, h5⟩ := hon
  obtain ⟨a1, a0, a2, a3⟩ := rs_more h2 h3 hrel hnn g1 g2 hP hD hS
  have hm : ∀ v x, rs_den r sb ad w.2.1 v x → rs_den r sb (va_up ad w.2.1 q) (w.2.1 + 1) v x := fun v x h => rs_den_mono (by omega) a1 h
  refine ⟨h1, a2, a3, ⟨h4.1, h4.2.1, fun i hi => ?_⟩, ⟨Nat.lt_succ_self _, congrArg Value.ref a0.symm⟩, rs_stk_mono hm _ _ hst⟩
  obtain ⟨x, e1, e2⟩ := h4.2.2 i hi
  exact ⟨x, e1, hm _ _ e2⟩
/-- a field's words -/
def rs_fk (ft : List (Nat × Nat × Nat × Nat)) (a b c : Nat) : Bool := (match rk_flf ft a with
  | some q => Nat.beq q.1 b && Nat.beq q.2.1 c
  | none => false) && Nat.blt b 16
theorem rs_fkE {ft : List (Nat × Nat × Nat × Nat)} {a b c : Nat} (h : rs_fk ft a b c = true) {s : State} {args : Array Value} {own : String} (hfl : rk_FlOk s args rk_tbl own (rk_flf ft)) : b < 16 ∧ ∃ (C : String) (T : u_T) (N : Nat), vwCl[b]? = some (C, T, N) ∧ c < N ∧ ((Jvm.Cond.fieldLink own a (T c).1 (T c).2.1 (T c).2.2.1).before args s = true ∨ ∃ host : String, (Jvm.Cond.fieldLinkNest own a (T c).1 (T c).2.1 (T c).2.2.1 host).before args s = true) := by
  unfold rs_fk at h
  obtain ⟨h, h2⟩ := rs_tru h
  rw [Nat.blt_eq] at h2
  split at h
  · rename_i q hq
    obtain ⟨h3, h4⟩ := rs_tru h
    obtain ⟨q1, q2, q3⟩ := q
    have h3 := rs_eqE h3
    have h4 := rs_eqE h4
    dsimp only at h3 h4
    subst h3
    subst h4
    obtain ⟨C, T, N, ty0, c1, c2, c3, c4, c5, c6, -⟩ := hfl _ _ _ _ hq
    exact ⟨h2, C, T, N, c1, c2, c6⟩
  · cases h
theorem rs_o_get : rs_Snd MT rs_h_get (fun _ a _ _ _ => (.getfield a, 3)) (fun _ _ ft _ a b c' _ => rs_fk ft a b c') := by
  intro p l e R s m args below meth c Q F M cap ft cx pc a b c' l' kt kc kr sk lo en w hdg hck h hk hc hr ad L f H locs ls st hon
  obtain ⟨hx, hb, ⟨hml, hnL⟩, hown, hts, hK, hA, hN, hroom, hnm, htys, hfl⟩ := cx
  obtain ⟨hb16, C, T, N, c1, c2, c6⟩ := rs_fkE hck hfl
  unfold rs_h_get at h
  cases sk with
  | nil => cases h
  | cons v sk =>
    obtain ⟨xv, s2, rfl, hv, hon2⟩ := rs_pop9 hon
    obtain ⟨h1, h⟩ := rs_andE h
    obtain ⟨hi, rfl⟩ := rs_den_R (rs_eqE h1) hv
    rcases hE : rt_g w.1 v.2.1 with ⟨hd, n, fs⟩
    rw [hE] at h
    obtain ⟨h2, h⟩ := rs_andE h
    have h2 : hd = b := rs_eqE h2
    rw [← h2] at hb16 c1
    obtain ⟨h3, h⟩ := rs_andE h
    have h3 : c' < n := rs_ltE h3
    obtain ⟨hP, hD, hS, ⟨k, hk9⟩, hrel⟩ := rs_w_of hon.2.1 hi (by rw [hE]; dsimp only; omega)
    rw [hE] at hrel
    obtain ⟨vs, e1, e2, e3, e4⟩ := hrel.1 hb16
    rw [e1] at hk9
    obtain ⟨x, x1, x2⟩ := e4 c' h3
    obtain ⟨g1, -, -⟩ := rk_clsOk hd C T N c1
    rcases hT : rt_g fs c' with ⟨t, u⟩
    dsimp only at x2
    rw [hT] at h x2
    rcases c6 with hl | ⟨host, hl⟩
    · exact va_get hx hb hts g1 hown hK hP k hk9 c1 c' c2 hl (fun _ h9 => h9) x1 hdg (rs_goto9 hk h (rs_push9 hon2 x2))
    · exact va_getN hx hb hts g1 hown hK hP k hk9 c1 c' c2 hl (fun _ h9 => h9) x1 hdg (rs_goto9 hk h (rs_push9 hon2 x2))
def rs_isA : FieldType → Bool
  | .object _ => true
  | .array _ => true
  | _ => false
/-- final: in its class's constructor -/
noncomputable def rs_fin (M : rk_Mt) (a b c : Nat) (l : List Nat) : Bool := match vwCl[b]? with
  | none => false
  | some q => !(q.2.1 c).2.2.2 || ((decide (M.1.name = "<init>") && decide ((q.2.1 c).1 = M.1.cls)) && rk_tat (.fieldLink M.1.cls a (q.2.1 c).1 (q.2.1 c).2.1 (q.2.1 c).2.2.1) (rs_nth l 0 0))
theorem rs_putE {fit : rs_V → Bool} {tyok : FieldType → Bool} (hfit : ∀ (r : Nat → Int32) (sb : Nat) (ad : Nat → Nat) (nn : Nat) (v : rs_V) (x : Value) (ty : FieldType), fit v = true → tyok ty = true → rs_den r sb ad nn v x → narrow ty x = x ∧ fits ty x = true) : rs_Snd MT (rs_put fit) (fun _ a _ _ _ => (.putfield a, 3)) (fun M _ ft _ a b c' l' => (rs_fk ft a b c' && tyok (rk_ty b c')) && rs_fin M a b c' l') := by
  intro p l e R s m args below meth c Q F M cap ft cx pc a b c' l' kt kc kr sk lo en w hdg hck h hk hc hr ad L f H locs ls st hon
  obtain ⟨hx, hb, ⟨hml, hnL⟩, hown, hts, hK, hA, hN, hroom, hnm, htys, hfl⟩ := cx
  obtain ⟨hck, hck3⟩ := rs_tru hck
  obtain ⟨hck, hck2⟩ := rs_tru hck
  obtain ⟨hb16, C, T, N, c1, c2, c6⟩ := rs_fkE hck hfl
  unfold rs_put at h
  cases sk with
  | nil => cases h
  | cons u sk =>
    obtain ⟨uv, s1, rfl, hu, hon1⟩ := rs_pop9 hon
    cases sk with
    | nil => cases h
    | cons v sk =>
      obtain ⟨xv, s2, rfl, hv, hon2⟩ := rs_pop9 hon1
      obtain ⟨h1, h⟩ := rs_andE h
      obtain ⟨h1a, h⟩ := rs_andE h
      obtain ⟨hi, rfl⟩ := rs_den_R (rs_eqE h1) hv
      rcases hE : rt_g w.1 v.2.1 with ⟨hd, n, fs⟩
      rw [hE] at h
      obtain ⟨h2, h⟩ := rs_andE h
      have h2 : hd = b := rs_eqE h2
      rw [← h2] at hb16 c1 hck2 hck3
      obtain ⟨h3, h⟩ := rs_andE h
      have h3 : c' < n := rs_ltE h3
      obtain ⟨hP, hD, hS, ⟨k, hk9⟩, hrel⟩ := rs_w_of hon.2.1 hi (by rw [hE]; dsimp only; omega)
      rw [hE] at hrel
      obtain ⟨vs, e1, e2, e3, e4⟩ := hrel.1 hb16
      dsimp only at e2 e3 e4
      have hk8 := hk9
      rw [e1] at hk8
      obtain ⟨g1, g2, g3⟩ := rk_clsOk hd C T N c1
      obtain ⟨f1, f2⟩ := hfit _ _ _ _ u uv (rk_ty hd c') h1a hck2 hu
      have h32 : (2 : Nat) ^ 5 = 32 := rfl
      have h1024 : (2 : Nat) ^ 10 = 1024 := rfl
      have hnn := (rs_w_all hon.2.1).2.2.2
      obtain ⟨fs', b1, b2, b3⟩ := rt_sE 5 c' fs _ (by omega) h
      obtain ⟨hp', d1, d2, d3⟩ := rt_sE 10 v.2.1 w.1 _ (by omega) b1
      have hrel' : rs_rel F.1.1 (rs_dn F ad w.2.1) (hd, n, fs') (.inr (hd, vs.set c' uv)) := by
        refine ⟨fun _ => ⟨vs.set c' uv, rfl, by rw [List.length_set]; exact e2, e3, fun j hj => ?_⟩, fun h9 => absurd h9 (by dsimp only; omega), fun h9 => absurd h9 (by dsimp only; omega)⟩
        dsimp only at hj ⊢
        by_cases hjc : j = c'
        · subst hjc
          rw [b2]
          exact ⟨uv, List.getElem?_set_self (by omega), hu⟩
        · rw [b3 j (by omega) hjc, List.getElem?_set_ne (Ne.symm hjc)]
          exact e4 j hj
      have kk : ∀ (H1 : Heap) (locs1 : List Loc), va_P F.1.2.1 vwCl ((va_pl L f).set k (ad v.2.1, .inr (hd, vs.set c' uv))) H1 → va_D F.1.2.2.1 ((va_pl L f).set k (ad v.2.1, .inr (hd, vs.set c' uv))) → va_S F.1.2.2.1 F.1.2.2.2.1 H1 locs1 → W p l e R s m args below meth c H1 locs1 w.2.2.1 w.2.2.2 Q (F0 m (pc + 3) ls s2) := by
        intro H1 locs1 hP1 hD1 hS1
        exact rs_goto9 hk d1 (rs_up9 hon hon2.2.2.2.2 hi (by rw [hE]; dsimp only; omega) hrel' d2 d3 hk9 hP1 hD1 hS1)
      have hlk : c' < vs.length := by omega
      by_cases hfin : (T c').2.2.2 = false
      · rcases c6 with hl | ⟨host, hl⟩
        · exact va_put hx hb hts g1 (rk_ty hd) g2 g3 hown hK hP hD hS k hk8 c1 c' c2 hl (fun _ h9 => h9) hfin (g2 c' c2) f1 f2 hlk hdg kk
        · exact va_putN hx hb hts g1 (rk_ty hd) g2 g3 hown hK hP hD hS k hk8 c1 c' c2 hl (fun _ h9 => h9) hfin (g2 c' c2) f1 f2 hlk hdg kk
      · have hfin : (T c').2.2.2 = true := by simpa using hfin
        unfold rs_fin at hck3
        rw [c1] at hck3
        dsimp only at hck3
        rw [hfin] at hck3
        obtain ⟨q1, q2⟩ := rs_tru (by simpa using hck3 : ((decide (M.1.name = "<init>") && decide ((T c').1 = M.1.cls)) && rk_tat (.fieldLink M.1.cls a (T c').1 (T c').2.1 (T c').2.2.1) (rs_nth l' 0 0)) = true)
        obtain ⟨q1, q3⟩ := rs_tru q1
        exact va_putF hx hb hts g1 (rk_ty hd) g2 g3 hown hK hP hD hS k hk8 c1 c' c2 (hts _ (rk_tat_ok q2)) (fun _ h9 => h9) hfin (by rw [hnm]; exact of_decide_eq_true q1) (of_decide_eq_true q3) (g2 c' c2) f1 f2 hlk hdg kk
theorem rs_o_putI : rs_Snd MT (rs_put rs_fitI) (fun _ a _ _ _ => (.putfield a, 3)) (fun M _ ft _ a b c' l' => (rs_fk ft a b c' && decide (rk_ty b c' = .int)) && rs_fin M a b c' l') := rs_putE (tyok := fun t => decide (t = .int)) (fun r sb ad nn v x ty h1 h2 hd => by
  have h2 := of_decide_eq_true h2
  subst h2
  obtain ⟨y, rfl⟩ := rs_den_I (rs_leE h1) hd
  exact ⟨rfl, rfl⟩)
theorem rs_o_putZ : rs_Snd MT (rs_put rs_fitZ) (fun _ a _ _ _ => (.putfield a, 3)) (fun M _ ft _ a b c' l' => (rs_fk ft a b c' && decide (rk_ty b c' = .boolean)) && rs_fin M a b c' l') := rs_putE (tyok := fun t => decide (t = .boolean)) (fun r sb ad nn v x ty h1 h2 hd => by
  have h2 := of_decide_eq_true h2
  subst h2
  obtain ⟨h1, h3⟩ := rs_andE h1
  have hx := rs_den_0 (rs_eqE h1) hd
  have h3 := rs_leE h3
  subst hx
  have : v.2.1 = 0 ∨ v.2.1 = 1 := by omega
  rcases this with h | h <;> rw [h] <;> exact ⟨rfl, rfl⟩)
theorem rs_o_putA : rs_Snd MT (rs_put rs_fitA) (fun _ a _ _ _ => (.putfield a, 3)) (fun M _ ft _ a b c' l' => (rs_fk ft a b c' && rs_isA (rk_ty b c')) && rs_fin M a b c' l') := rs_putE (tyok := rs_isA) (fun r sb ad nn v x ty h1 h2 hd => by
  rcases rs_orE h1 with h1 | h1
  · obtain ⟨-, rfl⟩ := rs_den_R (rs_eqE h1) hd
    cases ty <;> first | exact ⟨rfl, rfl⟩ | cases h2
  · obtain rfl := rs_den_N (rs_eqE h1) hd
    cases ty <;> first | exact ⟨rfl, rfl⟩ | cases h2)
theorem rs_o_len : rs_Snd MT rs_h_len (fun _ _ _ _ _ => (.arraylength, 1)) (fun _ _ _ _ _ _ _ _ => true) := by
  intro p l e R s m args below meth c Q F M cap ft cx pc a b c' l' kt kc kr sk lo en w hdg hck h hk hc hr ad L f H locs ls st hon
  obtain ⟨hx, hb, ⟨hml, hnL⟩, hown, hts, hK, hA, hN, hroom, hnm, htys, hfl⟩ := cx
  unfold rs_h_len at h
  cases sk with
  | nil => cases h
  | cons v sk =>
    obtain ⟨xv, s2, rfl, hv, hon2⟩ := rs_pop9 hon
    obtain ⟨h1, h⟩ := rs_andE h
    obtain ⟨hi, rfl⟩ := rs_den_R (rs_eqE h1) hv
    rcases hE : rt_g w.1 v.2.1 with ⟨hd, n, fs⟩
    rw [hE] at h
    obtain ⟨h2, h⟩ := rs_andE h
    obtain ⟨h3, h⟩ := rs_andE h
    have h2 := rs_leE h2
    have h3 := rs_leE h3
    obtain ⟨hP, hD, hS, ⟨k, hk9⟩, hrel⟩ := rs_w_of hon.2.1 hi (by rw [hE]; dsimp only; omega)
    rw [hE] at hrel
    by_cases h16 : hd = 16
    · obtain ⟨cA, g, e1, e2, e3, e4⟩ := hrel.2.1 h16
      rw [e1] at hk9
      exact va_alen hx hb hK hP k 0 hk9 e2 rfl hdg (rs_goto9 hk h (rs_push9 hon2 rfl))
    · obtain ⟨cA, C, g, e1, e2, e3, e4⟩ := hrel.2.2 (by dsimp only; omega) h3
      rw [e1] at hk9
      exact va_alen hx hb hK hP k _ hk9 e2 rfl hdg (rs_goto9 hk h (rs_push9 hon2 rfl))
theorem rs_symIx {lo hi c B n : Nat} (h1 : (lo + c) / 4294967296 = (hi + c) / 4294967296) (h2 : 2147483648 ≤ (lo + c) % 4294967296) (h3 : (hi + c) % 4294967296 < n + 2147483648) (v1 : lo ≤ B) (v2 : B ≤ hi) : ∃ j, (lo + c) % 4294967296 - 2147483648 ≤ j ∧ j < (lo + c) % 4294967296 - 2147483648 + (hi - lo + 1) ∧ j < n ∧ ((B + c) % 4294967296 + 2147483648) % 4294967296 = j := by
  refine ⟨(lo + c) % 4294967296 - 2147483648 + (B - lo), ?_, ?_, ?_, ?_⟩ <;> omega
theorem rs_sameE {fs : Lean.RArray rs_V} {v : rs_V} : ∀ (n j : Nat), rs_same fs v n j = true → ∀ i, j ≤ i → i < j + n → rt_g fs i = v
  | 0, j, _, i, h1, h2 => by omega
  | n + 1, j, h, i, h1, h2 => by
    unfold rs_same at h
    dsimp only at h
    rcases hE : rt_g fs j with ⟨t, a, b⟩
    rw [hE] at h
    obtain ⟨q1, h⟩ := rs_andE h
    obtain ⟨q2, h⟩ := rs_andE h
    obtain ⟨q3, h⟩ := rs_andE h
    have ev : rt_g fs j = v := by
      obtain ⟨v1, v2, v3⟩ := v
      have q1 := rs_eqE q1
      have q2 := rs_eqE q2
      have q3 := rs_eqE q3
      dsimp only at q1 q2 q3
      rw [hE, q1, q2, q3]
    by_cases hi : i = j
    · rw [hi]; exact ev
    · exact rs_sameE n (j + 1) (rs_nfE h) i (by omega) (by omega)
theorem rs_symE {r : Nat → Int32} {en : rs_E} {x : rs_V} {n : Nat} {fs : Lean.RArray rs_V} {kv : rs_V → Bool} {ks : Bool} (h : rs_sym en x n fs kv ks = true) (he : rs_env r en) : (∃ j, j < n ∧ r x.2.1 + rs_i x.2.2 = rs_i j ∧ kv (rt_g fs j) = true) ∨ ks = true := by
  unfold rs_sym at h
  have hvv := he x.2.1
  rcases hG : rs_eg en x.2.1 with ⟨l, hi, pa⟩
  rw [hG] at h hvv
  obtain ⟨q1, h⟩ := rs_andE h
  obtain ⟨q2, h⟩ := rs_andE h
  obtain ⟨q3, h⟩ := rs_andE h
  have q1 := rs_eqE q1
  have q2 := rs_leE q2
  have q3 := rs_leE q3
  obtain ⟨v1, v2, -⟩ := hvv
  dsimp only at v1 v2
  generalize hs : (l + x.2.2) % 4294967296 - 2147483648 = s0 at h
  rcases hT : rt_g fs s0 with ⟨t, u⟩
  rw [hT] at h
  rcases rs_ifE h with ⟨q4, h⟩ | ⟨-, h⟩
  · left
    have hB := rs_b_add (r x.2.1) x.2.2
    have hXi := rs_of_b hB
    obtain ⟨j, j1, j2, j3, j4⟩ := rs_symIx q1 q2 q3 v1 v2
    rw [j4] at hXi
    rw [hs] at j1 j2
    refine ⟨j, j3, hXi, ?_⟩
    rw [rs_sameE _ _ q4 j j1 j2]
    exact h
  · exact Or.inr h
theorem rs_o_iald : rs_Snd MT rs_h_iald (fun _ _ _ _ _ => (.iaload, 1)) (fun _ _ _ _ _ _ _ _ => true) := by
  intro p l e R s m args below meth c Q F M cap ft cx pc a b c' l' kt kc kr sk lo en w hdg hck h hk hc hr ad L f H locs ls st hon
  obtain ⟨hx, hb, ⟨hml, hnL⟩, hown, hts, hK, hA, hN, hroom, hnm, htys, hfl⟩ := cx
  unfold rs_h_iald at h
  cases sk with
  | nil => cases h
  | cons x sk =>
    obtain ⟨xv, s1, rfl, hxx, hon1⟩ := rs_pop9 hon
    cases sk with
    | nil => cases h
    | cons v sk =>
      obtain ⟨vv, s2, rfl, hv, hon2⟩ := rs_pop9 hon1
      obtain ⟨h1, h⟩ := rs_andE h
      obtain ⟨hi, rfl⟩ := rs_den_R (rs_eqE h1) hv
      rcases hE : rt_g w.1 v.2.1 with ⟨hd, n, fs⟩
      rw [hE] at h
      obtain ⟨h2, h⟩ := rs_andE h
      have h2 : hd = 16 := rs_eqE h2
      obtain ⟨x', h, hx'⟩ := rs_resE h hon.1 hxx
      obtain ⟨hP, hD, hS, ⟨k, hk9⟩, hrel⟩ := rs_w_of hon.2.1 hi (by rw [hE]; dsimp only; omega)
      rw [hE] at hrel
      obtain ⟨cA, g, e1, e2, e3, e4⟩ := hrel.2.1 h2
      rw [e1] at hk9
      dsimp only at e3 e4 hk9
      have fin : ∀ (j : Nat) (z : rs_V), xv = .int (rs_i j) → j < n → rt_g fs j = z → kt (Nat.add pc 1) (z :: sk) lo en w = true → W p l e R s m args below meth c H locs w.2.2.1 w.2.2.2 Q (F0 m pc ls (xv :: .ref (ad v.2.1) :: s2)) := by
        intro j z hxv hj hz h9
        subst hxv
        obtain ⟨i1, i2⟩ := rs_ix hj e3
        refine va_iald hx hb hK hP k 0 hk9 e2 i1 hdg (rs_goto9 hk h9 (rs_push9 hon2 ?_))
        rw [i2, ← hz]
        exact e4 j hj
      rcases rs_ifE h with ⟨h3, h⟩ | ⟨-, h⟩
      · obtain ⟨h4, h⟩ := rs_andE h
        have h4 : x'.2.1 < n := rs_ltE h4
        rcases hT : rt_g fs x'.2.1 with ⟨t, u⟩
        dsimp only at h
        rw [hT] at h
        obtain ⟨-, h⟩ := rs_andE h
        exact fin _ _ (rs_den_0 (rs_eqE h3) hx') h4 hT h
      · obtain ⟨h3, h⟩ := rs_andE h
        have ex := rs_den_1 (rs_eqE h3) hx'
        rcases rs_symE (r := F.1.2.2.2.2.1) h hon.1 with ⟨j, j1, j2, j3⟩ | h
        · exact fin j _ (by rw [ex, j2]) j1 rfl j3
        · obtain ⟨en', h5, h6⟩ := rs_spE (r := F.1.2.2.2.2.1) h hon.1
          exact rs_goto9 hk h5 (rs_env9 (rs_push9 (rs_push9 hon2 hv) hx') h6)
theorem rs_o_aald : rs_Snd MT rs_h_aald (fun _ _ _ _ _ => (.aaload, 1)) (fun _ _ _ _ _ _ _ _ => true) := by
  intro p l e R s m args below meth c Q F M cap ft cx pc a b c' l' kt kc kr sk lo en w hdg hck h hk hc hr ad L f H locs ls st hon
  obtain ⟨hx, hb, ⟨hml, hnL⟩, hown, hts, hK, hA, hN, hroom, hnm, htys, hfl⟩ := cx
  unfold rs_h_aald at h
  cases sk with
  | nil => cases h
  | cons x sk =>
    obtain ⟨xv, s1, rfl, hxx, hon1⟩ := rs_pop9 hon
    cases sk with
    | nil => cases h
    | cons v sk =>
      obtain ⟨vv, s2, rfl, hv, hon2⟩ := rs_pop9 hon1
      obtain ⟨h1, h⟩ := rs_andE h
      obtain ⟨hi, rfl⟩ := rs_den_R (rs_eqE h1) hv
      rcases hE : rt_g w.1 v.2.1 with ⟨hd, n, fs⟩
      rw [hE] at h
      obtain ⟨h2, h⟩ := rs_andE h
      obtain ⟨h2b, h⟩ := rs_andE h
      have h2 := rs_leE h2
      have h2b := rs_leE h2b
      obtain ⟨x', h, hx'⟩ := rs_resE h hon.1 hxx
      rcases rs_ifE h with ⟨h3, h⟩ | ⟨-, h⟩
      · obtain ⟨h4, h⟩ := rs_andE h
        have h4 : x'.2.1 < n := rs_ltE h4
        obtain ⟨hP, hD, hS, ⟨k, hk9⟩, hrel⟩ := rs_w_of hon.2.1 hi (by rw [hE]; dsimp only; omega)
        rw [hE] at hrel
        obtain ⟨cA, C, g, e1, e2, e3, e4⟩ := hrel.2.2 h2 h2b
        rw [e1] at hk9
        dsimp only at e3 e4 hk9
        rcases hT : rt_g fs x'.2.1 with ⟨t, u⟩
        dsimp only at h
        rw [hT] at h
        have ex := rs_den_0 (rs_eqE h3) hx'
        subst ex
        obtain ⟨i1, i2⟩ := rs_ix h4 e3
        refine va_aldq hx hb hK hP k _ hk9 e2 i1 hdg (rs_goto9 hk h (rs_push9 hon2 ?_))
        rw [i2, ← hT]
        exact e4 _ h4
      · obtain ⟨h3, h⟩ := rs_andE h
        obtain ⟨en', h5, h6⟩ := rs_spE (r := F.1.2.2.2.2.1) h hon.1
        exact rs_goto9 hk h5 (rs_env9 (rs_push9 (rs_push9 hon2 hv) hx') h6)
theorem rs_o_iast : rs_Snd MT rs_h_iast (fun _ _ _ _ _ => (.iastore, 1)) (fun _ _ _ _ _ _ _ _ => true) := by
  intro p l e R s m args below meth c Q F M cap ft cx pc a b c' l' kt kc kr sk lo en w hdg hck h hk hc hr ad L f H locs ls st hon
  obtain ⟨hx, hb, ⟨hml, hnL⟩, hown, hts, hK, hA, hN, hroom, hnm, htys, hfl⟩ := cx
  unfold rs_h_iast at h
  cases sk with
  | nil => cases h
  | cons u sk =>
    obtain ⟨uv, s0, rfl, hu, hon0⟩ := rs_pop9 hon
    cases sk with
    | nil => cases h
    | cons x sk =>
      obtain ⟨xv, s1, rfl, hxx, hon1⟩ := rs_pop9 hon0
      cases sk with
      | nil => cases h
      | cons v sk =>
        obtain ⟨vv, s2, rfl, hv, hon2⟩ := rs_pop9 hon1
        obtain ⟨h1, h⟩ := rs_andE h
        obtain ⟨h1b, h⟩ := rs_andE h
        obtain ⟨hi, rfl⟩ := rs_den_R (rs_eqE h1) hv
        obtain ⟨U, rfl⟩ := rs_den_I (rs_leE h1b) hu
        rcases hE : rt_g w.1 v.2.1 with ⟨hd, n, fs⟩
        rw [hE] at h
        obtain ⟨h2, h⟩ := rs_andE h
        have h2 : hd = 16 := rs_eqE h2
        obtain ⟨x', h, hx'⟩ := rs_resE h hon.1 hxx
        rcases rs_ifE h with ⟨h3, h⟩ | ⟨-, h⟩
        · obtain ⟨h4, h⟩ := rs_andE h
          have h4 : x'.2.1 < n := rs_ltE h4
          obtain ⟨hP, hD, hS, ⟨k, hk9⟩, hrel⟩ := rs_w_of hon.2.1 hi (by rw [hE]; dsimp only; omega)
          rw [hE] at hrel
          obtain ⟨cA, g, e1, e2, e3, e4⟩ := hrel.2.1 h2
          have hk8 := hk9
          rw [e1] at hk8
          dsimp only at e3 e4 hk8
          have ex := rs_den_0 (rs_eqE h3) hx'
          subst ex
          obtain ⟨i1, i2⟩ := rs_ix h4 e3
          have hdp := rs_dpE e3
          have h1024 : (2 : Nat) ^ 10 = 1024 := rfl
          have hnn := (rs_w_all hon.2.1).2.2.2
          obtain ⟨fs', b1, b2, b3⟩ := rt_sE (rs_dp n) x'.2.1 fs _ (by omega) h
          obtain ⟨hp', d1, d2, d3⟩ := rt_sE 10 v.2.1 w.1 _ (by omega) b1
          refine va_iast hx hb hK hP hD hS k 0 hk8 e2 i1 hdg (fun H1 locs1 hP1 hD1 hS1 => ?_)
          rw [i2] at hP1 hD1
          refine rs_goto9 hk d1 (rs_up9 hon hon2.2.2.2.2 hi (by rw [hE]; dsimp only; omega) ⟨fun h9 => absurd h9 (by dsimp only; omega), fun _ => ⟨cA, _, rfl, e2, e3, fun j hj => ?_⟩, fun h9 => absurd h9 (by dsimp only; omega)⟩ d2 d3 hk9 hP1 hD1 hS1)
          dsimp only at hj ⊢
          by_cases hjx : j = x'.2.1
          · subst hjx
            rw [b2, pk_us]
            exact hu
          · rw [b3 j (by omega) hjx, pk_un hjx]
            exact e4 j hj
        · obtain ⟨h3, h⟩ := rs_andE h
          obtain ⟨en', h5, h6⟩ := rs_spE (r := F.1.2.2.2.2.1) h hon.1
          exact rs_goto9 hk h5 (rs_env9 (rs_push9 (rs_push9 (rs_push9 hon2 hv) hx') hu) h6)
theorem rs_aokE {hd ci : Nat} (h : rs_aok hd ci = true) {cI c1 c2 c3 c4 c5 : ClassId} : 17 ≤ hd ∧ hd ≤ 31 ∧ ci < 16 ∧ ∃ (q : vw_C) (cA : ClassId), vwCl[ci]? = some q ∧ (rk_tys cI c1 c2 c3 c4 c5)[hd - 16]? = some (cA, .object q.1) := by
  unfold rs_aok at h
  rcases rs_ifE h with ⟨h1, h⟩ | ⟨-, h⟩
  · have e1 : hd = 17 := rs_eqE h1; have e2 : ci = 7 := rs_eqE h; rw [e1, e2]
    exact ⟨by decide, by decide, by decide, _, _, rfl, rfl⟩
  · rcases rs_ifE h with ⟨h1, h⟩ | ⟨-, h⟩
    · have e1 : hd = 18 := rs_eqE h1; have e2 : ci = 2 := rs_eqE h; rw [e1, e2]
      exact ⟨by decide, by decide, by decide, _, _, rfl, rfl⟩
    · rcases rs_ifE h with ⟨h1, h⟩ | ⟨-, h⟩
      · have e1 : hd = 19 := rs_eqE h1; have e2 : ci = 5 := rs_eqE h; rw [e1, e2]
        exact ⟨by decide, by decide, by decide, _, _, rfl, rfl⟩
      · rcases rs_ifE h with ⟨h1, h⟩ | ⟨-, h⟩
        · have e1 : hd = 20 := rs_eqE h1; have e2 : ci = 1 := rs_eqE h; rw [e1, e2]
          exact ⟨by decide, by decide, by decide, _, _, rfl, rfl⟩
        · rcases rs_ifE h with ⟨h1, h⟩ | ⟨-, h⟩
          · have e1 : hd = 21 := rs_eqE h1; have e2 : ci = 4 := rs_eqE h; rw [e1, e2]
            exact ⟨by decide, by decide, by decide, _, _, rfl, rfl⟩
          · cases h
theorem rs_o_aast : rs_Snd MT rs_h_aast (fun _ _ _ _ _ => (.aastore, 1)) (fun _ _ _ _ _ _ _ _ => true) := by
  intro p l e R s m args below meth c Q F M cap ft cx pc a b c' l' kt kc kr sk lo en w hdg hck h hk hc hr ad L f H locs ls st hon
  obtain ⟨hx, hb, ⟨hml, hnL⟩, hown, hts, hK, hA, hN, hroom, hnm, htys, hfl⟩ := cx
  unfold rs_h_aast at h
  cases sk with
  | nil => cases h
  | cons u sk =>
    obtain ⟨uv, s0, rfl, hu, hon0⟩ := rs_pop9 hon
    cases sk with
    | nil => cases h
    | cons x sk =>
      obtain ⟨xv, s1, rfl, hxx, hon1⟩ := rs_pop9 hon0
      cases sk with
      | nil => cases h
      | cons v sk =>
        obtain ⟨vv, s2, rfl, hv, hon2⟩ := rs_pop9 hon1
        obtain ⟨h1, h⟩ := rs_andE h
        obtain ⟨h1b, h⟩ := rs_andE h
        obtain ⟨h1c, h⟩ := rs_andE h
        obtain ⟨hi, rfl⟩ := rs_den_R (rs_eqE h1) hv
        have ex := rs_den_0 (rs_eqE h1b) hxx
        obtain ⟨hui, rfl⟩ := rs_den_R (rs_eqE h1c) hu
        subst ex
        rcases hE : rt_g w.1 v.2.1 with ⟨hd, n, fs⟩
        rw [hE] at h
        obtain ⟨h2, h⟩ := rs_andE h
        obtain ⟨h4, h⟩ := rs_andE h
        have h4 : x.2.1 < n := rs_ltE h4
        obtain ⟨cI, c1, c2, c3, c4, c5, hty⟩ := htys
        obtain ⟨o1, o2, o3, q, cB, o4, o5⟩ := rs_aokE h2 (cI := cI) (c1 := c1) (c2 := c2) (c3 := c3) (c4 := c4) (c5 := c5)
        rw [← hty] at o5
        obtain ⟨hP, hD, hS, ⟨k, hk9⟩, hrel⟩ := rs_w_of hon.2.1 hi (by rw [hE]; dsimp only; omega)
        rw [hE] at hrel
        obtain ⟨cA, C, g, e1, e2, e3, e4⟩ := hrel.2.2 o1 o2
        have hk8 := hk9
        rw [e1] at hk8
        dsimp only at e2 e3 e4 hk8
        rw [o5] at e2
        cases e2
        obtain ⟨-, -, -, ⟨ku, hku⟩, hrelu⟩ := rs_w_of hon.2.1 hui (by omega)
        obtain ⟨vs, w1, w2, w3, w4⟩ := hrelu.1 o3
        rw [w1] at hku
        obtain ⟨i1, i2⟩ := rs_ix h4 e3
        have hdp := rs_dpE e3
        have h1024 : (2 : Nat) ^ 10 = 1024 := rfl
        have hnn := (rs_w_all hon.2.1).2.2.2
        obtain ⟨fs', b1, b2, b3⟩ := rt_sE (rs_dp n) x.2.1 fs _ (by omega) h
        obtain ⟨hp', d1, d2, d3⟩ := rt_sE 10 v.2.1 w.1 _ (by omega) b1
        refine va_astq hx hb hK hP hD hS k (hd - 16) ku _ hk8 o5 hku o4 i1 hdg (fun H1 locs1 hP1 hD1 hS1 => ?_)
        rw [i2] at hP1 hD1
        have hrel' : rs_rel F.1.1 (rs_dn F ad w.2.1) (hd, n, fs') (.inl (cB, n, .inr (.inr (.inr (.inr (va_up g x.2.1 (some (ad u.2.1)))))))) := by
          refine ⟨fun h9 => absurd h9 (by dsimp only; omega), fun h9 => absurd h9 (by dsimp only; omega), fun _ _ => ⟨cB, q.1, va_up g x.2.1 (some (ad u.2.1)), rfl, o5, e3, fun j hj => ?_⟩⟩
          dsimp only at hj ⊢
          by_cases hjx : j = x.2.1
          · subst hjx
            rw [b2, va_up_self]
            exact hu
          · rw [b3 j (by omega) hjx, va_up_ne _ _ hjx]
            exact e4 j hj
        exact rs_goto9 hk d1 (rs_up9 hon hon2.2.2.2.2 hi (by rw [hE]; dsimp only; omega) hrel' d2 d3 hk9 hP1 hD1 hS1)
end RSS
