/-! a call on a part of the world: the SpaceLinks itself stays out -/
def rf_t (t : rk_AV) : Bool := match t with
  | (2, k, _) => !(decide (k.toNat = 11))
  | (3, k, _) => !(decide (k.toNat = 11))
  | _ => true
def rf_k (K : rk_KD) : Bool := K.2.2.2.all rf_t
theorem rf_ks : ∀ k, rf_k (rk_K k) = true ∨ k = 11 := by
  intro k
  by_cases hk : (Nat.ble 1000 k && Nat.ble k 1004) = true
  · left
    unfold rk_K
    rw [if_pos hk]
    rfl
  · unfold rk_K
    rw [if_neg hk]
    by_cases h34 : k < 34
    · have : ∀ k, k < 34 → (rf_k (rk_kt.getD k (8, 0, 0, [])) = true ∨ k = 11) := by decide +kernel
      exact this k h34
    · left
      have e : rk_kt[k]? = none := List.getElem?_eq_none (by
        have : rk_kt.length = 34 := by decide +kernel
        omega)
      rw [List.getD_eq_getElem?_getD, e]
      rfl
theorem rf_mS : rm_mS.all rf_t = true ∧ rm_mR.all rf_t = true ∧ rm_mD.all rf_t = true := by decide +kernel
theorem rf_gd {l : List rk_AV} (h : l.all rf_t = true) (i : Nat) : rf_t (l.getD i rk_full) = true := by
  rw [List.getD_eq_getElem?_getD]
  cases hi : l[i]? with
  | none => rfl
  | some t => exact List.all_eq_true.mp h t (List.mem_of_getElem? hi)
theorem rf_E (ad : Nat → Nat) (k i : Nat) : rf_t (rk_E ad k i) = true := by
  unfold rk_E
  split
  · rfl
  · split
    · unfold rm_mE
      split
      · exact rf_gd rf_mS.1 _
      · split
        · exact rf_gd rf_mS.2.1 _
        · split
          · exact rf_gd rf_mS.2.2 _
          · split
            · rfl
            · rfl
    · by_cases h34 : k < 34
      · have : ∀ k, k < 34 → rf_t ((rk_et.getD k none).getD rk_full) = true := by decide +kernel
        exact this k h34
      · have e : rk_et[k]? = none := List.getElem?_eq_none (by
          have : rk_et.length ≤ 34 := by decide +kernel
          omega)
        rw [List.getD_eq_getElem?_getD, e]
        rfl
theorem rf_has {G : Nat → Option Nat} {a0 : Nat} (h0 : G a0 = some 11) {X : Int} {t : rk_AV} {v : Value} (ht : rf_t t = true) (h : rk_has G X t v) : rk_has (fun a => if a = a0 then none else G a) X t v := by
  obtain ⟨n, a, b⟩ := t
  have key : ∀ q : Nat, a.toNat ≠ 11 → G q = some a.toNat → (fun a => if a = a0 then none else G a) q = some a.toNat := by
    intro q hne hq
    show (if q = a0 then none else G q) = _
    rw [if_neg (fun h9 => hne (by rw [h9, h0] at hq; exact (Option.some.inj hq).symm))]
    exact hq
  rcases n with _ | _ | _ | _ | n
  · exact h
  · exact h
  · have ht : (!(decide (a.toNat = 11))) = true := ht
    have hne : a.toNat ≠ 11 := by simpa using ht
    obtain ⟨q, e, hq⟩ := (h : ∃ q : Nat, v = .ref q ∧ G q = some a.toNat)
    exact (⟨q, e, key q hne hq⟩ : ∃ q : Nat, v = .ref q ∧ (fun a => if a = a0 then none else G a) q = some a.toNat)
  · have ht : (!(decide (a.toNat = 11))) = true := ht
    have hne : a.toNat ≠ 11 := by simpa using ht
    rcases (h : v = .null ∨ ∃ q : Nat, v = .ref q ∧ G q = some a.toNat) with h | ⟨q, e, hq⟩
    · exact (Or.inl h : v = .null ∨ ∃ q : Nat, v = .ref q ∧ (fun a => if a = a0 then none else G a) q = some a.toNat)
    · exact (Or.inr ⟨q, e, key q hne hq⟩ : v = .null ∨ ∃ q : Nat, v = .ref q ∧ (fun a => if a = a0 then none else G a) q = some a.toNat)
  · exact h
section RFT
variable {cI c1 c2 c3 c4 c5 : ClassId} {ad : Nat → Nat} {G : Nat → Option Nat} {L : List Nat} {X : Int} {f : Nat → va_E} {a0 : Nat}
theorem rf_TY (hT : rm_TY cI c1 c2 c3 c4 c5 ad G X L f) (h0 : G a0 = some 11) (h1 : ∀ a, G a = some 11 → a = a0) : rm_TY cI c1 c2 c3 c4 c5 ad (fun a => if a = a0 then none else G a) X (L.filter (fun a => !(a == a0))) f := by
  refine ⟨fun a k ha hk => ?_, fun a k hk => ?_⟩
  · have ha : (if a = a0 then none else G a) = some k := ha
    by_cases haq : a = a0
    · rw [if_pos haq] at ha
      cases ha
    · rw [if_neg haq] at ha
      obtain ⟨q1, q2⟩ := hT.1 a k ha hk
      refine ⟨List.mem_filter.mpr ⟨q1, by simpa using haq⟩, ?_⟩
      have hk11 : k ≠ 11 := fun h9 => haq (h1 a (by rw [ha, h9]))
      have hks := (rf_ks k).resolve_right hk11
      unfold rk_cell at q2 ⊢
      generalize rk_K k = K at q2 hks ⊢
      obtain ⟨n, ci, t0, ts⟩ := K
      rcases n with _ | _ | n
      · obtain ⟨fs, w1, w2, w3⟩ := q2
        exact ⟨fs, w1, w2, fun i t v hi hv => rf_has h0 (List.all_eq_true.mp hks t (List.mem_of_getElem? hi)) (w3 i t v hi hv)⟩
      · obtain ⟨cA, g, w1, w2, w3⟩ := q2
        exact ⟨cA, g, w1, w2, fun i hi => rf_has h0 (rf_E ad k i) (w3 i hi)⟩
      · obtain ⟨cA, C, g, w1, w2, w3⟩ := q2
        exact ⟨cA, C, g, w1, w2, fun i hi => rf_has h0 (rf_E ad k i) (w3 i hi)⟩
  · show (if a = a0 then none else G a) = some k ↔ _
    by_cases haq : a = a0
    · rw [if_pos haq]
      refine ⟨fun h9 => (by cases h9), fun h9 => ?_⟩
      have := (hT.2 a k hk).mpr h9
      rw [haq, h0] at this
      cases this
      exact absurd (rk_K_9 hk).1 (by decide)
    · rw [if_neg haq]
      exact hT.2 a k hk
/-- and it comes back -/
theorem rf_back {Y : Int} {u : Nat → va_E} (hXY : X ≤ Y) (hT : rm_TY cI c1 c2 c3 c4 c5 ad G X L f) (h0 : G a0 = some 11) (hu : rm_TY cI c1 c2 c3 c4 c5 ad (fun a => if a = a0 then none else G a) Y (L.filter (fun a => !(a == a0))) u) : rm_TY cI c1 c2 c3 c4 c5 ad G Y L (fun a => if a = a0 then f a0 else u a) := by
  have g2 : ∀ a k, (fun a => if a = a0 then none else G a) a = some k → G a = some k := by
    intro a k ha
    have ha : (if a = a0 then none else G a) = some k := ha
    by_cases haq : a = a0
    · rw [if_pos haq] at ha
      cases ha
    · rw [if_neg haq] at ha
      exact ha
  refine ⟨fun a k ha hk => ?_, fun a k hk => hT.2 a k hk⟩
  by_cases haq : a = a0
  · subst haq
    obtain ⟨q1, q2⟩ := hT.1 a k ha hk
    refine ⟨q1, ?_⟩
    have e : (fun b => if b = a then f a else u b) a = f a := if_pos rfl
    rw [e]
    exact rk_cell_X hXY q2
  · obtain ⟨q1, q2⟩ := hu.1 a k (by show (if a = a0 then none else G a) = some k; rw [if_neg haq]; exact ha) hk
    refine ⟨(List.mem_filter.mp q1).1, ?_⟩
    have e : (fun b => if b = a0 then f a0 else u b) a = u a := if_neg haq
    rw [e]
    exact ty_cell_G g2 q2
end RFT
section RFW
variable {base : Nat} {l : Launch} {cI c1 c2 c3 c4 c5 : ClassId} {D : va_G} {ad adV : Nat → Nat} {M : rk_Mt} {mt : Nat → rk_Mt} {ml : rk_Ml} {fl : rk_Fl}
variable {p : Program} {e : Env} {R : Room} {s : State} {m : MethodId} {args : Array Value} {below : List Frame} {meth : Method} {c : Code} {Q : State → Prop} {cells slots : Nat} {A : Nat → Prop} {G : Nat → Option Nat} {L : List Nat} {X : Int} {f : Nat → va_E} {H : Heap} {locs : List Loc}
theorem va_P_sub {L9 : List Nat} (h : va_P D vwCl (va_pl L f) H) (hs : ∀ a ∈ L9, a ∈ L) : va_P D vwCl (va_pl L9 f) H := by
  intro k q hk
  obtain ⟨a, ha, ea⟩ := List.mem_map.mp (List.mem_of_getElem? hk)
  subst ea
  obtain ⟨j, hj⟩ := va_pl_get (X := []) (f := f) (hs a ha)
  exact h j _ hj
theorem va_D_nd (h : va_D A (va_pl L f)) : L.Nodup := by
  refine List.pairwise_iff_getElem.mpr (fun i j hi hj hij he => ?_)
  have e1 : (va_pl L f)[i]? = some (L[i], f L[i]) := by
    unfold va_pl
    rw [List.getElem?_map, List.getElem?_eq_getElem hi]
    rfl
  have e2 : (va_pl L f)[j]? = some (L[j], f L[j]) := by
    unfold va_pl
    rw [List.getElem?_map, List.getElem?_eq_getElem hj]
    rfl
  have := h.1 i j _ _ e1 e2 he
  omega
theorem va_D_of {u : Nat → va_E} (hn : L.Nodup) (hA : ∀ a ∈ L, A a) : va_D A (va_pl L u) := by
  refine ⟨fun i j p q hp hq he => ?_, fun k q hk => ?_⟩
  · unfold va_pl at hp hq
    rw [List.getElem?_map] at hp hq
    cases hi : L[i]? with
    | none => rw [hi] at hp; cases hp
    | some a =>
      cases hj : L[j]? with
      | none => rw [hj] at hq; cases hq
      | some b =>
        rw [hi] at hp
        rw [hj] at hq
        cases hp
        cases hq
        have he : a = b := he
        subst he
        obtain ⟨hil, ei⟩ := List.getElem?_eq_some_iff.mp hi
        obtain ⟨hjl, ej⟩ := List.getElem?_eq_some_iff.mp hj
        have hpw := List.pairwise_iff_getElem.mp hn
        rcases Nat.lt_trichotomy i j with h | h | h
        · exact absurd (ei.trans ej.symm) (hpw i j hil hjl h)
        · exact h
        · exact absurd (ej.trans ei.symm) (hpw j i hjl hil h)
  · obtain ⟨a, ha, ea⟩ := List.mem_map.mp (List.mem_of_getElem? hk)
    subst ea
    exact hA a ha
theorem va_D_A (h : va_D A (va_pl L f)) : ∀ a ∈ L, A a := fun a ha => by
  obtain ⟨k, hk⟩ := va_pl_get (X := []) (f := f) ha
  exact h.2 k _ hk
/-- a call that the SpaceLinks itself does not see -/
theorem rf_call (hC : rm_Cx base (rk_tys cI c1 c2 c3 c4 c5) D (rk_NU base ad adV) M mt ml fl p R s m args meth c A L) (hh : rm_h D A s L f H locs) {a0 : Nat} (h0 : G a0 = some 11) (h1 : ∀ a, G a = some 11 → a = a0) {pc idx z n ci : Nat} (hdg : decode M.2.1 pc = .ok (.invokevirtual idx, 3)) (hidx : ml idx = some (z, n, ci + 1)) {b : Nat} {as fs : List Value} (hb0 : b ≠ a0) (hbL : b ∈ L) (hfb : f b = .inr (ci, fs)) {avs : List rk_AV} {alts : List rk_Alt} {C : Int} {lv : Nat} (hM : rk_Mc base l cI c1 c2 c3 c4 c5 D ad adV (mt z) avs alts C lv) (hC0 : 0 ≤ C) (hlv0 : Nat.testBit lv 0 = true) (hX : 0 ≤ X) (hXC : X + C ≤ rk_top) (hT : rm_TY cI c1 c2 c3 c4 c5 ad G X L f) (hall : rk_all (fun a => if a = a0 then none else G a) X avs (.ref b :: as)) (hn : as.length + 1 = n) {sk rest : List Value} (hsk : sk = as.reverse ++ .ref b :: rest) (hcat : rm_cat rest) (hcs : cells ≤ R.cells ∧ slots ≤ R.slots) {lo : List (Nat × Value)}
    (kk : ∀ (v : Option Value) (u : Nat → va_E) (H1 : Heap) (locs1 : List Loc), rk_alt (fun a => if a = a0 then none else G a) (X + C) (.ref b :: as) alts v → u a0 = f a0 → rm_TY cI c1 c2 c3 c4 c5 ad G (X + C) L u → rm_h D A s L u H1 locs1 → rc_Lv G lv f u → rv_G p l e R s m args below meth c Q M.2.2.1 cells slots H1 locs1 (pc + 3) (v.toList ++ rest) lo) : rv_G p l e R s m args below meth c Q M.2.2.1 cells slots H locs pc sk lo := by
  intro ls hl
  obtain ⟨hx, hb, hml9, -, -, hown, hts, hK, hNs, hNw, hNc, hml, -, hBL, hB0, hA⟩ := hC
  obtain ⟨hP, hD, hS⟩ := hh
  have ha0L : a0 ∈ L := (hT.1 a0 11 h0 (by decide)).1
  have hsub : ∀ a ∈ L.filter (fun a => !(a == a0)), a ∈ L := fun a ha => (List.mem_filter.mp ha).1
  have hP9 := va_P_sub hP hsub
  have hnd := va_D_nd hD
  have hD9 : va_D A (va_pl (L.filter (fun a => !(a == a0))) f) := va_D_of (hnd.filter _) (fun a ha => va_D_A hD a (hsub a ha))
  have hM := hM (fun a => if a = a0 then none else G a) X (L.filter (fun a => !(a == a0))) f (.ref b :: as) H.size hX hXC hall (rf_TY hT h0 h1) trivial (fun a ha => hBL a (hsub a ha)) (Nat.le_trans hB0 hS.1)
  obtain ⟨k1, k2, k3, k4, k5, k6, k7⟩ := hml idx z n (ci + 1) hidx
  obtain ⟨i1, i2, ⟨q, hq, hqc⟩, k, hnk, hpar⟩ := k7 ci rfl
  have hF : ∀ q, va_A (va_pl (L.filter (fun a => !(a == a0))) f) H.size q → A q := by
    intro q hq
    rcases hq with ⟨k, e9, hke⟩ | hq
    · exact hD9.2 k (q, e9) hke
    · exact hA q (Nat.le_trans hS.1 hq)
  have htb : ∀ w ∈ rk_tbl, w ∈ rk_ws M := fun w hw => List.mem_cons_of_mem _ hw
  have hG := rk_good (M := mt z) htb k1
  have hbl : FrameBlind (va_Pc (.ref b :: as) (rk_Pre D (rk_tys cI c1 c2 c3 c4 c5) (rk_NU base ad adV) (L.filter (fun a => !(a == a0))) f H.size)) := fun a U g mk q => by
    obtain ⟨q0, q1, q2, q3, q4, q5⟩ := q
    exact ⟨q0, q1, q2, va_K.moved (u := U) (U := U.calling g mk a) (Vm.Alike.refl U.vm) q3, q4, hNc U _ rfl rfl q5⟩
  have hpre9 : ∀ U : State, U.heap = H → s.WarmedH U.vm → rk_Pre D (rk_tys cI c1 c2 c3 c4 c5) (rk_NU base ad adV) (L.filter (fun a => !(a == a0))) f H.size U := fun U hU hW => ⟨by rw [hU], by rw [hU]; exact hP9, va_K.moved hW.alike hK, hD9.weaken (fun _ _ _ _ => trivial), hNw U locs (by rw [hU]; exact hS) hW⟩
  obtain ⟨q0, hq0⟩ := rm_at (f := f) hbL
  rw [hfb] at hq0
  have hrv := va_recv hK hP hq hq0
  rw [hqc] at hrv
  have hPv : PreV s H (mt z).1.cls b (va_Pc (.ref b :: as) (rk_Pre D (rk_tys cI c1 c2 c3 c4 c5) (rk_NU base ad adV) (L.filter (fun a => !(a == a0))) f H.size)) as := ⟨hbl, hrv, fun U hU hW => ⟨rfl, hpre9 U hU hW⟩⟩
  have hsz : ls.size = M.2.2.1 := hl.1
  have hk9 : as.length = k := by omega
  have hcs0 : cells + 0 ≤ R.cells ∧ slots + 0 ≤ R.slots := hcs
  have fin : ∀ (v : Option Value) (t : State) (H1 : Heap) (locs1 : List Loc), t.heap = H1 → s.vm.Alike t.vm → (∃ (v' : Option Value) (u : Nat → va_E), Outcome.returned v = .returned v' ∧ rk_post rk_K (rk_E ad) (rk_tys cI c1 c2 c3 c4 c5) (fun a => if a = a0 then none else G a) (X + C) (L.filter (fun a => !(a == a0))) f (.ref b :: as) alts rc_Lv lv v' u ∧ rk_B D (rk_tys cI c1 c2 c3 c4 c5) (L.filter (fun a => !(a == a0))) (va_A (va_pl (L.filter (fun a => !(a == a0))) f) H.size) u t) → H.size ≤ H1.size → (∀ q, q < H.size → ¬ va_A (va_pl (L.filter (fun a => !(a == a0))) f) H.size q → H1[q]? = H[q]?) → va_S A s.heap H1 locs1 → W p l e R s m args below meth c H1 locs1 (cells + 0) (slots + 0) Q (F0 m (pc + 3) ls (v.toList ++ rest)) := by
    intro v t H1 locs1 ht hvm hbd hz hk hS1
    obtain ⟨v', u, hoc, ⟨hA9, hT9, hL9⟩, hP1, hK1, hD1⟩ := hbd
    cases hoc
    rw [ht] at hP1
    have e0 : (fun a => if a = a0 then f a0 else u a) a0 = f a0 := if_pos rfl
    refine kk v (fun a => if a = a0 then f a0 else u a) H1 locs1 hA9 e0 (rf_back (by omega) hT h0 hT9) ⟨?_, va_D_of hnd (va_D_A hD), hS1⟩ (rg_lvO hL9 hlv0) ls hl
    intro j q9 hj
    obtain ⟨a, ha, ea⟩ := List.mem_map.mp (List.mem_of_getElem? hj)
    subst ea
    by_cases haq : a = a0
    · subst haq
      have e9 : ((a, if a = a then f a else u a) : Nat × va_E) = (a, f a) := by rw [if_pos rfl]
      show va_at D vwCl (a, if a = a then f a else u a) H1
      rw [e9]
      obtain ⟨j9, hj9⟩ := rm_at (f := f) ha
      refine (hP j9 _ hj9).kept (hk a (va_pl_lt (X := []) hP ha) ?_)
      intro h9
      rcases h9 with ⟨k9, e8, hk8⟩ | h9
      · obtain ⟨a9, ha9, ea9⟩ := List.mem_map.mp (List.mem_of_getElem? hk8)
        cases ea9
        have := (List.mem_filter.mp ha9).2
        simp at this
      · exact absurd (va_pl_lt (X := []) hP ha) (Nat.not_lt.mpr h9)
    · have e9 : ((a, if a = a0 then f a0 else u a) : Nat × va_E) = (a, u a) := by rw [if_neg haq]
      show va_at D vwCl (a, if a = a0 then f a0 else u a) H1
      rw [e9]
      obtain ⟨j9, hj9⟩ := rm_at (f := u) (List.mem_filter.mpr ⟨ha, by simpa using haq⟩ : a ∈ L.filter (fun a => !(a == a0)))
      exact hP1 j9 _ hj9
  rcases k4 with hl4 | ⟨host, hl4⟩
  · exact rn_callW (va_runV (As := as) (rest := rest) (b := b) (C := (mt z).1.cls) ⟨hx, hb, hml9, hown, hts⟩ hM ⟨callB_of k hts hG rfl rfl rfl k2 hl4 ⟨k3.1, k3.2, hpar⟩ k5, i1, i2⟩ hPv rfl hk9 hsz hsk (lv_room hcat) hdg hcs0) hS (fun q _ h9 => hF q h9) hF fin
  · exact rn_callW (va_runVN (As := as) (rest := rest) (b := b) (C := (mt z).1.cls) ⟨hx, hb, hml9, hown, hts⟩ hM ⟨va_cnB k hts hG rfl rfl rfl hl4 k2 ⟨k3.1, k3.2, hpar⟩ k5, i1, i2⟩ hPv rfl hk9 hsz hsk (lv_room hcat) hdg hcs0) hS (fun q _ h9 => hF q h9) hF fin
end RFW
