/-! methods that make things: their contracts -/
noncomputable def rg_ne : Nat → Bool
  | 0 => true
  | n + 1 => !(Nat.beq (rt_g ty_kW n) 11) && rg_ne n
theorem rg_ne_ok : ∀ n, rg_ne n = true → ∀ i, i < n → rt_g ty_kW i ≠ 11
  | 0, _, i, hi => absurd hi (Nat.not_lt_zero _)
  | n + 1, h, i, hi => by
    have h : (!(Nat.beq (rt_g ty_kW n) 11) && rg_ne n) = true := h
    rw [Bool.and_eq_true] at h
    by_cases hin : i = n
    · subst hin
      intro h9
      have h1 := h.1
      rw [h9] at h1
      cases h1
    · exact rg_ne_ok n h.2 i (by omega)
theorem rg_kW : ∀ i, i < 358 → rt_g ty_kW i ≠ 11 := rg_ne_ok 358 (by decide +kernel)
noncomputable def rg_ne9 : Nat → Bool
  | 0 => true
  | n + 1 => !(Nat.beq (rt_g ty_kW n) 9) && rg_ne9 n
theorem rg_ne9_ok : ∀ n, rg_ne9 n = true → ∀ i, i < n → rt_g ty_kW i ≠ 9
  | 0, _, i, hi => absurd hi (Nat.not_lt_zero _)
  | n + 1, h, i, hi => by
    have h : (!(Nat.beq (rt_g ty_kW n) 9) && rg_ne9 n) = true := h
    rw [Bool.and_eq_true] at h
    by_cases hin : i = n
    · subst hin
      intro h9
      have h1 := h.1
      rw [h9] at h1
      cases h1
    · exact rg_ne9_ok n h.2 i (by omega)
theorem rg_kW9 : ∀ i, i < 358 → rt_g ty_kW i ≠ 9 := rg_ne9_ok 358 (by decide +kernel)
section RGD
variable (base : Nat) (l : Launch) (cI c1 c2 c3 c4 c5 : ClassId) (D : va_G) (ad adV : Nat → Nat)
def rg_ext (G G' : Nat → Option Nat) : Prop := (∀ a k, G a = some k → G' a = some k) ∧ (∀ a, G' a = some 11 → G a = some 11) ∧ ∀ a, G' a = some 9 → G a = some 9
def rg_P (G : Nat → Option Nat) (X : Int) (L : List Nat) (A : Nat → Prop) (Po : Option Value → (Nat → Option Nat) → (Nat → va_E) → Prop) (oc : Outcome) (t : State) : Prop := ∃ (v : Option Value) (G' : Nat → Option Nat) (L' : List Nat) (u : Nat → va_E), oc = .returned v ∧ Po v G' u ∧ rg_ext G G' ∧ (∀ a ∈ L, a ∈ L') ∧ (∀ a ∈ L', base ≤ a) ∧ rm_TY cI c1 c2 c3 c4 c5 ad G' X L' u ∧ va_P D vwCl (va_pl L' u) t.heap ∧ va_K D vwCl (rk_tys cI c1 c2 c3 c4 c5) t ∧ va_D A (va_pl L' u)
def rg_Met (M : rk_Mt) (cap : Nat × Nat) (av : List Value) (Pre : (Nat → Option Nat) → Int → (Nat → va_E) → Prop) (Po : (Nat → Option Nat) → (Nat → va_E) → Option Value → (Nat → Option Nat) → (Nat → va_E) → Prop) (C : Int) : Prop :=
  ∀ (G : Nat → Option Nat) (X : Int) (L : List Nat) (f : Nat → va_E) (sz : Nat), 0 ≤ X → X + C ≤ rk_top → rm_TY cI c1 c2 c3 c4 c5 ad G X L f → Pre G X f → (∀ a ∈ L, base ≤ a) → base ≤ sz →
    Met l M.1 (rk_ws M) { frames := M.2.2.2.2.1, cells := cap.1, slots := cap.2, locals := M.2.2.2.2.2 } (va_Pc av (rk_Pre D (rk_tys cI c1 c2 c3 c4 c5) (rk_NU base ad adV) L f sz)) (fun _ st oc t => rg_P base cI c1 c2 c3 c4 c5 D ad G (X + C) L (va_A (va_pl L f) sz) (Po G f) oc t ∧ va_F (va_A (va_pl L f) sz) st t) cap.1 cap.2 (va_A (va_pl L f) sz)
end RGD
section RGS
variable {base : Nat} {l : Launch} {cI c1 c2 c3 c4 c5 : ClassId} {D : va_G} {ad adV : Nat → Nat}
theorem rg_start {M : rk_Mt} (hplain : plainName M.1.cls = true) {cap : Nat × Nat} {mt : Nat → rk_Mt} {ml : rk_Ml} {fl : rk_Fl}
    (hml : ∀ (s : State) (args : Array Value), (∀ w ∈ rk_ws M, w.before args s = true) → rk_NU base ad adV s → rk_MlOk s args { frames := M.2.2.2.2.1, cells := 0, slots := 0, locals := M.2.2.2.2.2 } M.1.cls mt ml) (hfl : ∀ (s : State) (args : Array Value), (∀ w ∈ rk_ws M, w.before args s = true) → rk_NU base ad adV s → rk_FlOk s args (rk_ws M) M.1.cls fl)
    {av : List Value} (hcat : ∀ v ∈ av, v.category = 1) (hlen : av.length ≤ M.2.2.1) {Pre : (Nat → Option Nat) → Int → (Nat → va_E) → Prop} {Po : (Nat → Option Nat) → (Nat → va_E) → Option Value → (Nat → Option Nat) → (Nat → va_E) → Prop} {C : Int}
    (h : ∀ (p : Program) (e : Env) (s : State) (m : MethodId) (below : List Frame) (meth : Method) (c : Code) (G : Nat → Option Nat) (X : Int) (L : List Nat) (f : Nat → va_E) (A : Nat → Prop), rm_Cx base (rk_tys cI c1 c2 c3 c4 c5) D (rk_NU base ad adV) M mt ml fl p { frames := M.2.2.2.2.1, cells := cap.1, slots := cap.2, locals := M.2.2.2.2.2 } s m av.toArray meth c A L → (∀ q, A q → base ≤ q) → rm_h D A s L f s.heap [] → 0 ≤ X → X + C ≤ rk_top → rm_TY cI c1 c2 c3 c4 c5 ad G X L f → Pre G X f → rv_G p l e { frames := M.2.2.2.2.1, cells := cap.1, slots := cap.2, locals := M.2.2.2.2.2 } s m av.toArray below meth c (MQ below (fun _ st oc t => rg_P base cI c1 c2 c3 c4 c5 D ad G (X + C) L A (Po G f) oc t ∧ va_F A st t) av.toArray s cap.1 cap.2 A) M.2.2.1 0 0 s.heap [] 0 [] (lv_args 0 av)) : rg_Met base l cI c1 c2 c3 c4 c5 D ad adV M cap av Pre Po C := by
  intro G X L f sz hX hXC hTY hpre hBL hBs
  refine Met.ofW (cc := M.2.1) (maxL := M.2.2.1) (ret := M.2.2.2.1) hplain rfl ?_
  intro p e s m args below meth c s₁ B hml0 hv
  obtain ⟨rfl, hsz, hP, hK, hD0, hN⟩ := hv
  have hx := B.exec
  have hb := B.bytes
  have hr := B.returns
  have hts := atoms_spec (ws := rk_ws M) B.pre
  have hown : s.vm.findClass M.1.cls = some m.cls := findClass_of_methodNamed B.named
  have hlocks := B.notSynchronized
  subst hsz
  have hD := hD0.self (sz := s.heap.size)
  generalize hAe : va_A (va_pl L f) s.heap.size = A at hD ⊢
  have hAb : ∀ q, A q → base ≤ q := fun q h => by
    rw [← hAe] at h
    rcases h with ⟨k, e9, hk9⟩ | h
    · obtain ⟨a, ha, ea⟩ := List.mem_map.mp (List.mem_of_getElem? hk9)
      cases ea
      exact hBL _ ha
    · exact Nat.le_trans hBs h
  have hA : ∀ q : Nat, s.heap.size ≤ q → A q := fun q h => by rw [← hAe]; exact Or.inr h
  have hS : va_S A s.heap s.heap [] := va_S.rf
  have hlen2 : (lg_sl av).length ≤ M.2.2.1 := by
    rw [rk_sl_len av hcat]
    exact hlen
  have hl := lv_entry av (n := M.2.2.1) hlen2
  rw [lg_entry_eq]
  exact h p e s m below meth c G X L f A ⟨hx, hb, hml0, hr, hlocks, hown, hts, hK, hN, fun U locs hS9 hW => rk_hNw base ad adV s U A locs hAb hS9 hW hN, rk_hNc base ad adV, hml s _ hts hN, hfl s _ hts hN, hBL, hBs, hA⟩ hAb ⟨hP, hD, hS⟩ hX hXC hTY hpre _ hl
end RGS
section RGW
variable {base : Nat} {l : Launch} {cI c1 c2 c3 c4 c5 : ClassId} {D : va_G} {ad adV : Nat → Nat} {M : rk_Mt} {mt : Nat → rk_Mt} {ml : rk_Ml} {fl : rk_Fl}
variable {p : Program} {e : Env} {R : Room} {s : State} {m : MethodId} {args : Array Value} {below : List Frame} {meth : Method} {c : Code} {Q : State → Prop} {cells slots nL : Nat} {A : Nat → Prop} {G : Nat → Option Nat} {L : List Nat} {X : Int} {f : Nat → va_E} {H : Heap} {locs : List Loc}
theorem rv_widen {k n pc : Nat} {sk : List Value} {lo : List (Nat × Value)} (h1 : cells ≤ k) (h2 : slots ≤ n) (kk : rv_G p l e R s m args below meth c Q nL k n H locs pc sk lo) : rv_G p l e R s m args below meth c Q nL cells slots H locs pc sk lo := fun ls hl => W.widen h1 h2 (kk ls hl)
/-- what is made is made: the rest by the rules -/
theorem rg_fix {G' : Nat → Option Nat} {L' : List Nat} {cm sm pc : Nat} {sk : List Value} {lo : List (Nat × Value)} {Po : Option Value → (Nat → Option Nat) → (Nat → va_E) → Prop} (hG : rg_ext G G') (hL : ∀ a ∈ L, a ∈ L') (hb' : ∀ a ∈ L', base ≤ a) (kk : rv_G p l e R s m args below meth c (MQ below (rk_Q (fun v u => Po v G' u ∧ rm_TY cI c1 c2 c3 c4 c5 ad G' X L' u) (rk_B D (rk_tys cI c1 c2 c3 c4 c5) L' A) A) args s cm sm A) nL cells slots H locs pc sk lo) : rv_G p l e R s m args below meth c (MQ below (fun _ st oc t => rg_P base cI c1 c2 c3 c4 c5 D ad G X L A Po oc t ∧ va_F A st t) args s cm sm A) nL cells slots H locs pc sk lo := by
  intro ls hl T hT XX
  obtain ⟨t, a1, o, b1, b2, ⟨⟨v, u, e1, ⟨p1, p2⟩, q1, q2, q3⟩, hF⟩, b4⟩ := kk ls hl T hT XX
  exact ⟨t, a1, o, b1, b2, ⟨⟨v, G', L', u, e1, p1, hG, hL, hb', p2, q1, q2, q3⟩, hF⟩, b4⟩
theorem rm_Cx_L {L' : List Nat} {tys : List (ClassId × FieldType)} {NU : State → Prop} (hC : rm_Cx base tys D NU M mt ml fl p R s m args meth c A L) (h : ∀ a ∈ L', base ≤ a) : rm_Cx base tys D NU M mt ml fl p R s m args meth c A L' := by
  obtain ⟨hx, hb, hml9, hr, hlk, hown, hts, hK, hNs, hNw, hNc, hml, hfl, hBL, hB0, hA⟩ := hC
  exact ⟨hx, hb, hml9, hr, hlk, hown, hts, hK, hNs, hNw, hNc, hml, hfl, h, hB0, hA⟩
theorem rc_putr {tys : List (ClassId × FieldType)} {NU : State → Prop} (hC : rm_Cx base tys D NU M mt ml fl p R s m args meth c A L) (hh : rm_h D A s L f H locs) {pc idx ci i : Nat} (hdg : decode M.2.1 pc = .ok (.putfield idx, 3)) (hidx : fl idx = some (ci, i, 2)) {b q : Nat} {fs : List Value} (hbL : b ∈ L) (hfb : f b = .inr (ci, fs)) (hi : i < fs.length) {rest : List Value} {lo : List (Nat × Value)}
    (kk : ∀ (H1 : Heap) (locs1 : List Loc), rm_h D A s L (va_up f b (.inr (ci, fs.set i (.ref q)))) H1 locs1 → rv_G p l e R s m args below meth c Q M.2.2.1 cells slots H1 locs1 (pc + 3) rest lo) : rv_G p l e R s m args below meth c Q M.2.2.1 cells slots H locs pc (.ref q :: .ref b :: rest) lo := by
  intro ls hl
  obtain ⟨hx, hb, hml9, -, -, hown, hts, hK, hNs, hNw, hNc, -, hfl, hBL, hB0, hA⟩ := hC
  obtain ⟨hP, hD, hS⟩ := hh
  obtain ⟨C, T, N, ty0, hC, hkN, hin, hty0, hnm, hlink, hf3, hf0, hf1, hf2⟩ := hfl _ _ _ _ hidx
  obtain ⟨q0, hq0⟩ := rm_at (f := f) hbL
  have hq1 := hq0
  rw [hfb] at hq1
  have kfit : narrow (ty0 i) (.ref q) = .ref q ∧ fits (ty0 i) (.ref q) = true := by
    obtain ⟨n, hn⟩ := hf2 rfl
    rw [hn]
    exact ⟨rfl, rfl⟩
  have k2 : ∀ (H1 : Heap) (locs1 : List Loc), va_P D vwCl ((va_pl L f).set q0 (b, .inr (ci, fs.set i (.ref q)))) H1 → va_D A ((va_pl L f).set q0 (b, .inr (ci, fs.set i (.ref q)))) → va_S A s.heap H1 locs1 → W p l e R s m args below meth c H1 locs1 cells slots Q (F0 m (pc + 3) ls rest) := by
    intro H1 locs1 hP1 hD1 hS1
    have e1 := va_pl_set (X := []) (e := .inr (ci, fs.set i (.ref q))) hD hbL hq0
    have e2 : (va_pl L f).set q0 (b, .inr (ci, fs.set i (.ref q))) = va_pl L (va_up f b (.inr (ci, fs.set i (.ref q)))) := e1
    rw [e2] at hP1 hD1
    exact kk H1 locs1 ⟨hP1, hD1, hS1⟩ ls hl
  rcases hlink with hl4 | ⟨host, hl4⟩
  · exact va_put hx hb hts hin ty0 hty0 hnm hown hK hP hD hS q0 hq1 hC i hkN hl4 (fun _ h9 => h9) (hf3 (by decide)) (hty0 i hkN) kfit.1 kfit.2 hi hdg k2
  · exact va_putN hx hb hts hin ty0 hty0 hnm hown hK hP hD hS q0 hq1 hC i hkN hl4 (fun _ h9 => h9) (hf3 (by decide)) (hty0 i hkN) kfit.1 kfit.2 hi hdg k2
theorem rg_w11 {ad9 : Nat → Nat} : ∀ a, ty_G G (rt_g ty_kW) ad9 358 a = some 11 → G a = some 11 := by
  intro a ha
  unfold ty_G at ha
  by_cases h : ∃ i, i < 358 ∧ ad9 i = a
  · rw [dif_pos h] at ha
    have h1 := (Classical.choose_spec h).1
    have h2 : ∀ i, i < 358 → rt_g ty_kW i ≠ 11 := rg_kW
    exact absurd (Option.some.inj ha) (h2 _ h1)
  · rw [dif_neg h] at ha
    exact ha
/-- a thing that is not yet there has no kind -/
theorem rg_w9 {ad9 : Nat → Nat} : ∀ a, ty_G G (rt_g ty_kW) ad9 358 a = some 9 → G a = some 9 := by
  intro a ha
  unfold ty_G at ha
  by_cases h : ∃ i, i < 358 ∧ ad9 i = a
  · rw [dif_pos h] at ha
    have h1 := (Classical.choose_spec h).1
    have h2 : ∀ i, i < 358 → rt_g ty_kW i ≠ 9 := rg_kW9
    exact absurd (Option.some.inj ha) (h2 _ h1)
  · rw [dif_neg h] at ha
    exact ha
/-- a thing that is not yet there has no kind -/
theorem rg_none (hN : rk_NU base ad adV s) (hT : rm_TY cI c1 c2 c3 c4 c5 ad G X L f) {q : Nat} (hq : q ∉ L) (hb : base ≤ q) : G q = none := by
  cases hg : G q with
  | none => rfl
  | some k =>
    exfalso
    by_cases hk : (rk_K k).1 = 9
    · have h9 := (hT.2 q k hk).mp hg
      obtain ⟨h1000, h1004⟩ := rk_K_9 hk
      have hE : (rk_E ad k 0).2.1 = ((ad (k - 1000) : Nat) : Int) := by
        unfold rk_E
        rw [if_pos (by rw [Nat.ble_eq]; exact h1000)]
      rw [hE] at h9
      obtain ⟨-, -, -, -, hna⟩ := (hN.2.2.1.1 (k - 1000) (by omega)).1
      exact hna (by rw [show ad (k - 1000) = q by omega]; exact hb)
    · exact hq (hT.1 _ _ hg hk).1
/-- a new World in a frame of a SpaceLinks's method -/
theorem rg_newW {i1 i2 : Nat} (hC : rm_Cx base (rk_tys cI c1 c2 c3 c4 c5) D (rk_NU base ad adV) M mt ml fl p R s m args meth c A L) (hAb : ∀ q, A q → base ≤ q) (hh : rm_h D A s L f H locs) (hX : 0 ≤ X) (hT : rm_TY cI c1 c2 c3 c4 c5 ad G X L f) (hcl : Cond.classLink M.1.cls i1 RX10 ∈ rk_tbl) (hlk : Cond.methodLink M.1.cls i2 yX10_init ∈ rk_tbl) (hroom : 4 ≤ R.frames ∧ 84 ≤ R.locals) (hcs : cells + 358 ≤ R.cells ∧ slots + 10311 ≤ R.slots) {pc : Nat} {rest : List Value} {lo : List (Nat × Value)} (hcat : ((rest.map fun v => v.category).sum) ≤ 7) (d1 : decode M.2.1 pc = .ok (.new i1, 3)) (d2 : decode M.2.1 (pc + 3) = .ok (.dup, 1)) (d3 : decode M.2.1 (pc + 3 + 1) = .ok (.invokespecial i2, 3))
    (kk : ∀ (G' : Nat → Option Nat) (L' : List Nat) (f' : Nat → va_E) (q : Nat) (H1 : Heap) (locs1 : List Loc), rg_ext G G' → (∀ a ∈ L, a ∈ L') → (∀ a ∈ L', base ≤ a) → (∀ a ∈ L, f' a = f a) → G q = none → G' q = some 10 → rm_TY cI c1 c2 c3 c4 c5 ad G' X L' f' → rm_h D A s L' f' H1 locs1 → rv_G p l e R s m args below meth c Q M.2.2.1 (cells + 358) (slots + 10311) H1 locs1 (pc + 3 + 1 + 3) (.ref q :: rest) lo) : rv_G p l e R s m args below meth c Q M.2.2.1 cells slots H locs pc rest lo := by
  intro ls hl
  have hC0 := hC
  obtain ⟨hx, hb, hml9, hr, hlk0, hown, hts, hK, hNs, hNw, hNc, hml, hfl, hBL, hB0, hA⟩ := hC
  obtain ⟨hP, hD, hS⟩ := hh
  refine rn_new (T := TX10) (N := 10) (ci := 9) (C := RX10) (z := 11) (cap := (357, 10301)) (hM := (yX10_init, cX10_init, 2, none, 3, 63)) (kr := ty_kr 358 ty_kW) hx hb hml9 hown hts (fun w hw => List.mem_cons_of_mem _ hw) ⟨cI, c1, c2, c3, c4, c5, rfl⟩ hK hA (fun U locs hS9 hW => ?_) hP hD hS rfl (by decide) (by decide) (by decide +kernel) hcl (rk_tat_ok (i := 149) (by decide +kernel)) (rk_tat_ok (i := 121) (by decide +kernel)) rfl rfl rfl (rk_tat_ok (i := 121) (by decide +kernel)) ⟨by decide, by decide, by decide +kernel⟩ hlk (rk_tat_ok (i := 152) (by decide +kernel)) (rk_tat_ok (i := 151) (by decide +kernel)) hroom (by decide) ty_cW ⟨by show cells + (1 + 357) ≤ R.cells; omega, by show slots + (10 + 10301) ≤ R.slots; omega⟩ hl.1 hcat d1 d2 d3 ?_
  · obtain ⟨n1, -, -, -, -, n6⟩ := hNw U locs hS9 hW
    exact ⟨n1, n6⟩
  intro v en hp nn ad' L' f' H1 locs1 hkr hnn hWd hLL hnew hf hP1 hD1 hS1
  have hkr : (Nat.beq nn 358 && ty_all (rt_g ty_kW) hp 358) = true := hkr
  rw [Bool.and_eq_true, Nat.beq_eq] at hkr
  obtain ⟨rfl, hall⟩ := hkr
  have hL9 : ∀ a ∈ L', base ≤ a := fun a ha => by
    obtain ⟨k, hk⟩ := va_pl_get (X := []) (f := f') ha
    exact hAb a (hD1.2 k (a, f' a) hk)
  have hnn : ∀ i, i < 358 → G (ad' i) = none := fun i hi => rg_none hNs hT (hnew i hi) (hL9 _ (hWd.1 i hi).1)
  obtain ⟨g1, g2, g3⟩ := ty_grow (kd := rt_g ty_kW) hX hT hWd hall hnn hLL (fun a ha _ => hf a ha)
  have h9 := kk _ L' f' (ad' 0) H1 locs1 ⟨g2, rg_w11, rg_w9⟩ hLL hL9 hf (hnn 0 (by decide)) (by rw [g1 0 (by decide)]; rfl) g3 ⟨hP1, hD1, hS1⟩ ls hl
  rw [show cells + 358 = cells + 1 + 357 by omega, show slots + 10311 = slots + 10 + 10301 by omega] at h9
  exact h9
end RGW
section RGA
variable {base : Nat} {l : Launch} {cI c1 c2 c3 c4 c5 : ClassId} {D : va_G} {ad adV : Nat → Nat} {M : rk_Mt} {mt : Nat → rk_Mt} {ml : rk_Ml} {fl : rk_Fl}
variable {p : Program} {e : Env} {R : Room} {s : State} {m : MethodId} {args : Array Value} {below : List Frame} {meth : Method} {c : Code} {Q : State → Prop} {cells slots : Nat} {A : Nat → Prop} {G : Nat → Option Nat} {L : List Nat} {X : Int} {f : Nat → va_E} {H : Heap} {locs : List Loc}
/-- one more thing -/
theorem rg_add (hT : rm_TY cI c1 c2 c3 c4 c5 ad G X L f) {q k : Nat} {e : va_E} (hq : q ∉ L) (hG : G q = none) (hk : k < 1000) (he : rk_cell rk_K (rk_E ad) (rk_tys cI c1 c2 c3 c4 c5) G X k e) : (∀ a j, G a = some j → (fun a => if a = q then some k else G a) a = some j) ∧ rm_TY cI c1 c2 c3 c4 c5 ad (fun a => if a = q then some k else G a) X (L ++ [q]) (va_up f q e) := by
  have g2 : ∀ a j, G a = some j → (fun a => if a = q then some k else G a) a = some j := by
    intro a j ha
    have hne : a ≠ q := fun h9 => by rw [h9, hG] at ha; cases ha
    show (if a = q then some k else G a) = some j
    rw [if_neg hne]
    exact ha
  refine ⟨g2, fun a j ha hj => ?_, fun a j hj => ?_⟩
  · have ha : (if a = q then some k else G a) = some j := ha
    by_cases haq : a = q
    · rw [if_pos haq] at ha
      cases ha
      subst haq
      refine ⟨List.mem_append_right _ (List.mem_singleton.mpr rfl), ?_⟩
      rw [va_up_self]
      exact ty_cell_G g2 he
    · rw [if_neg haq] at ha
      obtain ⟨q1, q2⟩ := hT.1 a j ha hj
      refine ⟨List.mem_append_left _ q1, ?_⟩
      rw [va_up_ne _ _ haq]
      exact ty_cell_G g2 q2
  · have h1000 := (rk_K_9 hj).1
    show (if a = q then some k else G a) = some j ↔ _
    by_cases haq : a = q
    · rw [if_pos haq]
      refine ⟨fun h9 => ?_, fun h9 => ?_⟩
      · cases h9
        omega
      · have := (hT.2 a j hj).mpr h9
        rw [haq, hG] at this
        cases this
    · rw [if_neg haq]
      exact hT.2 a j hj
theorem rg_newA (hC : rm_Cx base (rk_tys cI c1 c2 c3 c4 c5) D (rk_NU base ad adV) M mt ml fl p R s m args meth c A L) (hAb : ∀ q, A q → base ≤ q) (hh : rm_h D A s L f H locs) (hT : rm_TY cI c1 c2 c3 c4 c5 ad G X L f) {n : Int32} (hn : n.toInt = 4) (hcs : cells + 1 ≤ R.cells ∧ slots + 4 ≤ R.slots) {pc : Nat} {rest : List Value} {lo : List (Nat × Value)} (d1 : decode M.2.1 pc = .ok (.newarray .int, 2))
    (kk : ∀ (G' : Nat → Option Nat) (L' : List Nat) (f' : Nat → va_E) (q : Nat) (H1 : Heap), rg_ext G G' → (∀ a ∈ L, a ∈ L') → (∀ a ∈ L', base ≤ a) → (∀ a ∈ L, f' a = f a) → G' q = some 23 → rm_TY cI c1 c2 c3 c4 c5 ad G' X L' f' → rm_h D A s L' f' H1 locs → rv_G p l e R s m args below meth c Q M.2.2.1 (cells + 1) (slots + 4) H1 locs (pc + 2) (.ref q :: rest) lo) : rv_G p l e R s m args below meth c Q M.2.2.1 cells slots H locs pc (.int n :: rest) lo := by
  intro ls hl
  obtain ⟨hx, hb, hml9, hr, hlk0, hown, hts, hK, hNs, hNw, hNc, hml, hfl, hBL, hB0, hA⟩ := hC
  obtain ⟨hP, hD, hS⟩ := hh
  have hcl : n.toNatClampNeg = 4 := by
    have := rm_clamp (n := 4) hn
    exact this
  refine va_newa (atype := .int) (ty := .int) hx hb (hts _ (List.mem_cons_of_mem _ (rk_tat_ok (i := 182) (by decide +kernel)))) rfl hK hP hD hS hA (n := n) (N' := 4) (a0 := (4, .inl (fun _ => 0))) (fun cA => rfl) (by
    intro h
    rw [Int32.lt_iff_toInt_lt] at h
    have : (0 : Int32).toInt = 0 := rfl
    omega) hcl (by decide) hcs.1 hcs.2 d1 (fun q cA H1 hK1 hP1 hD1 hS1 => ?_)
  have hcA : cA = cI := by
    have e1 : s.vm.findClass ("[" ++ FieldType.int.toString) = some cA := (hK1.2 6 (cA, .int) (by simp [rk_tys])).2
    have e2 : s.vm.findClass ("[" ++ FieldType.int.toString) = some cI := (hK.2 0 (cI, .int) rfl).2
    exact Option.some.inj (e1.symm.trans e2)
  subst hcA
  have hqL : q ∉ L := va_pl_fresh2 (X := []) hD1
  rw [va_pl_push hqL] at hP1 hD1
  have hqb : base ≤ q := by
    obtain ⟨k, hk⟩ := va_pl_get (X := []) (f := va_up f q (.inl (cA, (4, .inl (fun _ => 0))))) (List.mem_append_right L (List.mem_singleton.mpr rfl) : q ∈ L ++ [q])
    exact hAb q (hD1.2 k _ hk)
  obtain ⟨g1, g2⟩ := rg_add (k := 23) (e := .inl (cA, (4, .inl (fun _ => 0)))) hT hqL (rg_none hNs hT hqL hqb) (by decide) ⟨cA, _, rfl, rfl, fun i hi => rk_full_ok _⟩
  exact kk _ (L ++ [q]) _ q H1 ⟨g1, fun a ha => by
    have ha : (if a = q then some 23 else G a) = some 11 := ha
    by_cases haq : a = q
    · rw [if_pos haq] at ha
      cases ha
    · rw [if_neg haq] at ha
      exact ha, fun a ha => by
    have ha : (if a = q then some 23 else G a) = some 9 := ha
    by_cases haq : a = q
    · rw [if_pos haq] at ha
      cases ha
    · rw [if_neg haq] at ha
      exact ha⟩ (fun a ha => List.mem_append_left _ ha) (fun a ha => by
    rcases List.mem_append.mp ha with h | h
    · exact hBL a h
    · rw [List.mem_singleton] at h
      rw [h]
      exact hqb) (fun a ha => va_up_ne _ _ (fun h9 => by rw [h9] at ha; exact hqL ha)) (if_pos rfl) g2 ⟨hP1, hD1, hS1⟩ ls hl
/-- a call of a method that makes things -/
theorem rg_callS (hC : rm_Cx base (rk_tys cI c1 c2 c3 c4 c5) D (rk_NU base ad adV) M mt ml fl p R s m args meth c A L) (hAb : ∀ q, A q → base ≤ q) (hh : rm_h D A s L f H locs) {pc idx z n : Nat} {cap : Nat × Nat} (hdg : decode M.2.1 pc = .ok (.invokestatic idx, 3)) (hidx : ml idx = some (z, n, 0)) {as : List Value} {Pre : (Nat → Option Nat) → Int → (Nat → va_E) → Prop} {Po : (Nat → Option Nat) → (Nat → va_E) → Option Value → (Nat → Option Nat) → (Nat → va_E) → Prop} {C : Int} (hM : rg_Met base l cI c1 c2 c3 c4 c5 D ad adV (mt z) cap as Pre Po C) (hX : 0 ≤ X) (hXC : X + C ≤ rk_top) (hT : rm_TY cI c1 c2 c3 c4 c5 ad G X L f) (hpre : Pre G X f) (hn : as.length = n) {sk rest : List Value} (hsk : sk = as.reverse ++ rest) (hcat : rm_cat rest) (hcs : cells + cap.1 ≤ R.cells ∧ slots + cap.2 ≤ R.slots) {lo : List (Nat × Value)}
    (kk : ∀ (v : Option Value) (G' : Nat → Option Nat) (L' : List Nat) (u : Nat → va_E) (H1 : Heap) (locs1 : List Loc), Po G f v G' u → rg_ext G G' → (∀ a ∈ L, a ∈ L') → (∀ a ∈ L', base ≤ a) → rm_TY cI c1 c2 c3 c4 c5 ad G' (X + C) L' u → rm_h D A s L' u H1 locs1 → rv_G p l e R s m args below meth c Q M.2.2.1 (cells + cap.1) (slots + cap.2) H1 locs1 (pc + 3) (v.toList ++ rest) lo) : rv_G p l e R s m args below meth c Q M.2.2.1 cells slots H locs pc sk lo := by
  intro ls hl
  obtain ⟨hx, hb, hml9, -, -, hown, hts, hK, hNs, hNw, hNc, hml, -, hBL, hB0, hA⟩ := hC
  obtain ⟨hP, hD, hS⟩ := hh
  have hM := hM G X L f H.size hX hXC hT hpre hBL (Nat.le_trans hB0 hS.1)
  obtain ⟨k1, k2, k3, k4, k5, k6, k7⟩ := hml idx z n 0 hidx
  obtain ⟨i1, hpar⟩ := k6 rfl
  have hF : ∀ q, va_A (va_pl L f) H.size q → A q := by
    intro q hq
    rcases hq with ⟨k, e9, hke⟩ | hq
    · exact hD.2 k (q, e9) hke
    · exact hA q (Nat.le_trans hS.1 hq)
  have htb : ∀ w ∈ rk_tbl, w ∈ rk_ws M := fun w hw => List.mem_cons_of_mem _ hw
  have hG := rk_good (M := mt z) htb k1
  have hbl : FrameBlind (va_Pc as (rk_Pre D (rk_tys cI c1 c2 c3 c4 c5) (rk_NU base ad adV) L f H.size)) := fun a U g mk q => by
    obtain ⟨q0, q1, q2, q3, q4, q5⟩ := q
    exact ⟨q0, q1, q2, va_K.moved (u := U) (U := U.calling g mk a) (Vm.Alike.refl U.vm) q3, q4, hNc U _ rfl rfl q5⟩
  have hpre9 : ∀ U : State, U.heap = H → s.WarmedH U.vm → rk_Pre D (rk_tys cI c1 c2 c3 c4 c5) (rk_NU base ad adV) L f H.size U := fun U hU hW => ⟨by rw [hU], by rw [hU]; exact hP, va_K.moved hW.alike hK, hD.weaken (fun _ _ _ _ => trivial), hNw U locs (by rw [hU]; exact hS) hW⟩
  have hPs : PreS s H (va_Pc as (rk_Pre D (rk_tys cI c1 c2 c3 c4 c5) (rk_NU base ad adV) L f H.size)) as := ⟨hbl, fun U hU hW => ⟨rfl, hpre9 U hU hW⟩⟩
  have hsz : ls.size = M.2.2.1 := hl.1
  have fin : ∀ (v : Option Value) (t : State) (H1 : Heap) (locs1 : List Loc), t.heap = H1 → s.vm.Alike t.vm → rg_P base cI c1 c2 c3 c4 c5 D ad G (X + C) L (va_A (va_pl L f) H.size) (Po G f) (.returned v) t → H.size ≤ H1.size → (∀ q, q < H.size → ¬ va_A (va_pl L f) H.size q → H1[q]? = H[q]?) → va_S A s.heap H1 locs1 → W p l e R s m args below meth c H1 locs1 (cells + cap.1) (slots + cap.2) Q (F0 m (pc + 3) ls (v.toList ++ rest)) := by
    intro v t H1 locs1 ht hvm hbd hz hk hS1
    obtain ⟨v', G', L', u, hoc, hpo, hGG, hLL, hbb, hT1, hP1, hK1, hD1⟩ := hbd
    cases hoc
    rw [ht] at hP1
    exact kk v G' L' u H1 locs1 hpo hGG hLL hbb hT1 ⟨hP1, hD1.weaken (fun k q _ h9 => hF q.1 h9), hS1⟩ ls hl
  rcases k4 with hl4 | ⟨host, hl4⟩
  · exact rn_callW (va_runS (As := as) (rest := rest) ⟨hx, hb, hml9, hown, hts⟩ hM ⟨callB_of n hts hG rfl rfl rfl k2 hl4 ⟨k3.1, k3.2, hpar⟩ k5, i1⟩ hPs rfl hn hsz hsk (lv_room hcat) hdg hcs) hS (fun q _ h9 => hF q h9) hF fin
  · exact rn_callW (va_runSN (As := as) (rest := rest) ⟨hx, hb, hml9, hown, hts⟩ hM ⟨va_cnB n hts hG rfl rfl rfl hl4 k2 ⟨k3.1, k3.2, hpar⟩ k5, i1, trivial⟩ hPs rfl hn hsz hsk (lv_room hcat) hdg hcs) hS (fun q _ h9 => hF q h9) hF fin
theorem rc_aald {tys : List (ClassId × FieldType)} {NU : State → Prop} (hC : rm_Cx base tys D NU M mt ml fl p R s m args meth c A L) (hh : rm_h D A s L f H locs) {pc t0 : Nat} (hdg : decode M.2.1 pc = .ok (.aaload, 1)) {b n : Nat} {cA : ClassId} {C : String} {g : Nat → Option Nat} (hbL : b ∈ L) (hfb : f b = .inl (cA, n, .inr (.inr (.inr (.inr g))))) (hcA : tys[t0]? = some (cA, .object C)) {i : Int32} (h0 : 0 ≤ i.toInt) (h1 : i.toInt < (n : Int)) {rest : List Value} {lo : List (Nat × Value)}
    (kk : rv_G p l e R s m args below meth c Q M.2.2.1 cells slots H locs (pc + 1) (va_rf (g i.toNatClampNeg) :: rest) lo) : rv_G p l e R s m args below meth c Q M.2.2.1 cells slots H locs pc (.int i :: .ref b :: rest) lo := by
  intro ls hl
  obtain ⟨hx, hb, hml9, -, -, hown, hts, hK, hNs, hNw, hNc, -, hfl, hBL, hB0, hA⟩ := hC
  obtain ⟨hP, hD, hS⟩ := hh
  obtain ⟨q0, hq0⟩ := rm_at (f := f) hbL
  rw [hfb] at hq0
  exact va_aldq hx hb hK hP q0 t0 hq0 hcA (vp_in_iff.mpr ⟨h0, h1⟩) hdg (kk ls hl)
theorem rc_ast {tys : List (ClassId × FieldType)} {NU : State → Prop} (hC : rm_Cx base tys D NU M mt ml fl p R s m args meth c A L) {pc i x : Nat} (hdg : decode M.2.1 pc = .ok (.astore i, 2)) (hi : i < M.2.2.1) {rest : List Value} {lo : List (Nat × Value)} (hlo : lo.all (fun q => !(q.1 == i) && !(q.1 + 1 == i && q.2.category == 2)) = true) (kk : rv_G p l e R s m args below meth c Q M.2.2.1 cells slots H locs (pc + 2) rest (lo ++ [(i, .ref x)])) : rv_G p l e R s m args below meth c Q M.2.2.1 cells slots H locs pc (.ref x :: rest) lo := by
  intro ls hl
  refine lv_astore hC.1 hC.2.1 hdg hl hi rfl (fun ls' hl' => kk ls' (rk_lvs hl' (fun q hq => ?_)))
  rcases List.mem_append.mp hq with h | h
  · exact List.mem_cons_of_mem _ (List.mem_filter.mpr ⟨h, List.all_eq_true.mp hlo q h⟩)
  · rw [List.mem_singleton] at h
    subst h
    exact List.mem_cons_self
theorem rc_astn {tys : List (ClassId × FieldType)} {NU : State → Prop} (hC : rm_Cx base tys D NU M mt ml fl p R s m args meth c A L) {pc i x : Nat} {k : Fin 4} (hdg : decode M.2.1 pc = .ok (.astore_n k, 1)) (hk : (k : Nat) = i) (hi : i < M.2.2.1) {rest : List Value} {lo : List (Nat × Value)} (hlo : lo.all (fun q => !(q.1 == i) && !(q.1 + 1 == i && q.2.category == 2)) = true) (kk : rv_G p l e R s m args below meth c Q M.2.2.1 cells slots H locs (pc + 1) rest (lo ++ [(i, .ref x)])) : rv_G p l e R s m args below meth c Q M.2.2.1 cells slots H locs pc (.ref x :: rest) lo := by
  intro ls hl
  refine lv_astore_n hC.1 hC.2.1 hdg hk hl hi rfl (fun ls' hl' => kk ls' (rk_lvs hl' (fun q hq => ?_)))
  rcases List.mem_append.mp hq with h | h
  · exact List.mem_cons_of_mem _ (List.mem_filter.mpr ⟨h, List.all_eq_true.mp hlo q h⟩)
  · rw [List.mem_singleton] at h
    subst h
    exact List.mem_cons_self
theorem rc_nn {tys : List (ClassId × FieldType)} {NU : State → Prop} (hC : rm_Cx base tys D NU M mt ml fl p R s m args meth c A L) {pc tgt x : Nat} {off : Int} (hdg : decode M.2.1 pc = .ok (.ifnonnull off, 3)) (ht : (pc : Int) + off = (tgt : Int)) {rest : List Value} {lo : List (Nat × Value)} (kk : rv_G p l e R s m args below meth c Q M.2.2.1 cells slots H locs tgt rest lo) : rv_G p l e R s m args below meth c Q M.2.2.1 cells slots H locs pc (.ref x :: rest) lo := fun ls hl => lv_ifnonnull hC.1 hC.2.1 hdg ht (kk ls hl)
theorem rc_nnN {tys : List (ClassId × FieldType)} {NU : State → Prop} (hC : rm_Cx base tys D NU M mt ml fl p R s m args meth c A L) {pc : Nat} {off : Int} (hdg : decode M.2.1 pc = .ok (.ifnonnull off, 3)) {rest : List Value} {lo : List (Nat × Value)} (kk : rv_G p l e R s m args below meth c Q M.2.2.1 cells slots H locs (pc + 3) rest lo) : rv_G p l e R s m args below meth c Q M.2.2.1 cells slots H locs pc (.null :: rest) lo := fun ls hl => lv_ifnonnullN hC.1 hC.2.1 hdg (kk ls hl)
end RGA
section RGL
variable {cI c1 c2 c3 c4 c5 : ClassId} {ad : Nat → Nat} {G G' : Nat → Option Nat} {L : List Nat} {X : Int} {f u : Nat → va_E}
theorem rg_lvG {lv : Nat} (h : ∀ a k, G a = some k → G' a = some k) (hl : rc_Lv G' lv f u) : rc_Lv G lv f u := by
  intro b hb ht
  have h9 := hl b hb ht
  rcases b with _ | _ | _ | _ | _ | _ | _ | b
  · exact h9
  · exact fun a ha => h9 a (h a _ ha)
  · exact fun a ha => h9 a (h a _ ha)
  · exact fun a ha => h9 a (h a _ ha)
  · exact fun a ha => h9 a (h a _ ha)
  · exact ⟨⟨fun a ha => h9.1.1 a (h a _ ha), fun a ha => h9.1.2 a (h a _ ha)⟩, fun a ha => h9.2.1 a (h a _ ha), fun a ha => h9.2.2 a (h a _ ha)⟩
  · exact fun a ha => h9 a (h a _ ha)
  · exact absurd hb (by omega)
theorem rg_lvL {lv : Nat} (hT : rm_TY cI c1 c2 c3 c4 c5 ad G X L f) (hff : ∀ a ∈ L, u a = f a) (h0 : Nat.testBit lv 0 = true) : rc_Lv G lv f u := by
  intro b hb ht
  rcases b with _ | _ | _ | _ | _ | _ | _ | b
  · rw [h0] at ht
    cases ht
  · exact fun a ha => by rw [hff a (hT.1 a 9 ha (by decide)).1]
  · exact fun a ha => by rw [hff a (hT.1 a 1 ha (by decide)).1]
  · exact fun a ha => by rw [hff a (hT.1 a 10 ha (by decide)).1]
  · exact fun a ha => by rw [hff a (hT.1 a 11 ha (by decide)).1]
  · exact ⟨⟨fun a ha => by rw [hff a (hT.1 a 11 ha (by decide)).1], fun a ha => by rw [hff a (hT.1 a 11 ha (by decide)).1]⟩, fun a ha => by rw [hff a (hT.1 a 10 ha (by decide)).1], fun a ha => hff a (hT.1 a 28 ha (by decide)).1⟩
  · exact fun a ha => by rw [hff a (hT.1 a 11 ha (by decide)).1]
  · exact absurd hb (by omega)
/-- one thing stays as it was, the others by a level -/
theorem rg_lvO {lv : Nat} {a0 : Nat} (h : rc_Lv (fun a => if a = a0 then none else G a) lv f u) (h0 : Nat.testBit lv 0 = true) : rc_Lv G lv f (fun a => if a = a0 then f a0 else u a) := by
  intro b hb ht
  have h9 := h b hb ht
  have key : ∀ k i, rk_fldE k i (fun a => if a = a0 then none else G a) f u → rk_fldE k i G f (fun a => if a = a0 then f a0 else u a) := by
    intro k i hk a ha
    show rk_fld (f a) i = rk_fld (if a = a0 then f a0 else u a) i
    by_cases haq : a = a0
    · rw [if_pos haq, haq]
    · rw [if_neg haq]
      exact hk a (by show (if a = a0 then none else G a) = some k; rw [if_neg haq]; exact ha)
  rcases b with _ | _ | _ | _ | _ | _ | _ | b
  · rw [h0] at ht
    cases ht
  · exact key _ _ h9
  · exact key _ _ h9
  · exact key _ _ h9
  · exact key _ _ h9
  · refine ⟨⟨key _ _ h9.1.1, key _ _ h9.1.2⟩, key _ _ h9.2.1, fun a ha => ?_⟩
    show (if a = a0 then f a0 else u a) = f a
    by_cases haq : a = a0
    · rw [if_pos haq, haq]
    · rw [if_neg haq]
      exact h9.2.2 a (by show (if a = a0 then none else G a) = some 28; rw [if_neg haq]; exact ha)
  · exact key _ _ h9
  · exact absurd hb (by omega)
end RGL
