/-! methods that make things: their contracts -/
section RGD
variable (base : Nat) (l : Launch) (cI c1 c2 c3 c4 c5 : ClassId) (D : va_G) (ad adV : Nat → Nat)
def rg_P (G : Nat → Option Nat) (X : Int) (L : List Nat) (A : Nat → Prop) (Po : Option Value → (Nat → Option Nat) → (Nat → va_E) → Prop) (oc : Outcome) (t : State) : Prop := ∃ (v : Option Value) (G' : Nat → Option Nat) (L' : List Nat) (u : Nat → va_E), oc = .returned v ∧ Po v G' u ∧ (∀ a k, G a = some k → G' a = some k) ∧ (∀ a ∈ L, a ∈ L') ∧ (∀ a ∈ L', base ≤ a) ∧ rm_TY cI c1 c2 c3 c4 c5 ad G' X L' u ∧ va_P D vwCl (va_pl L' u) t.heap ∧ va_K D vwCl (rk_tys cI c1 c2 c3 c4 c5) t ∧ va_D A (va_pl L' u)
def rg_Met (M : rk_Mt) (cap : Nat × Nat) (av : List Value) (Pre : (Nat → Option Nat) → Int → (Nat → va_E) → Prop) (Po : (Nat → Option Nat) → (Nat → va_E) → Option Value → (Nat → Option Nat) → (Nat → va_E) → Prop) (C : Int) : Prop :=
  ∀ (G : Nat → Option Nat) (X : Int) (L : List Nat) (f : Nat → va_E) (sz : Nat), 0 ≤ X → X + C ≤ rk_top → rm_TY cI c1 c2 c3 c4 c5 ad G X L f → Pre G X f → (∀ a ∈ L, base ≤ a) → base ≤ sz →
    Met l M.1 (rk_ws M) { frames := M.2.2.2.2.1, cells := cap.1, slots := cap.2, locals := M.2.2.2.2.2 } (va_Pc av (rk_Pre D (rk_tys cI c1 c2 c3 c4 c5) (rk_NU base ad adV) L f sz)) (fun _ st oc t => rg_P base cI c1 c2 c3 c4 c5 D ad G (X + C) L (va_A (va_pl L f) sz) (Po G f) oc t ∧ va_F (va_A (va_pl L f) sz) st t) cap.1 cap.2 (va_A (va_pl L f) sz)
end RGD
section RGS
variable {base : Nat} {l : Launch} {cI c1 c2 c3 c4 c5 : ClassId} {D : va_G} {ad adV : Nat → Nat}
theorem rg_start {M : rk_Mt} (hplain : plainName M.1.cls = true) {cap : Nat × Nat} {mt : Nat → rk_Mt} {ml : rk_Ml} {fl : rk_Fl}
    (hml : ∀ (s : State) (args : Array Value), (∀ w ∈ rk_ws M, w.before args s = true) → rk_NU base ad adV s → rk_MlOk s args { frames := M.2.2.2.2.1, cells := 0, slots := 0, locals := M.2.2.2.2.2 } M.1.cls mt ml) (hfl : ∀ (s : State) (args : Array Value), (∀ w ∈ rk_ws M, w.before args s = true) → rk_NU base ad adV s → rk_FlOk s args (rk_ws M) M.1.cls fl)
    {av : List Value} (hcat : ∀ v ∈ av, v.category = 1) (hlen : av.length ≤ M.2.2.1) {Pre : (Nat → Option Nat) → Int → (Nat → va_E) → Prop} {Po : (Nat → Option Nat) → (Nat → va_E) → Option Value → (Nat → Option Nat) → (Nat → va_E) → Prop} {C : Int}
    (h : ∀ (p : Program) (e : Env) (s : State) (m : MethodId) (below : List Frame) (meth : Method) (c : Code) (G : Nat → Option Nat) (X : Int) (L : List Nat) (f : Nat → va_E) (A : Nat → Prop), rm_Cx base (rk_tys cI c1 c2 c3 c4 c5) D (rk_NU base ad adV) M mt ml fl p { frames := M.2.2.2.2.1, cells := cap.1, slots := cap.2, locals := M.2.2.2.2.2 } s m av.toArray meth c A L → (∀ q, A q → base ≤ q) → rm_h D A s L f s.heap [] → 0 ≤ X → X + C ≤ rk_top → rm_TY cI c1 c2 c3 c4 c5 ad G X L f → Pre G X f → rv_G p l e { frames := M.2.2.2.2.1, cells := cap.1, slots := cap.2, locals := M.2.2.2.2.2 } s m av.toArray below meth c (MQ below (fun _ st oc t => rg_P base cI c1 c2 c3 c4 c5 D ad G (X + C) L A (Po G f) oc t ∧ va_F A st t) av.toArray s cap.1 cap.2 A) M.2.2.1 0 0 s.heap [] 0 [] (lv_args 0 av)) : rg_Met base l cI c1 c2 c3 c4 c5 D ad adV M cap av Pre Po C := by
  intro G X L f sz hX hXC hTY hpre hBL hBs
  refine Met.ofW (cc := M.2.1) (maxL := M.2.2.1) (ret := M.2.2.2.1) hplain rfl ?_
  intro p e s m args below meth c s₁ B hml0 hv
  obtain ⟨rfl, hsz, hP, hK, hD0, hN⟩ := hv
  have hx := B.exec
  have hb := B.bytes
  have hr := B.returns
  have hts := atoms_spec (ws := rk_ws M) B.pre
  have hown : s.vm.findClass M.1.cls = some m.cls := findClass_of_methodNamed B.named
  have hlocks := B.notSynchronized
  subst hsz
  have hD := hD0.self (sz := s.heap.size)
  generalize hAe : va_A (va_pl L f) s.heap.size = A at hD ⊢
  have hAb : ∀ q, A q → base ≤ q := fun q h => by
    rw [← hAe] at h
    rcases h with ⟨k, e9, hk9⟩ | h
    · obtain ⟨a, ha, ea⟩ := List.mem_map.mp (List.mem_of_getElem? hk9)
      cases ea
      exact hBL _ ha
    · exact Nat.le_trans hBs h
  have hA : ∀ q : Nat, s.heap.size ≤ q → A q := fun q h => by rw [← hAe]; exact Or.inr h
  have hS : va_S A s.heap s.heap [] := va_S.rf
  have hlen2 : (lg_sl av).length ≤ M.2.2.1 := by
    rw [rk_sl_len av hcat]
    exact hlen
  have hl := lv_entry av (n := M.2.2.1) hlen2
  rw [lg_entry_eq]
  exact h p e s m below meth c G X L f A ⟨hx, hb, hml0, hr, hlocks, hown, hts, hK, hN, fun U locs hS9 hW => rk_hNw base ad adV s U A locs hAb hS9 hW hN, rk_hNc base ad adV, hml s _ hts hN, hfl s _ hts hN, hBL, hBs, hA⟩ hAb ⟨hP, hD, hS⟩ hX hXC hTY hpre _ hl
end RGS
section RGW
variable {base : Nat} {l : Launch} {cI c1 c2 c3 c4 c5 : ClassId} {D : va_G} {ad adV : Nat → Nat} {M : rk_Mt} {mt : Nat → rk_Mt} {ml : rk_Ml} {fl : rk_Fl}
variable {p : Program} {e : Env} {R : Room} {s : State} {m : MethodId} {args : Array Value} {below : List Frame} {meth : Method} {c : Code} {Q : State → Prop} {cells slots nL : Nat} {A : Nat → Prop} {G : Nat → Option Nat} {L : List Nat} {X : Int} {f : Nat → va_E} {H : Heap} {locs : List Loc}
theorem rv_widen {k n pc : Nat} {sk : List Value} {lo : List (Nat × Value)} (h1 : cells ≤ k) (h2 : slots ≤ n) (kk : rv_G p l e R s m args below meth c Q nL k n H locs pc sk lo) : rv_G p l e R s m args below meth c Q nL cells slots H locs pc sk lo := fun ls hl => W.widen h1 h2 (kk ls hl)
/-- what is made is made: the rest by the rules -/
theorem rg_fix {G' : Nat → Option Nat} {L' : List Nat} {cm sm pc : Nat} {sk : List Value} {lo : List (Nat × Value)} {Po : Option Value → (Nat → Option Nat) → (Nat → va_E) → Prop} (hG : ∀ a k, G a = some k → G' a = some k) (hL : ∀ a ∈ L, a ∈ L') (hb' : ∀ a ∈ L', base ≤ a) (kk : rv_G p l e R s m args below meth c (MQ below (rk_Q (fun v u => Po v G' u ∧ rm_TY cI c1 c2 c3 c4 c5 ad G' X L' u) (rk_B D (rk_tys cI c1 c2 c3 c4 c5) L' A) A) args s cm sm A) nL cells slots H locs pc sk lo) : rv_G p l e R s m args below meth c (MQ below (fun _ st oc t => rg_P base cI c1 c2 c3 c4 c5 D ad G X L A Po oc t ∧ va_F A st t) args s cm sm A) nL cells slots H locs pc sk lo := by
  intro ls hl T hT XX
  obtain ⟨t, a1, o, b1, b2, ⟨⟨v, u, e1, ⟨p1, p2⟩, q1, q2, q3⟩, hF⟩, b4⟩ := kk ls hl T hT XX
  exact ⟨t, a1, o, b1, b2, ⟨⟨v, G', L', u, e1, p1, hG, hL, hb', p2, q1, q2, q3⟩, hF⟩, b4⟩
theorem rm_Cx_L {L' : List Nat} {tys : List (ClassId × FieldType)} {NU : State → Prop} (hC : rm_Cx base tys D NU M mt ml fl p R s m args meth c A L) (h : ∀ a ∈ L', base ≤ a) : rm_Cx base tys D NU M mt ml fl p R s m args meth c A L' := by
  obtain ⟨hx, hb, hml9, hr, hlk, hown, hts, hK, hNs, hNw, hNc, hml, hfl, hBL, hB0, hA⟩ := hC
  exact ⟨hx, hb, hml9, hr, hlk, hown, hts, hK, hNs, hNw, hNc, hml, hfl, h, hB0, hA⟩
theorem rc_putr {tys : List (ClassId × FieldType)} {NU : State → Prop} (hC : rm_Cx base tys D NU M mt ml fl p R s m args meth c A L) (hh : rm_h D A s L f H locs) {pc idx ci i : Nat} (hdg : decode M.2.1 pc = .ok (.putfield idx, 3)) (hidx : fl idx = some (ci, i, 2)) {b q : Nat} {fs : List Value} (hbL : b ∈ L) (hfb : f b = .inr (ci, fs)) (hi : i < fs.length) {rest : List Value} {lo : List (Nat × Value)}
    (kk : ∀ (H1 : Heap) (locs1 : List Loc), rm_h D A s L (va_up f b (.inr (ci, fs.set i (.ref q)))) H1 locs1 → rv_G p l e R s m args below meth c Q M.2.2.1 cells slots H1 locs1 (pc + 3) rest lo) : rv_G p l e R s m args below meth c Q M.2.2.1 cells slots H locs pc (.ref q :: .ref b :: rest) lo := by
  intro ls hl
  obtain ⟨hx, hb, hml9, -, -, hown, hts, hK, hNs, hNw, hNc, -, hfl, hBL, hB0, hA⟩ := hC
  obtain ⟨hP, hD, hS⟩ := hh
  obtain ⟨C, T, N, ty0, hC, hkN, hin, hty0, hnm, hlink, hf3, hf0, hf1, hf2⟩ := hfl _ _ _ _ hidx
  obtain ⟨q0, hq0⟩ := rm_at (f := f) hbL
  have hq1 := hq0
  rw [hfb] at hq1
  have kfit : narrow (ty0 i) (.ref q) = .ref q ∧ fits (ty0 i) (.ref q) = true := by
    obtain ⟨n, hn⟩ := hf2 rfl
    rw [hn]
    exact ⟨rfl, rfl⟩
  have k2 : ∀ (H1 : Heap) (locs1 : List Loc), va_P D vwCl ((va_pl L f).set q0 (b, .inr (ci, fs.set i (.ref q)))) H1 → va_D A ((va_pl L f).set q0 (b, .inr (ci, fs.set i (.ref q)))) → va_S A s.heap H1 locs1 → W p l e R s m args below meth c H1 locs1 cells slots Q (F0 m (pc + 3) ls rest) := by
    intro H1 locs1 hP1 hD1 hS1
    have e1 := va_pl_set (X := []) (e := .inr (ci, fs.set i (.ref q))) hD hbL hq0
    have e2 : (va_pl L f).set q0 (b, .inr (ci, fs.set i (.ref q))) = va_pl L (va_up f b (.inr (ci, fs.set i (.ref q)))) := e1
    rw [e2] at hP1 hD1
    exact kk H1 locs1 ⟨hP1, hD1, hS1⟩ ls hl
  rcases hlink with hl4 | ⟨host, hl4⟩
  · exact va_put hx hb hts hin ty0 hty0 hnm hown hK hP hD hS q0 hq1 hC i hkN hl4 (fun _ h9 => h9) (hf3 (by decide)) (hty0 i hkN) kfit.1 kfit.2 hi hdg k2
  · exact va_putN hx hb hts hin ty0 hty0 hnm hown hK hP hD hS q0 hq1 hC i hkN hl4 (fun _ h9 => h9) (hf3 (by decide)) (hty0 i hkN) kfit.1 kfit.2 hi hdg k2
/-- a new World in a frame of a SpaceLinks's method -/
theorem rg_newW {i1 i2 : Nat} (hC : rm_Cx base (rk_tys cI c1 c2 c3 c4 c5) D (rk_NU base ad adV) M mt ml fl p R s m args meth c A L) (hAb : ∀ q, A q → base ≤ q) (hh : rm_h D A s L f H locs) (hX : 0 ≤ X) (hT : rm_TY cI c1 c2 c3 c4 c5 ad G X L f) (hcl : Cond.classLink M.1.cls i1 RX10 ∈ rk_tbl) (hlk : Cond.methodLink M.1.cls i2 yX10_init ∈ rk_tbl) (hroom : 4 ≤ R.frames ∧ 84 ≤ R.locals) (hcs : cells + 358 ≤ R.cells ∧ slots + 10311 ≤ R.slots) {pc : Nat} {rest : List Value} {lo : List (Nat × Value)} (hcat : ((rest.map fun v => v.category).sum) ≤ 7) (d1 : decode M.2.1 pc = .ok (.new i1, 3)) (d2 : decode M.2.1 (pc + 3) = .ok (.dup, 1)) (d3 : decode M.2.1 (pc + 3 + 1) = .ok (.invokespecial i2, 3))
    (kk : ∀ (G' : Nat → Option Nat) (L' : List Nat) (f' : Nat → va_E) (q : Nat) (H1 : Heap) (locs1 : List Loc), (∀ a k, G a = some k → G' a = some k) → (∀ a ∈ L, a ∈ L') → (∀ a ∈ L', base ≤ a) → (∀ a ∈ L, f' a = f a) → G' q = some 10 → rm_TY cI c1 c2 c3 c4 c5 ad G' X L' f' → rm_h D A s L' f' H1 locs1 → rv_G p l e R s m args below meth c Q M.2.2.1 (cells + 358) (slots + 10311) H1 locs1 (pc + 3 + 1 + 3) (.ref q :: rest) lo) : rv_G p l e R s m args below meth c Q M.2.2.1 cells slots H locs pc rest lo := by
  intro ls hl
  have hC0 := hC
  obtain ⟨hx, hb, hml9, hr, hlk0, hown, hts, hK, hNs, hNw, hNc, hml, hfl, hBL, hB0, hA⟩ := hC
  obtain ⟨hP, hD, hS⟩ := hh
  refine rn_new (T := TX10) (N := 10) (ci := 9) (C := RX10) (z := 11) (tr := tr9) (cap := (357, 10301)) (hM := (yX10_init, cX10_init, 2, none, 3, 63)) (kr := ty_kr 358 ty_kW) hx hb hml9 hown hts (fun w hw => List.mem_cons_of_mem _ hw) ⟨cI, c1, c2, c3, c4, c5, rfl⟩ hK hA (fun U locs hS9 hW => ?_) hP hD hS rfl (by decide) (by decide) (by decide +kernel) hcl (rk_tat_ok (i := 149) (by decide +kernel)) (rk_tat_ok (i := 121) (by decide +kernel)) (by decide +kernel) rfl rfl (rk_tat_ok (i := 121) (by decide +kernel)) ⟨by decide, by decide, by decide +kernel⟩ hlk (rk_tat_ok (i := 152) (by decide +kernel)) (rk_tat_ok (i := 151) (by decide +kernel)) hroom (by decide) ty_cW hcs hl.1 hcat d1 d2 d3 ?_
  · obtain ⟨n1, -, -, -, -, -, n6⟩ := hNw U locs hS9 hW
    exact ⟨n1, n6⟩
  intro v en hp nn ad' L' f' H1 locs1 hkr hnn hWd hLL hnew hf hP1 hD1 hS1
  have hkr : (Nat.beq nn 358 && ty_all (rt_g ty_kW) hp 358) = true := hkr
  rw [Bool.and_eq_true, Nat.beq_eq] at hkr
  obtain ⟨rfl, hall⟩ := hkr
  have hL9 : ∀ a ∈ L', base ≤ a := fun a ha => by
    obtain ⟨k, hk⟩ := va_pl_get (X := []) (f := f') ha
    exact hAb a (hD1.2 k (a, f' a) hk)
  obtain ⟨g1, g2, g3⟩ := ty_grow (kd := rt_g ty_kW) hX hT hWd hall (fun i hi => ?_) hLL (fun a ha _ => hf a ha)
  · exact kk _ L' f' (ad' 0) H1 locs1 g2 hLL hL9 hf (by rw [g1 0 (by decide)]; rfl) g3 ⟨hP1, hD1, hS1⟩ ls hl
  · cases hg : G (ad' i) with
    | none => rfl
    | some k =>
      exfalso
      by_cases hk : (rk_K k).1 = 9
      · have h9 := (hT.2 (ad' i) k hk).mp hg
        obtain ⟨h1000, h1004⟩ := rk_K_9 hk
        have hE : (rk_E ad k 0).2.1 = ((ad (k - 1000) : Nat) : Int) := by
          unfold rk_E
          rw [if_pos (by rw [Nat.ble_eq]; exact h1000)]
        rw [hE] at h9
        obtain ⟨-, -, -, -, hna⟩ := (hNs.2.2.1.1 (k - 1000) (by omega)).1
        exact hna (by rw [show ad (k - 1000) = ad' i by omega]; exact hL9 _ (hWd.1 i hi).1)
      · exact hnew i hi (hT.1 _ _ hg hk).1
end RGW
