/-! the Ends of a new World -/
def ty_JE : List Nat := [206, 225, 244, 263, 282, 301, 320, 339]
theorem ty_JE_lt : ∀ e, e < 8 → ty_JE.getD e 0 < 358 := by decide +kernel
theorem ty_JE_in : ∀ e, e < 8 → ∀ e9, e9 < 8 → ty_JE.getD e 0 = ty_JE.getD e9 0 → e = e9 := by decide +kernel
noncomputable def ty_eW (hp : rs_H) : Bool := (Nat.beq (rt_g hp 0).1 9 && Nat.beq (rt_g hp 0).2.1 10) && (decide (rt_g (rt_g hp 0).2.2 3 = (4, 4, 0)) && ((Nat.beq (rt_g hp 4).1 20 && Nat.beq (rt_g hp 4).2.1 8) && (List.range 8).all (fun e => decide (rt_g (rt_g hp 4).2.2 e = (4, ty_JE.getD e 0, 0)))))
noncomputable def ty_krW : rs_KR := fun _ _ hp nn => Nat.beq nn 358 && (ty_all (rt_g ty_kW) hp 358 && ty_eW hp)
theorem ty_cWz : rs_kc0 11 [(4, 0, 0)] [] ty_hW 1 ty_krW = true := by decide +kernel
theorem ty_eW_ok {tys : List (ClassId × FieldType)} {r : Nat → Int32} {sb : Nat} {hp : rs_H} {ad : Nat → Nat} {L : List Nat} {f : Nat → va_E} (h : ty_eW hp = true) (hW : rs_Wd tys r sb hp 358 ad L f) : (∀ e, e < 8 → rc_E f (ad 0) e (ad (ty_JE.getD e 0))) ∧ ∀ e e9, e < 8 → e9 < 8 → ad (ty_JE.getD e 0) = ad (ty_JE.getD e9 0) → e = e9 := by
  unfold ty_eW at h
  simp only [Bool.and_eq_true, decide_eq_true_eq, Nat.beq_eq, List.all_eq_true] at h
  obtain ⟨⟨h1, h2⟩, h3, ⟨h4, h5⟩, h6⟩ := h
  refine ⟨fun e he => ?_, fun e e9 he he9 h9 => ty_JE_in e he e9 he9 (hW.2.1 _ _ (ty_JE_lt e he) (ty_JE_lt e9 he9) h9)⟩
  obtain ⟨r1, -, -⟩ := (hW.1 0 (by decide)).2 (by rw [h1]; decide)
  obtain ⟨vs, a1, a2, -, a4⟩ := r1 (by rw [h1]; decide)
  obtain ⟨x, b1, b2⟩ := a4 3 (by rw [h2]; decide)
  rw [h3] at b2
  have b2 : 4 < 358 ∧ x = .ref (ad 4) := b2
  obtain ⟨-, b2⟩ := b2
  subst b2
  obtain ⟨-, -, r3⟩ := (hW.1 4 (by decide)).2 (by rw [h4]; decide)
  obtain ⟨cA, C, g, c1, c2, -, c4⟩ := r3 (by rw [h4]; decide) (by rw [h4]; decide)
  have d := c4 e (by rw [h5]; exact he)
  rw [h6 e (List.mem_range.mpr he)] at d
  have d : ty_JE.getD e 0 < 358 ∧ va_rf (g e) = .ref (ad (ty_JE.getD e 0)) := d
  refine ⟨ad 4, cA, _, g, by rw [a1]; exact b1, c1, ?_⟩
  have d := d.2
  cases hg : g e with
  | none => rw [hg] at d; cases d
  | some b =>
    rw [hg] at d
    have d : Value.ref b = .ref _ := d
    cases d
    rfl
section RGW
variable {base : Nat} {l : Launch} {cI c1 c2 c3 c4 c5 : ClassId} {D : va_G} {ad adV : Nat → Nat} {M : rk_Mt} {mt : Nat → rk_Mt} {ml : rk_Ml} {fl : rk_Fl}
variable {p : Program} {e : Env} {R : Room} {s : State} {m : MethodId} {args : Array Value} {below : List Frame} {meth : Method} {c : Code} {Q : State → Prop} {cells slots nL : Nat} {A : Nat → Prop} {G : Nat → Option Nat} {L : List Nat} {X : Int} {f : Nat → va_E} {H : Heap} {locs : List Loc}
/-- a new World in a frame of a SpaceLinks's method -/
theorem rg_newH {i1 i2 : Nat} (hC : rm_Cx base (rk_tys cI c1 c2 c3 c4 c5) D (rk_NU base ad adV) M mt ml fl p R s m args meth c A L) (hAb : ∀ q, A q → base ≤ q) (hh : rm_h D A s L f H locs) (hX : 0 ≤ X) (hT : rm_TY cI c1 c2 c3 c4 c5 ad G X L f) (hcl : Cond.classLink M.1.cls i1 RX10 ∈ rk_tbl) (hlk : Cond.methodLink M.1.cls i2 yX10_init ∈ rk_tbl) (hroom : 4 ≤ R.frames ∧ 84 ≤ R.locals) (hcs : cells + 358 ≤ R.cells ∧ slots + 10311 ≤ R.slots) {pc : Nat} {rest : List Value} {lo : List (Nat × Value)} (hcat : ((rest.map fun v => v.category).sum) ≤ 7) (d1 : decode M.2.1 pc = .ok (.new i1, 3)) (d2 : decode M.2.1 (pc + 3) = .ok (.dup, 1)) (d3 : decode M.2.1 (pc + 3 + 1) = .ok (.invokespecial i2, 3))
    (kk : ∀ (G' : Nat → Option Nat) (L' : List Nat) (f' : Nat → va_E) (q : Nat) (eW : Nat → Nat) (H1 : Heap) (locs1 : List Loc), rg_ext G G' → (∀ a ∈ L, a ∈ L') → (∀ a ∈ L', base ≤ a) → (∀ a ∈ L, f' a = f a) → G q = none → (∀ e, e < 8 → rc_E f' q e (eW e) ∧ G (eW e) = none) → (∀ e e9, e < 8 → e9 < 8 → eW e = eW e9 → e = e9) → G' q = some 10 → rm_TY cI c1 c2 c3 c4 c5 ad G' X L' f' → rm_h D A s L' f' H1 locs1 → rv_G p l e R s m args below meth c Q M.2.2.1 (cells + 358) (slots + 10311) H1 locs1 (pc + 3 + 1 + 3) (.ref q :: rest) lo) : rv_G p l e R s m args below meth c Q M.2.2.1 cells slots H locs pc rest lo := by
  intro ls hl
  have hC0 := hC
  obtain ⟨hx, hb, hml9, hr, hlk0, hown, hts, hK, hNs, hNw, hNc, hml, hfl, hBL, hB0, hA⟩ := hC
  obtain ⟨hP, hD, hS⟩ := hh
  refine rn_new (T := TX10) (N := 10) (ci := 9) (C := RX10) (z := 11) (cap := (357, 10301)) (hM := (yX10_init, cX10_init, 2, none, 3, 63)) (kr := ty_krW) hx hb hml9 hown hts (fun w hw => List.mem_cons_of_mem _ hw) ⟨cI, c1, c2, c3, c4, c5, rfl⟩ hK hA (fun U locs hS9 hW => ?_) hP hD hS rfl (by decide) (by decide) (by decide +kernel) hcl (rk_tat_ok (i := 149) (by decide +kernel)) (rk_tat_ok (i := 121) (by decide +kernel)) rfl rfl rfl (rk_tat_ok (i := 121) (by decide +kernel)) ⟨by decide, by decide, by decide +kernel⟩ hlk (rk_tat_ok (i := 152) (by decide +kernel)) (rk_tat_ok (i := 151) (by decide +kernel)) hroom (by decide) ty_cWz ⟨by show cells + (1 + 357) ≤ R.cells; omega, by show slots + (10 + 10301) ≤ R.slots; omega⟩ hl.1 hcat d1 d2 d3 ?_
  · obtain ⟨n1, -, -, -, -, n6⟩ := hNw U locs hS9 hW
    exact ⟨n1, n6⟩
  intro v en hp nn ad' L' f' H1 locs1 hkr hnn hWd hLL hnew hf hP1 hD1 hS1
  have hkr : (Nat.beq nn 358 && (ty_all (rt_g ty_kW) hp 358 && ty_eW hp)) = true := hkr
  rw [Bool.and_eq_true, Nat.beq_eq, Bool.and_eq_true] at hkr
  obtain ⟨rfl, hall, heW⟩ := hkr
  obtain ⟨hE1, hE2⟩ := ty_eW_ok heW hWd
  have hL9 : ∀ a ∈ L', base ≤ a := fun a ha => by
    obtain ⟨k, hk⟩ := va_pl_get (X := []) (f := f') ha
    exact hAb a (hD1.2 k (a, f' a) hk)
  have hnn : ∀ i, i < 358 → G (ad' i) = none := fun i hi => rg_none hNs hT (hnew i hi) (hL9 _ (hWd.1 i hi).1)
  obtain ⟨g1, g2, g3⟩ := ty_grow (kd := rt_g ty_kW) hX hT hWd hall hnn hLL (fun a ha _ => hf a ha)
  have h9 := kk _ L' f' (ad' 0) (fun e => ad' (ty_JE.getD e 0)) H1 locs1 ⟨g2, rg_w11, rg_w9⟩ hLL hL9 hf (hnn 0 (by decide)) (fun e he => ⟨hE1 e he, hnn _ (ty_JE_lt e he)⟩) hE2 (by rw [g1 0 (by decide)]; rfl) g3 ⟨hP1, hD1, hS1⟩ ls hl
  rw [show cells + 358 = cells + 1 + 357 by omega, show slots + 10311 = slots + 10 + 10301 by omega] at h9
  exact h9
end RGW
