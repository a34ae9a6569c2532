section RMF
variable {base : Nat} {cI c1 c2 c3 c4 c5 : ClassId} {D : va_G} {ad adV : Nat → Nat} {M : rk_Mt} {mt : Nat → rk_Mt} {ml : rk_Ml} {fl : rk_Fl}
variable {p : Program} {l : Launch} {e : Env} {R : Room} {st : State} {m : MethodId} {args : Array Value} {below : List Frame} {meth : Method} {c : Code} {Q : State → Prop} {cells slots : Nat} {A : Nat → Prop} {G : Nat → Option Nat} {L : List Nat} {X : Int} {f : Nat → va_E} {H : Heap} {locs : List Loc} {a0 : Nat}
theorem rm_putf {tys : List (ClassId × FieldType)} {NU : State → Prop} (hC : rm_Cx base tys D NU M mt ml fl p R st m args meth c A L) (hh : rm_h D A st L f H locs) {pc idx ci i w : Nat} (hdg : decode M.2.1 pc = .ok (.putfield idx, 3)) (hidx : fl idx = some (ci, i, w)) {b : Nat} {fs : List Value} (hbL : b ∈ L) (hfb : f b = .inr (ci, fs)) (hi : i < fs.length) {v : Value} (hw : (w = 0 ∧ ∃ x : Int32, v = .int x) ∨ (w = 1 ∧ (v = .int 0 ∨ v = .int 1))) {rest : List Value} {lo : List (Nat × Value)}
    (kk : ∀ (H1 : Heap) (locs1 : List Loc), rm_h D A st L (va_up f b (.inr (ci, fs.set i v))) H1 locs1 → rv_G p l e R st m args below meth c Q M.2.2.1 cells slots H1 locs1 (pc + 3) rest lo) : rv_G p l e R st m args below meth c Q M.2.2.1 cells slots H locs pc (v :: .ref b :: rest) lo := by
  intro ls hl
  obtain ⟨hx, hb, hml9, -, -, hown, hts, hK, hNs, hNw, hNc, -, hfl, hBL, hB0, hA⟩ := hC
  obtain ⟨hP, hD, hS⟩ := hh
  obtain ⟨C, T, N, ty0, hC, hkN, hin, hty0, hnm, hlink, hf3, hf0, hf1, hf2⟩ := hfl _ _ _ _ hidx
  obtain ⟨q0, hq0⟩ := rm_at (f := f) hbL
  have hq1 := hq0
  rw [hfb] at hq1
  have kfit : w < 3 ∧ narrow (ty0 i) v = v ∧ fits (ty0 i) v = true := by
    rcases hw with ⟨rfl, x, rfl⟩ | ⟨rfl, rfl | rfl⟩
    · rw [hf0 rfl]
      exact ⟨by omega, rfl, rfl⟩
    · rw [hf1 rfl]
      exact ⟨by omega, rfl, rfl⟩
    · rw [hf1 rfl]
      exact ⟨by omega, rfl, rfl⟩
  have k2 : ∀ (H1 : Heap) (locs1 : List Loc), va_P D vwCl ((va_pl L f).set q0 (b, .inr (ci, fs.set i v))) H1 → va_D A ((va_pl L f).set q0 (b, .inr (ci, fs.set i v))) → va_S A st.heap H1 locs1 → W p l e R st m args below meth c H1 locs1 cells slots Q (F0 m (pc + 3) ls rest) := by
    intro H1 locs1 hP1 hD1 hS1
    have e1 := va_pl_set (X := []) (e := .inr (ci, fs.set i v)) hD hbL hq0
    have e2 : (va_pl L f).set q0 (b, .inr (ci, fs.set i v)) = va_pl L (va_up f b (.inr (ci, fs.set i v))) := e1
    rw [e2] at hP1 hD1
    exact kk H1 locs1 ⟨hP1, hD1, hS1⟩ ls hl
  rcases hlink with hl4 | ⟨host, hl4⟩
  · exact va_put hx hb hts hin ty0 hty0 hnm hown hK hP hD hS q0 hq1 hC i hkN hl4 (fun _ h9 => h9) (hf3 kfit.1) (hty0 i hkN) kfit.2.1 kfit.2.2 hi hdg k2
  · exact va_putN hx hb hts hin ty0 hty0 hnm hown hK hP hD hS q0 hq1 hC i hkN hl4 (fun _ h9 => h9) (hf3 kfit.1) (hty0 i hkN) kfit.2.1 kfit.2.2 hi hdg k2
/-- a number of the model is set -/
theorem w_pf (hC : rm_Cx base (rk_tys cI c1 c2 c3 c4 c5) D (rk_NU base ad adV) M mt ml fl p R st m args meth c A L) (hh : rm_h D A st L f H locs) (hT : rm_TY cI c1 c2 c3 c4 c5 ad G X L f) (hG : G a0 = some 12) (hX : 0 ≤ X) (lv : Nat) {pc : Nat} (idx : Nat) {i w : Nat} (hdg : decode M.2.1 pc = .ok (.putfield idx, 3)) (hidx : fl idx = some (11, i, w)) {t : rk_AV} (ht : (rk_K 12).2.2.2[i]? = some t) {v : Value} (hw : (w = 0 ∧ ∃ x : Int32, v = .int x) ∨ (w = 1 ∧ (v = .int 0 ∨ v = .int 1))) (hv : rk_has G X t v) (hwr : rm_wr lv 12 (i : Int) (i : Int) = true) (hi1 : i ≠ 1) {rest : List Value} {lo : List (Nat × Value)}
    (kk : ∀ (u : Nat → va_E) (H1 : Heap) (locs1 : List Loc), rm_h D A st L u H1 locs1 → rm_TY cI c1 c2 c3 c4 c5 ad G X L u → rm_Lv G lv f u → (rk_fld (u a0) i = some v ∧ (∀ j, j ≠ i → rk_fld (u a0) j = rk_fld (f a0) j) ∧ (∀ b, b ≠ a0 → u b = f b) ∧ rm_now G u a0 = rm_now G f a0) → rv_G p l e R st m args below meth c Q M.2.2.1 cells slots H1 locs1 (pc + 3) rest lo) : rv_G p l e R st m args below meth c Q M.2.2.1 cells slots H locs pc (v :: .ref a0 :: rest) lo := by
  obtain ⟨hL0, fs, aN, aA, aT, aH, aI, e1, e2, ⟨n1, n2⟩, -, -, -, -, e3⟩ := rm_me hT hG
  obtain ⟨hLN, g, eN, tN⟩ := rm_ro hT n2 rfl
  have hil : i < 13 := (List.getElem?_eq_some_iff.mp ht).1
  have hne : aN ≠ a0 := fun h => by rw [h, hG] at n2; cases n2
  refine rm_putf hC hh hdg hidx hL0 e1 (by omega) hw (fun H1 locs1 hh1 => ?_)
  refine kk _ H1 locs1 hh1 (rk_TY_up hT hG ?_) ((rm_LvOk G).2.2.2 lv f f a0 12 _ i i hwr hG (Or.inl ⟨11, fs, i, v, e1, rfl, Int.le_refl _, Int.le_refl _⟩) (rm_lv_rf lv)) ⟨?_, fun j hj => ?_, fun b hb => va_up_ne _ _ hb, ?_⟩
  · refine ⟨_, rfl, by rw [List.length_set]; exact e2, fun j t' v' hj hv' => ?_⟩
    by_cases hji : j = i
    · subst hji
      rw [List.getElem?_set_self (by omega)] at hv'
      cases hv'
      have hj2 : (rk_K 12).2.2.2[j]? = some t' := hj
      rw [ht] at hj2
      cases hj2
      exact hv
    · rw [List.getElem?_set_ne (Ne.symm hji)] at hv'
      exact e3 j t' v' hj hv'
  · rw [va_up_self]
    exact List.getElem?_set_self (by omega)
  · rw [va_up_self, e1]
    exact List.getElem?_set_ne (Ne.symm hj)
  · have h1 : rm_now G (va_up f a0 (.inr (11, fs.set i v))) a0 = g := rm_rw_of (a := aN) (va_up_self _ _ _) (by rw [List.getElem?_set_ne hi1]; exact n1) n2 (by rw [va_up_ne _ _ hne]; exact eN)
    have h2 : rm_now G f a0 = g := rm_rw_of e1 n1 n2 eN
    rw [h1, h2]
/-- a number of the model is read -/
theorem w_gf (hC : rm_Cx base (rk_tys cI c1 c2 c3 c4 c5) D (rk_NU base ad adV) M mt ml fl p R st m args meth c A L) (hh : rm_h D A st L f H locs) (hT : rm_TY cI c1 c2 c3 c4 c5 ad G X L f) (hG : G a0 = some 12) (hX : 0 ≤ X) {pc : Nat} (idx : Nat) {i w : Nat} (hdg : decode M.2.1 pc = .ok (.getfield idx, 3)) (hidx : fl idx = some (11, i, w)) {x1 x2 : Int} (ht : (rk_K 12).2.2.2[i]? = some (0, x1, x2)) {rest : List Value} {lo : List (Nat × Value)}
    (kk : ∀ x : Int32, rm_fi f a0 i = x.toInt → x1 ≤ x.toInt ∧ x.toInt ≤ x2 → rv_G p l e R st m args below meth c Q M.2.2.1 cells slots H locs (pc + 3) (.int x :: rest) lo) : rv_G p l e R st m args below meth c Q M.2.2.1 cells slots H locs pc (.ref a0 :: rest) lo := by
  obtain ⟨hL0, fs, aN, aA, aT, aH, aI, e1, e2, -, -, -, -, -, e3⟩ := rm_me hT hG
  have hil : i < 13 := (List.getElem?_eq_some_iff.mp ht).1
  have hv : fs[i]? = some fs[i] := List.getElem?_eq_getElem (by omega)
  obtain ⟨x, ex, h1, h2⟩ := e3 i _ _ ht hv
  rw [ex] at hv
  refine rm_get hC hh hdg hidx hL0 e1 hv (kk x ?_ ⟨h1, h2⟩)
  unfold rm_fi
  have e4 : rk_fld (f a0) i = some (.int x) := by rw [e1]; exact hv
  rw [e4]
/-- the row now itself -/
theorem w_gn (hC : rm_Cx base (rk_tys cI c1 c2 c3 c4 c5) D (rk_NU base ad adV) M mt ml fl p R st m args meth c A L) (hh : rm_h D A st L f H locs) (hT : rm_TY cI c1 c2 c3 c4 c5 ad G X L f) (hG : G a0 = some 12) (hX : 0 ≤ X) {pc : Nat} (hdg : decode M.2.1 pc = .ok (.getfield 7, 3)) (hidx : fl 7 = some (11, 1, 3)) {rest : List Value} {lo : List (Nat × Value)}
    (kk : ∀ (fs : List Value) (aN : Nat) (g : Nat → Int32), f a0 = .inr (11, fs) → fs[1]? = some (.ref aN) → G aN = some 24 → aN ∈ L → f aN = .inl (cI, 6466, .inl g) → (∀ i, i < 6466 → rk_has G X (rk_E ad 24 i) (.int (g i))) → rm_now G f a0 = g → rv_G p l e R st m args below meth c Q M.2.2.1 cells slots H locs (pc + 3) (.ref aN :: rest) lo) : rv_G p l e R st m args below meth c Q M.2.2.1 cells slots H locs pc (.ref a0 :: rest) lo := by
  obtain ⟨hL0, fs, aN, aA, aT, aH, aI, e1, e2, ⟨n1, n2⟩, -⟩ := rm_me hT hG
  obtain ⟨hLN, g, eN, tN⟩ := rm_ro hT n2 rfl
  exact rm_get hC hh hdg hidx hL0 e1 n1 (kk fs aN g e1 n1 n2 hLN eN tN (rm_rw_of e1 n1 n2 eN))
/-- a place of the row now is set -/
theorem w_nst (hC : rm_Cx base (rk_tys cI c1 c2 c3 c4 c5) D (rk_NU base ad adV) M mt ml fl p R st m args meth c A L) (hh : rm_h D A st L f H locs) (hT : rm_TY cI c1 c2 c3 c4 c5 ad G X L f) (hG : G a0 = some 12) (hX : 0 ≤ X) (lv j : Nat) {pc : Nat} (hdg : decode M.2.1 pc = .ok (.iastore, 1)) {fs : List Value} {aN : Nat} {g : Nat → Int32} (e1 : f a0 = .inr (11, fs)) (n1 : fs[1]? = some (.ref aN)) (n2 : G aN = some 24) (hLN : aN ∈ L) (eN : f aN = .inl (cI, 6466, .inl g)) (tN : ∀ i, i < 6466 → rk_has G X (rk_E ad 24 i) (.int (g i))) {i x : Int32} (hi : i.toInt = (j : Int)) (hj : j < 6466) (hx : rk_has G X (rm_mE j) (.int x)) (hwr : rm_wr lv 24 (j : Int) (j : Int) = true) {rest : List Value} {lo : List (Nat × Value)}
    (kk : ∀ (u : Nat → va_E) (H1 : Heap) (locs1 : List Loc), rm_h D A st L u H1 locs1 → rm_TY cI c1 c2 c3 c4 c5 ad G X L u → rm_Lv G lv f u → (∀ i, rm_now G u a0 i = if i = j then x else rm_now G f a0 i) → rv_G p l e R st m args below meth c Q M.2.2.1 cells slots H1 locs1 (pc + 1) rest lo) : rv_G p l e R st m args below meth c Q M.2.2.1 cells slots H locs pc (.int x :: .int i :: .ref aN :: rest) lo := by
  have hS := rm_set (lv := lv) (Int.le_refl X) hT hG e1 n1 n2 eN tN hx hwr
  refine rm_iast hC hh hdg hLN eN rfl (by omega) (by omega) (fun H1 locs1 hh1 => ?_)
  rw [rm_clamp hi] at hh1
  exact kk _ H1 locs1 hh1 hS.1 hS.2.1 hS.2.2
end RMF
/-- a sound model stays so -/
theorem rm_I1 {G : Nat → Option Nat} {f u : Nat → va_E} {a0 : Nat} (hL : rm_Lv G 1 f u) (hG : G a0 = some 12) (h : rm_INV G f a0) : rm_INV G u a0 := rm_INV_eq (rm_lvb hL (by decide) rfl : rm_Rb 1 G f u) (rm_lvb hL (by decide) rfl : rm_Rb 8 G f u) hG h
theorem rm_I3 {G : Nat → Option Nat} {f u : Nat → va_E} {a0 : Nat} (hL : rm_Lv G 3 f u) (h1 : rm_one G) (hG : G a0 = some 12) (h : rm_INV G f a0) : rm_INV G u a0 := (rm_lvb hL (by decide) rfl : rm_Rb 3 G f u) h1 a0 hG h
theorem rm_I7 {G : Nat → Option Nat} {f u : Nat → va_E} {a0 : Nat} (hL : rm_Lv G 7 f u) (h1 : rm_one G) (hG : G a0 = some 12) (h : rm_INV G f a0) : rm_INV G u a0 := (rm_lvb hL (by decide) rfl : rm_Rb 3 G f u) h1 a0 hG h
