theorem ex_alt0 {G : Nat → Option Nat} {X : Int} {av : List Value} {v : Option Value} {a b p q : Int} {x : Int32} (hx : av[0]? = some (.int x)) (h : rk_alt G X av [((0, 1, 1), [(0, (0, a, b))]), ((0, 0, 0), [(0, (0, -2147483648, p))]), ((0, 0, 0), [(0, (0, q, 2147483647))])] v) : ∃ w : Int32, v = some (.int w) ∧ ((w.toInt = 1 ∧ a ≤ x.toInt ∧ x.toInt ≤ b) ∨ (w.toInt = 0 ∧ (x.toInt ≤ p ∨ q ≤ x.toInt))) := by
  obtain ⟨y, hy, h1, h2⟩ := h
  rcases List.mem_cons.mp hy with rfl | hy
  · obtain ⟨w, rfl, k, rfl, k1, k2⟩ := (h1 : ∃ w, v = some w ∧ rk_has G X (0, 1, 1) w)
    obtain ⟨w9, e9, x9, e10, y1, y2⟩ := h2 _ List.mem_cons_self
    rw [hx] at e9
    cases e9
    cases e10
    exact ⟨k, rfl, Or.inl ⟨by omega, y1, y2⟩⟩
  rcases List.mem_cons.mp hy with rfl | hy
  · obtain ⟨w, rfl, k, rfl, k1, k2⟩ := (h1 : ∃ w, v = some w ∧ rk_has G X (0, 0, 0) w)
    obtain ⟨w9, e9, x9, e10, y1, y2⟩ := h2 _ List.mem_cons_self
    rw [hx] at e9
    cases e9
    cases e10
    exact ⟨k, rfl, Or.inr ⟨by omega, Or.inl y2⟩⟩
  · rw [List.mem_singleton] at hy
    subst hy
    obtain ⟨w, rfl, k, rfl, k1, k2⟩ := (h1 : ∃ w, v = some w ∧ rk_has G X (0, 0, 0) w)
    obtain ⟨w9, e9, x9, e10, y1, y2⟩ := h2 _ List.mem_cons_self
    rw [hx] at e9
    cases e9
    cases e10
    exact ⟨k, rfl, Or.inr ⟨by omega, Or.inr y1⟩⟩
theorem ex_alt1 {G : Nat → Option Nat} {X : Int} {av : List Value} {v : Option Value} {a b p q : Int} {x : Int32} (hx : av[1]? = some (.int x)) (h : rk_alt G X av [((0, 1, 1), [(1, (0, a, b))]), ((0, 0, 0), [(1, (0, -2147483648, p))]), ((0, 0, 0), [(1, (0, q, 2147483647))])] v) : ∃ w : Int32, v = some (.int w) ∧ ((w.toInt = 1 ∧ a ≤ x.toInt ∧ x.toInt ≤ b) ∨ (w.toInt = 0 ∧ (x.toInt ≤ p ∨ q ≤ x.toInt))) := by
  obtain ⟨y, hy, h1, h2⟩ := h
  rcases List.mem_cons.mp hy with rfl | hy
  · obtain ⟨w, rfl, k, rfl, k1, k2⟩ := (h1 : ∃ w, v = some w ∧ rk_has G X (0, 1, 1) w)
    obtain ⟨w9, e9, x9, e10, y1, y2⟩ := h2 _ List.mem_cons_self
    rw [hx] at e9
    cases e9
    cases e10
    exact ⟨k, rfl, Or.inl ⟨by omega, y1, y2⟩⟩
  rcases List.mem_cons.mp hy with rfl | hy
  · obtain ⟨w, rfl, k, rfl, k1, k2⟩ := (h1 : ∃ w, v = some w ∧ rk_has G X (0, 0, 0) w)
    obtain ⟨w9, e9, x9, e10, y1, y2⟩ := h2 _ List.mem_cons_self
    rw [hx] at e9
    cases e9
    cases e10
    exact ⟨k, rfl, Or.inr ⟨by omega, Or.inl y2⟩⟩
  · rw [List.mem_singleton] at hy
    subst hy
    obtain ⟨w, rfl, k, rfl, k1, k2⟩ := (h1 : ∃ w, v = some w ∧ rk_has G X (0, 0, 0) w)
    obtain ⟨w9, e9, x9, e10, y1, y2⟩ := h2 _ List.mem_cons_self
    rw [hx] at e9
    cases e9
    cases e10
    exact ⟨k, rfl, Or.inr ⟨by omega, Or.inr y1⟩⟩
/-- End number e of a World -/
def rc_E (f : Nat → va_E) (w e aE : Nat) : Prop := ∃ (aS : Nat) (cA : ClassId) (n : Nat) (g : Nat → Option Nat), rk_fld (f w) 3 = some (.ref aS) ∧ f aS = .inl (cA, n, .inr (.inr (.inr (.inr g)))) ∧ g e = some aE
section RCE
variable {base : Nat} {l : Launch} {cI c1 c2 c3 c4 c5 : ClassId} {D : va_G} {ad adV : Nat → Nat} {G : Nat → Option Nat} {L : List Nat} {X : Int} {f u : Nat → va_E}
/-- a World's row of Ends -/
theorem rc_row (hT : rm_TY cI c1 c2 c3 c4 c5 ad G X L f) {w : Nat} (hG : G w = some 10) : w ∈ L ∧ ∃ (fs : List Value) (aS : Nat) (cA : ClassId) (C : String) (g : Nat → Option Nat), f w = .inr (9, fs) ∧ fs.length = 10 ∧ fs[3]? = some (.ref aS) ∧ G aS = some 28 ∧ aS ∈ L ∧ f aS = .inl (cA, 8, .inr (.inr (.inr (.inr g)))) ∧ (rk_tys cI c1 c2 c3 c4 c5)[4]? = some (cA, .object C) ∧ ∀ i, i < 8 → ∃ a, g i = some a ∧ G a = some 1 := by
  obtain ⟨hL0, fs, e1, e2, e3⟩ := rc_me hT hG rfl
  have e2 : fs.length = 10 := e2
  have hv : fs[3]? = some fs[3] := List.getElem?_eq_getElem (by omega)
  obtain ⟨aS, eS, hS⟩ := (e3 3 (2, 28, 0) _ rfl hv : rk_has G X (2, 28, 0) _)
  rw [eS] at hv
  obtain ⟨hLS, hcS⟩ := hT.1 aS 28 hS (by decide)
  obtain ⟨cA, C, g, f1, f2, f3⟩ := (hcS : ∃ (cA : ClassId) (C : String) (g : Nat → Option Nat), f aS = .inl (cA, 8, .inr (.inr (.inr (.inr g)))) ∧ (rk_tys cI c1 c2 c3 c4 c5)[4]? = some (cA, .object C) ∧ ∀ i, i < 8 → rk_has G X (rk_E ad 28 i) (va_rf (g i)))
  refine ⟨hL0, fs, aS, cA, C, g, e1, e2, hv, hS, hLS, f1, f2, fun i hi => ?_⟩
  obtain ⟨a, ea, ha⟩ := (f3 i hi : rk_has G X (2, 1, 0) _)
  cases hg : g i with
  | none => rw [hg] at ea; cases ea
  | some b =>
    rw [hg] at ea
    have ea : Value.ref b = .ref a := ea
    cases ea
    exact ⟨_, rfl, ha⟩
theorem rc_E_g {w e aE aS n : Nat} {cA : ClassId} {fs : List Value} {g : Nat → Option Nat} (h : rc_E f w e aE) (e1 : f w = .inr (9, fs)) (e2 : fs[3]? = some (.ref aS)) (e3 : f aS = .inl (cA, n, .inr (.inr (.inr (.inr g))))) : g e = some aE := by
  obtain ⟨aS', cA', n', g', k1, k2, k3⟩ := h
  rw [e1] at k1
  have k1 : fs[3]? = some (.ref aS') := k1
  rw [e2] at k1
  cases k1
  rw [e3] at k2
  cases k2
  exact k3
theorem rc_E_1 (hT : rm_TY cI c1 c2 c3 c4 c5 ad G X L f) {w e aE : Nat} (hG : G w = some 10) (he : e < 8) (h : rc_E f w e aE) : G aE = some 1 := by
  obtain ⟨-, fs, aS, cA, C, g, e1, e2, e3, e4, e5, e6, e7, e8⟩ := rc_row hT hG
  have h9 := rc_E_g h e1 e3 e6
  obtain ⟨a, ha, hg⟩ := e8 e he
  rw [h9] at ha
  cases ha
  exact hg
theorem rc_E_k {lv : Nat} (hT : rm_TY cI c1 c2 c3 c4 c5 ad G X L f) (hL : rc_Lv G lv f u) (b5 : Nat.testBit lv 5 = false) {w e aE : Nat} (hG : G w = some 10) (h : rc_E f w e aE) : rc_E u w e aE := by
  obtain ⟨-, fs, aS, cA, C, g, e1, e2, e3, e4, e5, e6, e7, e8⟩ := rc_row hT hG
  have h9 := rc_E_g h e1 e3 e6
  have h5 : rc_FZ G f u := hL 5 (by decide) b5
  refine ⟨aS, cA, 8, g, ?_, ?_, h9⟩
  · rw [← h5.2.1 w hG, e1]
    exact e3
  · rw [h5.2.2 aS e4]
    exact e6
theorem rc_ho {lv : Nat} (hL : rc_Lv G lv f u) (b2 : Nat.testBit lv 2 = false) {w : Nat} (hw : G w = some 1) : rk_fld (u w) 4 = rk_fld (f w) 4 := ((hL 2 (by decide) b2 : rc_Rb 2 G f u) w hw).symm
/-- what an End holds -/
theorem rc_eho (hT : rm_TY cI c1 c2 c3 c4 c5 ad G X L f) {a : Nat} (hG : G a = some 1) : a ∈ L ∧ ∃ (fs : List Value) (z : Int32), f a = .inr (1, fs) ∧ fs.length = 8 ∧ fs[4]? = some (.int z) ∧ rk_fld (f a) 4 = some (.int z) ∧ 0 ≤ z.toInt ∧ z.toInt ≤ 1 := by
  obtain ⟨hL0, fs, e1, e2, e3⟩ := rc_me hT hG rfl
  have e2 : fs.length = 8 := e2
  have hv : fs[4]? = some fs[4] := List.getElem?_eq_getElem (by omega)
  obtain ⟨z, ez, h1, h2⟩ := (e3 4 (0, 0, 1) _ rfl hv : rk_has G X (0, 0, 1) _)
  rw [ez] at hv
  exact ⟨hL0, fs, z, e1, e2, hv, by rw [e1]; exact hv, h1, h2⟩
theorem rc_eset (hT : rm_TY cI c1 c2 c3 c4 c5 ad G X L f) {a : Nat} (hG : G a = some 1) {fs : List Value} (e1 : f a = .inr (1, fs)) (e2 : fs.length = 8) {y : Int32} (h1 : 0 ≤ y.toInt) (h2 : y.toInt ≤ 1) : rm_TY cI c1 c2 c3 c4 c5 ad G X L (va_up f a (.inr (1, fs.set 4 (.int y)))) ∧ rc_Lv G 5 f (va_up f a (.inr (1, fs.set 4 (.int y)))) ∧ rk_fld (va_up f a (.inr (1, fs.set 4 (.int y))) a) 4 = some (.int y) ∧ ∀ w, w ≠ a → va_up f a (.inr (1, fs.set 4 (.int y))) w = f w := by
  refine ⟨?_, (rc_LvOk G).2.2.2 5 f f a 1 _ 4 4 rfl hG (Or.inl ⟨1, fs, 4, _, e1, rfl, Int.le_refl _, Int.le_refl _⟩) (rc_lv_rf 5), ?_, fun w hw => va_up_ne _ _ hw⟩
  · obtain ⟨-, fs9, e19, -, e3⟩ := rc_me hT hG rfl
    rw [e1] at e19
    cases e19
    refine rk_TY_up hT hG ⟨_, rfl, by rw [List.length_set]; exact e2, fun j t' v' hj hv' => ?_⟩
    by_cases hji : j = 4
    · subst hji
      rw [List.getElem?_set_self (by rw [e2]; decide)] at hv'
      cases hv'
      cases hj
      exact ⟨y, rfl, h1, h2⟩
    · rw [List.getElem?_set_ne (Ne.symm hji)] at hv'
      exact e3 j t' v' hj hv'
  · rw [va_up_self]
    exact List.getElem?_set_self (by omega)
theorem rc_01 {y : Int32} (h1 : 0 ≤ y.toInt) (h2 : y.toInt ≤ 1) : (Value.int y = .int 0 ∨ Value.int y = .int 1) := by
  rcases (by omega : y.toInt = 0 ∨ y.toInt = 1) with h | h
  · left
    rw [show y = 0 from Int32.toInt_inj.mp h]
  · right
    rw [show y = 1 from Int32.toInt_inj.mp h]
end RCE
def rv_t_X1_copyFrom : rv_T := (.branch 0 (.branch 0 (.branch 0 (.branch 0 (.branch 0 (.branch 0 (.branch 0 (.leaf (0, .aload_n 0, 1)) (.leaf (64, .getfield 48, 3))) (.leaf (99999, .nop, 1))) (.branch 0 (.branch 0 (.leaf (16, .getfield 23, 3)) (.leaf (80, .getfield 56, 3))) (.leaf (48, .goto (-24), 3)))) (.branch 0 (.branch 0 (.branch 0 (.leaf (8, .invokevirtual 38, 3)) (.leaf (72, .getfield 52, 3))) (.leaf (40, .iload_n 2, 1))) (.branch 0 (.branch 0 (.leaf (24, .iload_n 2, 1)) (.leaf (88, .getfield 59, 3))) (.leaf (56, .getfield 34, 3))))) (.branch 0 (.branch 0 (.branch 0 (.leaf (4, .aload_n 1, 1)) (.leaf (36, .aload_n 1, 1))) (.leaf (52, .getfield 34, 3))) (.leaf (12, .getfield 23, 3)))) (.branch 0 (.branch 0 (.leaf (34, .iload_n 2, 1)) (.leaf (42, .invokevirtual 45, 3))) (.branch 0 (.branch 0 (.leaf (70, .aload_n 0, 1)) (.branch 0 (.branch 0 (.leaf (22, .iconst 0, 1)) (.leaf (86, .aload_n 0, 1))) (.leaf (99999, .nop, 1)))) (.branch 0 (.leaf (78, .aload_n 0, 1)) (.branch 0 (.branch 0 (.leaf (30, .aload_n 0, 1)) (.leaf (94, .return_, 1))) (.leaf (62, .aload_n 0, 1))))))) (.branch 0 (.branch 0 (.branch 0 (.leaf (1, .getfield 16, 3)) (.branch 0 (.leaf (41, .aaload, 1)) (.leaf (25, .bipush (6), 2)))) (.branch 0 (.branch 0 (.branch 0 (.leaf (5, .getfield 16, 3)) (.leaf (37, .getfield 29, 3))) (.leaf (99999, .nop, 1))) (.leaf (45, .iinc 2 (1), 3)))) (.branch 0 (.branch 0 (.branch 0 (.branch 0 (.leaf (67, .putfield 48, 3)) (.leaf (35, .aaload, 1))) (.branch 0 (.branch 0 (.leaf (19, .invokevirtual 42, 3)) (.leaf (83, .putfield 56, 3))) (.leaf (51, .aload_n 0, 1)))) (.branch 0 (.branch 0 (.branch 0 (.leaf (11, .aload_n 0, 1)) (.leaf (75, .putfield 52, 3))) (.leaf (99999, .nop, 1))) (.branch 0 (.branch 0 (.leaf (27, .if_icmp .ge (24), 3)) (.leaf (91, .putfield 59, 3))) (.leaf (59, .invokevirtual 45, 3))))) (.branch 0 (.branch 0 (.leaf (71, .aload_n 1, 1)) (.branch 0 (.branch 0 (.leaf (23, .istore_n 2, 1)) (.leaf (87, .aload_n 1, 1))) (.leaf (55, .aload_n 1, 1)))) (.branch 0 (.branch 0 (.branch 0 (.leaf (15, .aload_n 1, 1)) (.leaf (79, .aload_n 1, 1))) (.leaf (99999, .nop, 1))) (.branch 0 (.leaf (31, .getfield 29, 3)) (.leaf (63, .aload_n 1, 1))))))))
theorem rv_k_X1_copyFrom : rv_tok cX1_copyFrom rv_t_X1_copyFrom = true := by decide +kernel

def rv_t_X11_hold : rv_T := (.branch 0 (.branch 0 (.branch 0 (.branch 0 (.branch 0 (.branch 0 (.leaf (0, .iload_n 1, 1)) (.leaf (32, .iload_n 1, 1))) (.leaf (16, .getfield 85, 3))) (.branch 0 (.leaf (8, .getfield 12, 3)) (.leaf (24, .ireturn, 1)))) (.branch 0 (.branch 0 (.leaf (4, .ifCond .eq (19), 3)) (.leaf (20, .if_icmp .ne (5), 3))) (.leaf (99999, .nop, 1)))) (.branch 0 (.branch 0 (.leaf (34, .iload_n 2, 1)) (.leaf (26, .getfield 12, 3))) (.branch 0 (.leaf (38, .iconst 1, 1)) (.leaf (14, .iload_n 1, 1))))) (.branch 0 (.branch 0 (.branch 0 (.branch 0 (.branch 0 (.leaf (1, .invokestatic 78, 3)) (.leaf (33, .aaload, 1))) (.leaf (99999, .nop, 1))) (.leaf (25, .aload_n 0, 1))) (.leaf (29, .getfield 81, 3))) (.branch 0 (.branch 0 (.branch 0 (.leaf (35, .putfield 85, 3)) (.leaf (19, .iload_n 2, 1))) (.leaf (11, .getfield 81, 3))) (.branch 0 (.branch 0 (.branch 0 (.leaf (7, .aload_n 0, 1)) (.leaf (39, .ireturn, 1))) (.leaf (23, .iconst 0, 1))) (.leaf (15, .aaload, 1))))))
theorem rv_k_X11_hold : rv_tok cX11_hold rv_t_X11_hold = true := by decide +kernel

section RMX
variable (base : Nat) (l : Launch) (cI c1 c2 c3 c4 c5 : ClassId) (D : va_G) (ad adV : Nat → Nat)
theorem c_X11_isEndE : rk_Mc base l cI c1 c2 c3 c4 c5 D ad adV rk_q_X11_isEnd [(0, -2147483648, 2147483647)] [((0, 1, 1), [(0, (0, 0, 7))]), ((0, 0, 0), [(0, (0, -2147483648, -1))]), ((0, 0, 0), [(0, (0, 8, 2147483647))])] 0 0 :=
  rk_chk_ok (rk_hER ad) (ap := (5, 4)) (rk_hap cI c1 c2 c3 c4 c5) (rk_hNw base ad adV) (rk_hNc base ad adV) rc_LvOk (mt := rk_mt []) (ctr := rk_look []) (rk_look_ok _ (fun _ h => absurd h List.not_mem_nil))
    (M := rk_q_X11_isEnd) (P := (cX11_isEnd, 1, rk_flf rk_ftX11, rk_mlf [], rk_csf [], rk_ssf [], rk_acf [] [])) rfl rfl (by decide +kernel) (fun s args h hN => rk_flX11 (fun w hw => List.mem_cons_of_mem _ hw) h hN)
    (fun s args h hN => rk_MlOk_of (fun _ h => absurd h List.not_mem_nil) (by decide +kernel))
    (fun s args h i v hi => absurd hi (by simp [rk_csf])) (fun s hN i k hi => absurd hi (by simp [rk_ssf, rk_lk])) (fun s args h => rk_acf_ok (fun _ h => absurd h List.not_mem_nil) (fun _ h => absurd h List.not_mem_nil))
    (fun _ _ _ _ h => h) (rk := 2) ⟨fun h => absurd h (by decide), fun h => absurd h (by decide), fun _ => rfl, fun h => absurd h (by decide)⟩ (cs := []) (fuel := 3000) (by decide +kernel)
theorem c_X12_isEndE : rm_Mc base l cI c1 c2 c3 c4 c5 D ad adV rk_q_X12_isEnd [(2, 12, 0), (0, -2147483648, 2147483647)] [((0, 1, 1), [(1, (0, 0, 7))]), ((0, 0, 0), [(1, (0, -2147483648, -1))]), ((0, 0, 0), [(1, (0, 8, 2147483647))])] 0 0 :=
  rk_chk_ok (rk_hER ad) (ap := (5, 4)) (rk_hap cI c1 c2 c3 c4 c5) (rk_hNw base ad adV) (rk_hNc base ad adV) rm_LvOk (mt := rk_mt []) (ctr := rk_look []) (rk_look_ok _ (fun _ h => absurd h List.not_mem_nil))
    (M := rk_q_X12_isEnd) (P := (cX12_isEnd, 2, rk_flf rk_ftX12, rk_mlf [], rk_csf [], rk_ssf [], rk_acf [] [])) rfl rfl (by decide +kernel) (fun s args h hN => rk_flX12 (fun w hw => List.mem_cons_of_mem _ hw) h hN)
    (fun s args h hN => rk_MlOk_of (fun _ h => absurd h List.not_mem_nil) (by decide +kernel))
    (fun s args h i v hi => absurd hi (by simp [rk_csf])) (fun s hN i k hi => absurd hi (by simp [rk_ssf, rk_lk])) (fun s args h => rk_acf_ok (fun _ h => absurd h List.not_mem_nil) (fun _ h => absurd h List.not_mem_nil))
    (fun _ _ _ _ h => h) (rk := 2) ⟨fun h => absurd h (by decide), fun h => absurd h (by decide), fun _ => rfl, fun h => absurd h (by decide)⟩ (cs := []) (fuel := 3000) (by decide +kernel)
theorem m_copyE_0 {mt0 : Nat → rk_Mt} {ml0 : rk_Ml} {fl0 : rk_Fl} {p : Program} {e : Env} {s : State} {m : MethodId} {args : Array Value} {below : List Frame} {meth : Method} {c : Code} {A : Nat → Prop} {G : Nat → Option Nat} {L : List Nat} {cc ss cm sm : Nat} (hC : rm_Cx base (rk_tys cI c1 c2 c3 c4 c5) D (rk_NU base ad adV) rk_q_X1_copyFrom mt0 ml0 fl0 p { frames := rk_q_X1_copyFrom.2.2.2.2.1, cells := cc, slots := ss, locals := rk_q_X1_copyFrom.2.2.2.2.2 } s m args meth c A L) (hcm : cm ≤ cc ∧ sm ≤ ss) {X : Int} {f : Nat → va_E} {H : Heap} {locs : List Loc} (hX : 0 ≤ X) (hXC : X + 0 ≤ rk_top) (hT : rm_TY cI c1 c2 c3 c4 c5 ad G X L f) (hh : rm_h D A s L f H locs) {Pq : Option Value → (Nat → va_E) → Prop} {lo : List (Nat × Value)} (vs : Nat → Value) (hlo : ∀ i t, ([(2, 1, 0), (2, 1, 0)] : List rk_AV)[i]? = some t → t.1 < 4 → (i, vs i) ∈ lo) (hty : ∀ i t, ([(2, 1, 0), (2, 1, 0)] : List rk_AV)[i]? = some t → rk_has G X t (vs i)) (kk : ∀ (r1 : Nat → Value) (u : Nat → va_E) (H1 : Heap) (locs1 : List Loc), r1 0 = vs 0 → r1 1 = vs 1 → (∀ y t, ([(2, 1, 0), (2, 1, 0), (0, 6, 6)] : List rk_AV)[y]? = some t → rk_has G (X + 0) t (r1 y)) → rm_TY cI c1 c2 c3 c4 c5 ad G (X + 0) L u → rc_Lv G 1 f u → rm_h D A s L u H1 locs1 → rv_G p l e { frames := rk_q_X1_copyFrom.2.2.2.2.1, cells := cc, slots := ss, locals := rk_q_X1_copyFrom.2.2.2.2.2 } s m args below meth c (MQ below (rk_Q Pq (rk_B D (rk_tys cI c1 c2 c3 c4 c5) L A) A) args s cm sm A) rk_q_X1_copyFrom.2.2.1 cm sm H1 locs1 62 [] [(0, r1 0), (1, r1 1), (2, r1 2)]) : rv_G p l e { frames := rk_q_X1_copyFrom.2.2.2.2.1, cells := cc, slots := ss, locals := rk_q_X1_copyFrom.2.2.2.2.2 } s m args below meth c (MQ below (rk_Q Pq (rk_B D (rk_tys cI c1 c2 c3 c4 c5) L A) A) args s cm sm A) rk_q_X1_copyFrom.2.2.1 cm sm H locs 0 [] lo := by
  exact rk_preC (ps := [0, 1]) (xe := (62, [(2, 1, 0), (2, 1, 0), (0, 6, 6)], [], (0, []), (0, []))) (Pw := (fun _ _ => True)) (rk_hER ad) (ap := (5, 4)) (rk_hap cI c1 c2 c3 c4 c5) (rk_hNc base ad adV) rc_LvOk (mt := rk_mt [rk_q_X0_copyFrom, rk_q_X4_copyFrom, rk_q_X7_copyFrom]) (ctr := rk_look [(0, [(2, 0, 0), (2, 0, 0)], [((9, 0, 0), [])], 0, 1), (1, [(2, 4, 0), (2, 4, 0)], [((9, 0, 0), [])], 0, 1), (2, [(2, 7, 0), (2, 7, 0)], [((9, 0, 0), [])], 0, 1)]) (rk_look_ok _ (List.forall_mem_cons.mpr ⟨c_X0_copyFrom base l cI c1 c2 c3 c4 c5 D ad adV, List.forall_mem_cons.mpr ⟨c_X4_copyFrom base l cI c1 c2 c3 c4 c5 D ad adV, List.forall_mem_cons.mpr ⟨c_X7_copyFrom_1 base l cI c1 c2 c3 c4 c5 D ad adV, fun _ h => absurd h List.not_mem_nil⟩⟩⟩)) (M := rk_q_X1_copyFrom) (P := (cX1_copyFrom, 3, rk_flf rk_ftX1, rk_mlf [(38, 2, 2, 7), (42, 0, 2, 1), (45, 1, 2, 5)], rk_csf [], rk_ssf [], rk_acf [] [])) rfl rfl (fun s args h hN => rk_flX1 (fun w hw => List.mem_cons_of_mem _ hw) h hN)
    (fun s args h hN => rk_MlOk_of (List.forall_mem_cons.mpr ⟨rk_mck_ok (fun w hw => List.mem_cons_of_mem _ hw) h hN rk_cm_X7_copyFrom rk_lk_X1_38, List.forall_mem_cons.mpr ⟨rk_mck_ok (fun w hw => List.mem_cons_of_mem _ hw) h hN rk_cm_X0_copyFrom rk_lk_X1_42, List.forall_mem_cons.mpr ⟨rk_mck_ok (fun w hw => List.mem_cons_of_mem _ hw) h hN rk_cm_X4_copyFrom rk_lk_X1_45, fun _ h => absurd h List.not_mem_nil⟩⟩⟩) (by decide +kernel))
    (fun s args h i v hi => absurd hi (by simp [rk_csf])) (fun s hN i k hi => absurd hi (by simp [rk_ssf, rk_lk])) (fun s args h => rk_acf_ok (fun _ h => absurd h List.not_mem_nil) (fun _ h => absurd h List.not_mem_nil))
    (fun _ _ _ _ h => h) (rk := 0) ⟨fun _ => rfl, fun h => absurd h (by decide), fun h => absurd h (by decide), fun h => absurd h (by decide)⟩ (alts := ([] : List rk_Alt)) hC hcm hX hXC hT trivial hh (fun _ _ h _ _ => by obtain ⟨_, h9, _⟩ := h; cases h9) vs hlo hty (cs := [(24, [(2, 1, 0), (2, 1, 0), (0, 0, 6)], [], (7, [(2, -1)]), (0, []))]) (fuel := 3000) (by decide +kernel) (fun r1 u H1 locs1 hp => kk r1 u H1 locs1 (hp 0 (by decide)) (hp 1 (by decide)))
theorem m_copyE_70 {mt0 : Nat → rk_Mt} {ml0 : rk_Ml} {fl0 : rk_Fl} {p : Program} {e : Env} {s : State} {m : MethodId} {args : Array Value} {below : List Frame} {meth : Method} {c : Code} {A : Nat → Prop} {G : Nat → Option Nat} {L : List Nat} {cc ss cm sm : Nat} (hC : rm_Cx base (rk_tys cI c1 c2 c3 c4 c5) D (rk_NU base ad adV) rk_q_X1_copyFrom mt0 ml0 fl0 p { frames := rk_q_X1_copyFrom.2.2.2.2.1, cells := cc, slots := ss, locals := rk_q_X1_copyFrom.2.2.2.2.2 } s m args meth c A L) (hcm : cm ≤ cc ∧ sm ≤ ss) {X : Int} {f : Nat → va_E} {H : Heap} {locs : List Loc} (hX : 0 ≤ X) (hXC : X + 0 ≤ rk_top) (hT : rm_TY cI c1 c2 c3 c4 c5 ad G X L f) (hh : rm_h D A s L f H locs) {Pq : Option Value → (Nat → va_E) → Prop} (hq : ∀ v u, rk_alt G (X + 0) ([] : List Value) [((9, 0, 0), [])] v → rm_TY cI c1 c2 c3 c4 c5 ad G (X + 0) L u → rc_Lv G 1 f u → Pq v u) {lo : List (Nat × Value)} (vs : Nat → Value) (hlo : ∀ i t, ([(2, 1, 0), (2, 1, 0)] : List rk_AV)[i]? = some t → t.1 < 4 → (i, vs i) ∈ lo) (hty : ∀ i t, ([(2, 1, 0), (2, 1, 0)] : List rk_AV)[i]? = some t → rk_has G X t (vs i)) : rv_G p l e { frames := rk_q_X1_copyFrom.2.2.2.2.1, cells := cc, slots := ss, locals := rk_q_X1_copyFrom.2.2.2.2.2 } s m args below meth c (MQ below (rk_Q Pq (rk_B D (rk_tys cI c1 c2 c3 c4 c5) L A) A) args s cm sm A) rk_q_X1_copyFrom.2.2.1 cm sm H locs 70 [] lo := by
  exact rk_midC (Pw := (fun _ _ => True)) (rk_hER ad) (ap := (5, 4)) (rk_hap cI c1 c2 c3 c4 c5) (rk_hNc base ad adV) rc_LvOk (mt := rk_mt []) (ctr := rk_look []) (rk_look_ok _ (fun _ h => absurd h List.not_mem_nil)) (M := rk_q_X1_copyFrom) (P := (cX1_copyFrom, 3, rk_flf rk_ftX1, rk_mlf [], rk_csf [], rk_ssf [], rk_acf [] [])) rfl rfl (fun s args h hN => rk_flX1 (fun w hw => List.mem_cons_of_mem _ hw) h hN)
    (fun s args h hN => rk_MlOk_of (fun _ h => absurd h List.not_mem_nil) (by decide +kernel))
    (fun s args h i v hi => absurd hi (by simp [rk_csf])) (fun s hN i k hi => absurd hi (by simp [rk_ssf, rk_lk])) (fun s args h => rk_acf_ok (fun _ h => absurd h List.not_mem_nil) (fun _ h => absurd h List.not_mem_nil))
    (fun _ _ _ _ h => h) (rk := 0) ⟨fun _ => rfl, fun h => absurd h (by decide), fun h => absurd h (by decide), fun h => absurd h (by decide)⟩ (alts := [((9, 0, 0), [])]) hC hcm hX hXC hT trivial hh hq vs hlo hty (cs := []) (fuel := 3000) (by decide +kernel)
theorem m_copyH_0 {mt0 : Nat → rk_Mt} {ml0 : rk_Ml} {fl0 : rk_Fl} {p : Program} {e : Env} {s : State} {m : MethodId} {args : Array Value} {below : List Frame} {meth : Method} {c : Code} {A : Nat → Prop} {G : Nat → Option Nat} {L : List Nat} {cc ss cm sm : Nat} (hC : rm_Cx base (rk_tys cI c1 c2 c3 c4 c5) D (rk_NU base ad adV) rk_q_X10_copyFrom mt0 ml0 fl0 p { frames := rk_q_X10_copyFrom.2.2.2.2.1, cells := cc, slots := ss, locals := rk_q_X10_copyFrom.2.2.2.2.2 } s m args meth c A L) (hcm : cm ≤ cc ∧ sm ≤ ss) {X : Int} {f : Nat → va_E} {H : Heap} {locs : List Loc} (hX : 0 ≤ X) (hXC : X + 0 ≤ rk_top) (hT : rm_TY cI c1 c2 c3 c4 c5 ad G X L f) (hh : rm_h D A s L f H locs) {Pq : Option Value → (Nat → va_E) → Prop} {lo : List (Nat × Value)} (vs : Nat → Value) (hlo : ∀ i t, ([(2, 10, 0), (2, 10, 0)] : List rk_AV)[i]? = some t → t.1 < 4 → (i, vs i) ∈ lo) (hty : ∀ i t, ([(2, 10, 0), (2, 10, 0)] : List rk_AV)[i]? = some t → rk_has G X t (vs i)) (kk : ∀ (r1 : Nat → Value) (u : Nat → va_E) (H1 : Heap) (locs1 : List Loc), r1 0 = vs 0 → r1 1 = vs 1 → (∀ y t, ([(2, 10, 0), (2, 10, 0)] : List rk_AV)[y]? = some t → rk_has G (X + 0) t (r1 y)) → rm_TY cI c1 c2 c3 c4 c5 ad G (X + 0) L u → rc_Lv G 1 f u → rm_h D A s L u H1 locs1 → rv_G p l e { frames := rk_q_X10_copyFrom.2.2.2.2.1, cells := cc, slots := ss, locals := rk_q_X10_copyFrom.2.2.2.2.2 } s m args below meth c (MQ below (rk_Q Pq (rk_B D (rk_tys cI c1 c2 c3 c4 c5) L A) A) args s cm sm A) rk_q_X10_copyFrom.2.2.1 cm sm H1 locs1 86 [] [(0, r1 0), (1, r1 1)]) : rv_G p l e { frames := rk_q_X10_copyFrom.2.2.2.2.1, cells := cc, slots := ss, locals := rk_q_X10_copyFrom.2.2.2.2.2 } s m args below meth c (MQ below (rk_Q Pq (rk_B D (rk_tys cI c1 c2 c3 c4 c5) L A) A) args s cm sm A) rk_q_X10_copyFrom.2.2.1 cm sm H locs 0 [] lo := by
  exact rk_preC (ps := [0, 1]) (xe := (86, [(2, 10, 0), (2, 10, 0)], [], (0, []), (0, []))) (Pw := (fun _ _ => True)) (rk_hER ad) (ap := (5, 4)) (rk_hap cI c1 c2 c3 c4 c5) (rk_hNc base ad adV) rc_LvOk (mt := rk_mt [rk_q_X8_copyFrom, rk_q_X2_copyFrom, rk_q_X6_copyFrom]) (ctr := rk_look [(0, [(2, 8, 0), (2, 8, 0)], [((9, 0, 0), [])], 0, 1), (1, [(2, 2, 0), (2, 2, 0)], [((9, 0, 0), [])], 0, 1), (2, [(2, 5, 0), (2, 5, 0)], [((9, 0, 0), [])], 0, 1)]) (rk_look_ok _ (List.forall_mem_cons.mpr ⟨c_X8_copyFrom base l cI c1 c2 c3 c4 c5 D ad adV, List.forall_mem_cons.mpr ⟨c_X2_copyFrom base l cI c1 c2 c3 c4 c5 D ad adV, List.forall_mem_cons.mpr ⟨c_X6_copyFrom base l cI c1 c2 c3 c4 c5 D ad adV, fun _ h => absurd h List.not_mem_nil⟩⟩⟩)) (M := rk_q_X10_copyFrom) (P := (cX10_copyFrom, 3, rk_flf rk_ftX10, rk_mlf [(54, 0, 2, 8), (58, 1, 2, 3), (61, 2, 2, 6)], rk_csf [], rk_ssf [], rk_acf [70] [])) rfl rfl (fun s args h hN => rk_flX10 (fun w hw => List.mem_cons_of_mem _ hw) h hN)
    (fun s args h hN => rk_MlOk_of (List.forall_mem_cons.mpr ⟨rk_mck_ok (fun w hw => List.mem_cons_of_mem _ hw) h hN rk_cm_X8_copyFrom rk_lk_X10_54, List.forall_mem_cons.mpr ⟨rk_mck_ok (fun w hw => List.mem_cons_of_mem _ hw) h hN rk_cm_X2_copyFrom rk_lk_X10_58, List.forall_mem_cons.mpr ⟨rk_mck_ok (fun w hw => List.mem_cons_of_mem _ hw) h hN rk_cm_X6_copyFrom rk_lk_X10_61, fun _ h => absurd h List.not_mem_nil⟩⟩⟩) (by decide +kernel))
    (fun s args h i v hi => absurd hi (by simp [rk_csf])) (fun s hN i k hi => absurd hi (by simp [rk_ssf, rk_lk])) (fun s args h => rk_acf_ok (List.forall_mem_cons.mpr ⟨⟨h _ (List.mem_cons_of_mem _ (rk_tat_ok (i := 1126) (by decide +kernel))), h _ (List.mem_cons_of_mem _ (rk_tat_ok (i := 1100) (by decide +kernel))), h _ (List.mem_cons_of_mem _ (rk_tat_ok (i := 1099) (by decide +kernel))), h _ (List.mem_cons_of_mem _ (rk_tat_ok (i := 139) (by decide +kernel))), by decide +kernel, by decide +kernel⟩, fun _ h => absurd h List.not_mem_nil⟩) (fun _ h => absurd h List.not_mem_nil))
    (fun _ _ _ _ h => h) (rk := 0) ⟨fun _ => rfl, fun h => absurd h (by decide), fun h => absurd h (by decide), fun h => absurd h (by decide)⟩ (alts := ([] : List rk_Alt)) hC hcm hX hXC hT trivial hh (fun _ _ h _ _ => by obtain ⟨_, h9, _⟩ := h; cases h9) vs hlo hty (cs := [(2, [(2, 10, 0), (2, 10, 0), (0, 0, 40)], [], (79, [(2, -1)]), (0, [])), (31, [(2, 10, 0), (2, 10, 0), (0, 0, 32)], [], (38, [(2, -1)]), (0, [])), (60, [(2, 10, 0), (2, 10, 0), (0, 0, 4)], [], (5, [(2, -1)]), (0, []))]) (fuel := 3000) (by decide +kernel) (fun r1 u H1 locs1 hp => kk r1 u H1 locs1 (hp 0 (by decide)) (hp 1 (by decide)))
theorem m_copyH_115 {mt0 : Nat → rk_Mt} {ml0 : rk_Ml} {fl0 : rk_Fl} {p : Program} {e : Env} {s : State} {m : MethodId} {args : Array Value} {below : List Frame} {meth : Method} {c : Code} {A : Nat → Prop} {G : Nat → Option Nat} {L : List Nat} {cc ss cm sm : Nat} (hC : rm_Cx base (rk_tys cI c1 c2 c3 c4 c5) D (rk_NU base ad adV) rk_q_X10_copyFrom mt0 ml0 fl0 p { frames := rk_q_X10_copyFrom.2.2.2.2.1, cells := cc, slots := ss, locals := rk_q_X10_copyFrom.2.2.2.2.2 } s m args meth c A L) (hcm : cm ≤ cc ∧ sm ≤ ss) {X : Int} {f : Nat → va_E} {H : Heap} {locs : List Loc} (hX : 0 ≤ X) (hXC : X + 0 ≤ rk_top) (hT : rm_TY cI c1 c2 c3 c4 c5 ad G X L f) (hh : rm_h D A s L f H locs) {Pq : Option Value → (Nat → va_E) → Prop} (hq : ∀ v u, rk_alt G (X + 0) ([] : List Value) [((9, 0, 0), [])] v → rm_TY cI c1 c2 c3 c4 c5 ad G (X + 0) L u → rc_Lv G 9 f u → Pq v u) {lo : List (Nat × Value)} (vs : Nat → Value) (hlo : ∀ i t, ([(2, 10, 0), (2, 10, 0)] : List rk_AV)[i]? = some t → t.1 < 4 → (i, vs i) ∈ lo) (hty : ∀ i t, ([(2, 10, 0), (2, 10, 0)] : List rk_AV)[i]? = some t → rk_has G X t (vs i)) : rv_G p l e { frames := rk_q_X10_copyFrom.2.2.2.2.1, cells := cc, slots := ss, locals := rk_q_X10_copyFrom.2.2.2.2.2 } s m args below meth c (MQ below (rk_Q Pq (rk_B D (rk_tys cI c1 c2 c3 c4 c5) L A) A) args s cm sm A) rk_q_X10_copyFrom.2.2.1 cm sm H locs 115 [] lo := by
  exact rk_midC (Pw := (fun _ _ => True)) (rk_hER ad) (ap := (5, 4)) (rk_hap cI c1 c2 c3 c4 c5) (rk_hNc base ad adV) rc_LvOk (mt := rk_mt [rk_q_X3_copyFrom]) (ctr := rk_look [(0, [(2, 3, 0), (2, 3, 0)], [((9, 0, 0), [])], 0, 1)]) (rk_look_ok _ (List.forall_mem_cons.mpr ⟨c_X3_copyFrom base l cI c1 c2 c3 c4 c5 D ad adV, fun _ h => absurd h List.not_mem_nil⟩)) (M := rk_q_X10_copyFrom) (P := (cX10_copyFrom, 3, rk_flf rk_ftX10, rk_mlf [(67, 0, 2, 4)], rk_csf [], rk_ssf [], rk_acf [70] [])) rfl rfl (fun s args h hN => rk_flX10 (fun w hw => List.mem_cons_of_mem _ hw) h hN)
    (fun s args h hN => rk_MlOk_of (List.forall_mem_cons.mpr ⟨rk_mck_ok (fun w hw => List.mem_cons_of_mem _ hw) h hN rk_cm_X3_copyFrom rk_lk_X10_67, fun _ h => absurd h List.not_mem_nil⟩) (by decide +kernel))
    (fun s args h i v hi => absurd hi (by simp [rk_csf])) (fun s hN i k hi => absurd hi (by simp [rk_ssf, rk_lk])) (fun s args h => rk_acf_ok (List.forall_mem_cons.mpr ⟨⟨h _ (List.mem_cons_of_mem _ (rk_tat_ok (i := 1126) (by decide +kernel))), h _ (List.mem_cons_of_mem _ (rk_tat_ok (i := 1100) (by decide +kernel))), h _ (List.mem_cons_of_mem _ (rk_tat_ok (i := 1099) (by decide +kernel))), h _ (List.mem_cons_of_mem _ (rk_tat_ok (i := 139) (by decide +kernel))), by decide +kernel, by decide +kernel⟩, fun _ h => absurd h List.not_mem_nil⟩) (fun _ h => absurd h List.not_mem_nil))
    (fun _ _ _ _ h => h) (rk := 0) ⟨fun _ => rfl, fun h => absurd h (by decide), fun h => absurd h (by decide), fun h => absurd h (by decide)⟩ (alts := [((9, 0, 0), [])]) hC hcm hX hXC hT trivial hh hq vs hlo hty (cs := []) (fuel := 3000) (by decide +kernel)
theorem rc_copyE (a b : Nat) : rm_Met base l rk_K (rk_E ad) (rk_tys cI c1 c2 c3 c4 c5) D (rk_NU base ad adV) rk_q_X1_copyFrom [.ref a, .ref b] (fun G _ _ f => (fun G _ => G a = some 1 ∧ G b = some 1) G f) (fun G X L f0 => fun v u => (fun G f v u => v = none ∧ rk_fld (u a) 4 = rk_fld (f b) 4 ∧ ∀ w, G w = some 1 → w ≠ a → rk_fld (u w) 4 = rk_fld (f w) 4) G f0 v u ∧ rm_TY cI c1 c2 c3 c4 c5 ad G (X + 0) L u ∧ rc_Lv G 5 f0 u) 0 := by
  refine rm_start (M := rk_q_X1_copyFrom) (rk_hNw base ad adV) (rk_hNc base ad adV) (by decide +kernel) (mt := rk_mt []) (ml := rk_mlf []) (fl := rk_flf rk_ftX1) (fun s args h hN => rk_MlOk_of (fun _ h => absurd h List.not_mem_nil) (by decide +kernel)) (fun s args h hN => rk_flX1 (fun w hw => List.mem_cons_of_mem _ hw) h hN) (rm_cat1 rfl) (Nat.le_of_ble_eq_true rfl) ?_
  intro p e st m below meth c G X L f0 A hC hh hX0 hXC hT hpre
  have hcs : 0 ≤ 0 ∧ 0 ≤ 0 := ⟨Nat.le_refl 0, Nat.le_refl 0⟩
  obtain ⟨hG, hGb⟩ := hpre
  rw [Int.add_zero] at hXC
  have hXC0 : X + 0 ≤ rk_top := by rw [Int.add_zero]; exact hXC
  refine m_copyE_0 base l cI c1 c2 c3 c4 c5 D ad adV hC hcs hX0 hXC0 hT hh (fun i => if i = 0 then .ref a else .ref b) (fun i ty hi _ => ?_) (fun i ty hi => ?_) (fun r1 f1 H1 locs1 p0 p1 hty hT1 hL1 hh1 => ?_)
  · rcases i with _ | _ | i
    · exact List.mem_of_getElem? (i := 0) rfl
    · exact List.mem_of_getElem? (i := 1) rfl
    · cases hi
  · rcases i with _ | _ | i
    · cases hi
      exact ⟨a, rfl, hG⟩
    · cases hi
      exact ⟨b, rfl, hGb⟩
    · cases hi
  · rw [Int.add_zero] at hT1
    have p0 : r1 0 = .ref a := p0
    have p1 : r1 1 = .ref b := p1
    rw [p0, p1]
    obtain ⟨hLb, fb, zb, b1, b2, bv, bz, bz1, bz2⟩ := rc_eho hT1 hGb
    obtain ⟨hLa, fa, za, a1, a2, av, az, -⟩ := rc_eho hT1 hG
    refine rv_run hC.1 hC.2.1 (T := rv_t_X1_copyFrom) rv_k_X1_copyFrom 2 ?_
    refine rm_get (idx := 48) hC hh1 (by decide +kernel) rfl hLb b1 bv ?_
    refine rm_putf (idx := 48) (i := 4) (w := 1) hC hh1 (by decide +kernel) rfl hLa a1 (by omega) (Or.inr ⟨rfl, rc_01 bz1 bz2⟩) (fun H2 locs2 hh2 => ?_)
    obtain ⟨hT2, hL2, hz2, hk2⟩ := rc_eset hT1 hG a1 a2 bz1 bz2
    refine m_copyE_70 base l cI c1 c2 c3 c4 c5 D ad adV hC hcs hX0 hXC0 hT2 hh2 (fun v u hA hT3 hL3 => ?_) (fun i => if i = 0 then .ref a else .ref b) (fun i ty hi _ => ?_) (fun i ty hi => ?_)
    · cases rk_alt_vn hA
      refine ⟨⟨rfl, ?_, fun w hw hwa => ?_⟩, hT3, rc_lv_tr (k := 5) (rc_lv_tr (k := 5) hL1 hL2 rfl rfl) hL3 rfl rfl⟩
      · rw [rc_ho hL3 rfl hG, hz2, ← bz]
        exact rc_ho hL1 rfl hGb
      · rw [rc_ho hL3 rfl hw, hk2 w hwa]
        exact rc_ho hL1 rfl hw
    · rcases i with _ | _ | i
      · exact List.mem_of_getElem? (i := 0) rfl
      · exact List.mem_of_getElem? (i := 1) rfl
      · cases hi
    · rcases i with _ | _ | i
      · cases hi
        exact ⟨a, rfl, hG⟩
      · cases hi
        exact ⟨b, rfl, hGb⟩
      · cases hi
theorem rc_copyH (a b : Nat) (eA eB : Nat → Nat) : rm_Met base l rk_K (rk_E ad) (rk_tys cI c1 c2 c3 c4 c5) D (rk_NU base ad adV) rk_q_X10_copyFrom [.ref a, .ref b] (fun G _ _ f => (fun G f => G a = some 10 ∧ G b = some 10 ∧ (∀ e, e < 8 → rc_E f a e (eA e)) ∧ (∀ e, e < 8 → rc_E f b e (eB e)) ∧ (∀ e e9, e < 8 → e9 < 8 → eA e = eA e9 → e = e9) ∧ ∀ e e9, e < 8 → e9 < 8 → eA e ≠ eB e9) G f) (fun G X L f0 => fun v u => (fun G f v u => v = none ∧ (∀ e, e < 8 → rk_fld (u (eA e)) 4 = rk_fld (f (eB e)) 4) ∧ ∀ x, G x = some 1 → (∀ e, e < 8 → x ≠ eA e) → rk_fld (u x) 4 = rk_fld (f x) 4) G f0 v u ∧ rm_TY cI c1 c2 c3 c4 c5 ad G (X + 0) L u ∧ rc_Lv G 13 f0 u) 0 := by
  refine rm_start (M := rk_q_X10_copyFrom) (rk_hNw base ad adV) (rk_hNc base ad adV) (by decide +kernel) (mt := rk_mt [rk_q_X1_copyFrom]) (ml := rk_mlf [(64, 0, 2, 2)]) (fl := rk_flf rk_ftX10) (fun s args h hN => rk_MlOk_of (List.forall_mem_cons.mpr ⟨rk_mck_ok (fun w hw => List.mem_cons_of_mem _ hw) h hN rk_cm_X1_copyFrom rk_lk_X10_64, fun _ h => absurd h List.not_mem_nil⟩) (by decide +kernel)) (fun s args h hN => rk_flX10 (fun w hw => List.mem_cons_of_mem _ hw) h hN) (rm_cat1 rfl) (Nat.le_of_ble_eq_true rfl) ?_
  intro p e st m below meth c G X L f0 A hC hh hX0 hXC hT hpre
  have hcs : 0 ≤ 0 ∧ 0 ≤ 0 := ⟨Nat.le_refl 0, Nat.le_refl 0⟩
  obtain ⟨hG, hGb, hEa, hEb, hin, hdj⟩ := hpre
  rw [Int.add_zero] at hXC
  have hXC0 : X + 0 ≤ rk_top := by rw [Int.add_zero]; exact hXC
  have g1 : ∀ e, e < 8 → G (eA e) = some 1 := fun e he => rc_E_1 hT hG he (hEa e he)
  have g2 : ∀ e, e < 8 → G (eB e) = some 1 := fun e he => rc_E_1 hT hGb he (hEb e he)
  have hT0 := hT
  have loop : ∀ (d : Nat) (k : Int32) (kn : Nat) (f : Nat → va_E) (H : Heap) (locs : List Loc), rm_h D A st L f H locs → rm_TY cI c1 c2 c3 c4 c5 ad G X L f → rc_Lv G 13 f0 f → (∀ e, e < kn → rk_fld (f (eA e)) 4 = rk_fld (f0 (eB e)) 4) → (∀ x, G x = some 1 → (∀ e, e < kn → x ≠ eA e) → rk_fld (f x) 4 = rk_fld (f0 x) 4) → k.toInt = (kn : Int) → kn + d = 8 → rv_G p l e { frames := rk_q_X10_copyFrom.2.2.2.2.1, cells := 0, slots := 0, locals := rk_q_X10_copyFrom.2.2.2.2.2 } st m ([.ref a, .ref b] : List Value).toArray below meth c (MQ below (rk_Q (fun v u => (fun G f v u => v = none ∧ (∀ e, e < 8 → rk_fld (u (eA e)) 4 = rk_fld (f (eB e)) 4) ∧ ∀ x, G x = some 1 → (∀ e, e < 8 → x ≠ eA e) → rk_fld (u x) 4 = rk_fld (f x) 4) G f0 v u ∧ rm_TY cI c1 c2 c3 c4 c5 ad G (X + 0) L u ∧ rc_Lv G 13 f0 u) (rk_B D (rk_tys cI c1 c2 c3 c4 c5) L A) A) ([.ref a, .ref b] : List Value).toArray st 0 0 A) rk_q_X10_copyFrom.2.2.1 0 0 H locs 88 [] [(0, .ref a), (1, .ref b), (2, .int k)] := by
    intro d
    induction d with
    | zero =>
      intro k kn f H locs hh hT hLt q1 q2 hk hd
      refine rv_run hC.1 hC.2.1 (T := rv_t_X10_copyFrom) rv_k_X10_copyFrom 3 ?_
      refine ⟨fun _ => ?_, fun h => absurd h (by show ¬ k.toInt < 8; omega)⟩
      refine m_copyH_115 base l cI c1 c2 c3 c4 c5 D ad adV hC hcs hX0 hXC0 hT hh (fun v u hA hT3 hL3 => ?_) (fun i => if i = 0 then .ref a else .ref b) (fun i ty hi _ => ?_) (fun i ty hi => ?_)
      · cases rk_alt_vn hA
        refine ⟨⟨rfl, fun e he => ?_, fun x hx hxe => ?_⟩, hT3, rc_lv_tr (k := 13) hLt hL3 rfl rfl⟩
        · rw [rc_ho hL3 rfl (g1 e he)]
          exact q1 e (by omega)
        · rw [rc_ho hL3 rfl hx]
          exact q2 x hx (fun e he => hxe e (by omega))
      · rcases i with _ | _ | i
        · exact List.mem_of_getElem? (i := 0) rfl
        · exact List.mem_of_getElem? (i := 1) rfl
        · cases hi
      · rcases i with _ | _ | i
        · cases hi
          exact ⟨a, rfl, hG⟩
        · cases hi
          exact ⟨b, rfl, hGb⟩
        · cases hi
    | succ d ih =>
      intro k kn f H locs hh hT hLt q1 q2 hk hd
      have h8 : kn < 8 := by omega
      obtain ⟨hLa, fa, aS, cA, C, g, a1, a2, a3, a4, a5, a6, a7, a8⟩ := rc_row hT hG
      obtain ⟨hLb, fb, bS, cB, C9, g9, b1, b2, b3, b4, b5, b6, b7, b8⟩ := rc_row hT hGb
      have ga : va_rf (g kn) = .ref (eA kn) := by rw [rc_E_g (rc_E_k hT0 hLt rfl hG (hEa kn h8)) a1 a3 a6]; rfl
      have gb : va_rf (g9 kn) = .ref (eB kn) := by rw [rc_E_g (rc_E_k hT0 hLt rfl hGb (hEb kn h8)) b1 b3 b6]; rfl
      refine rv_run hC.1 hC.2.1 (T := rv_t_X10_copyFrom) rv_k_X10_copyFrom 3 ?_
      refine ⟨fun h => absurd h (by show ¬ 8 ≤ k.toInt; omega), fun _ => ?_⟩
      refine rv_run hC.1 hC.2.1 (T := rv_t_X10_copyFrom) rv_k_X10_copyFrom 1 ?_
      refine rm_get (idx := 31) hC hh (by decide +kernel) rfl hLa a1 a3 ?_
      refine rv_run hC.1 hC.2.1 (T := rv_t_X10_copyFrom) rv_k_X10_copyFrom 1 ?_
      refine rc_aald hC hh (by decide +kernel) a5 a6 a7 (by omega) (by omega) ?_
      rw [rm_clamp hk, ga]
      refine rv_run hC.1 hC.2.1 (T := rv_t_X10_copyFrom) rv_k_X10_copyFrom 1 ?_
      refine rm_get (idx := 31) hC hh (by decide +kernel) rfl hLb b1 b3 ?_
      refine rv_run hC.1 hC.2.1 (T := rv_t_X10_copyFrom) rv_k_X10_copyFrom 1 ?_
      refine rc_aald hC hh (by decide +kernel) b5 b6 b7 (by omega) (by omega) ?_
      rw [rm_clamp hk, gb]
      obtain ⟨hLe, fe, ee, -, -⟩ := rc_me hT (g1 kn h8) rfl
      refine rm_callV (idx := 64) (z := 0) (n := 2) (ci := 1) (as := [.ref (eB kn)]) (rest := []) hC hh (by decide +kernel) rfl hLe ee (rc_copyE base l cI c1 c2 c3 c4 c5 D ad adV (eA kn) (eB kn)) hX0 hXC0 hT ⟨g1 kn h8, g2 kn h8⟩ rfl rfl (Nat.le_of_ble_eq_true rfl) hcs (fun v u H1 locs1 hP hh1 => ?_)
      obtain ⟨⟨rfl, hu, hk1⟩, hT1, hL1⟩ := hP
      rw [Int.add_zero] at hT1
      have e4 := rm_ad (x := k) hk rm_e1 (by omega) (by decide)
      refine rv_run hC.1 hC.2.1 (T := rv_t_X10_copyFrom) rv_k_X10_copyFrom 2 ?_
      refine ih _ (kn + 1) u H1 locs1 hh1 hT1 (rc_lv_tr (k := 13) hLt hL1 rfl rfl) (fun e he => ?_) (fun x hx hxe => ?_) (by rw [e4]; omega) (by omega)
      · by_cases hek : e = kn
        · subst hek
          rw [hu]
          exact q2 (eB e) (g2 e h8) (fun e9 he9 h9 => hdj e9 e (by omega) h8 h9.symm)
        · rw [hk1 _ (g1 e (by omega)) (fun h9 => hek (hin e kn (by omega) h8 h9))]
          exact q1 e (by omega)
      · rw [hk1 x hx (hxe kn (by omega))]
        exact q2 x hx (fun e he => hxe e (by omega))
  refine m_copyH_0 base l cI c1 c2 c3 c4 c5 D ad adV hC hcs hX0 hXC0 hT hh (fun i => if i = 0 then .ref a else .ref b) (fun i ty hi _ => ?_) (fun i ty hi => ?_) (fun r1 f1 H1 locs1 p0 p1 hty hT1 hL1 hh1 => ?_)
  · rcases i with _ | _ | i
    · exact List.mem_of_getElem? (i := 0) rfl
    · exact List.mem_of_getElem? (i := 1) rfl
    · cases hi
  · rcases i with _ | _ | i
    · cases hi
      exact ⟨a, rfl, hG⟩
    · cases hi
      exact ⟨b, rfl, hGb⟩
    · cases hi
  · rw [Int.add_zero] at hT1
    have p0 : r1 0 = .ref a := p0
    have p1 : r1 1 = .ref b := p1
    rw [p0, p1]
    refine rv_run hC.1 hC.2.1 (T := rv_t_X10_copyFrom) rv_k_X10_copyFrom 2 ?_
    exact loop 8 _ 0 f1 H1 locs1 hh1 hT1 (rc_lv_tr (k := 13) (rc_lv_rf 13) hL1 rfl rfl) (fun e he => absurd he (Nat.not_lt_zero _)) (fun x hx _ => rc_ho hL1 rfl hx) rfl rfl
theorem rc_hold (a0 wN : Nat) (eN : Nat → Nat) (x y : Int32) : rm_Met base l rk_K (rk_E ad) (rk_tys cI c1 c2 c3 c4 c5) D (rk_NU base ad adV) rk_q_X11_hold [.ref a0, .int x, .int y] (fun G _ _ f => (fun G f => G a0 = some 11 ∧ rk_fld (f a0) 0 = some (.ref wN) ∧ (∀ e, e < 8 → rc_E f wN e (eN e)) ∧ 0 ≤ y.toInt ∧ y.toInt ≤ 1) G f) (fun G X L f0 => fun v u => (fun G f v u => ∃ r : Int32, v = some (.int r) ∧ ((r.toInt = 0 ∧ u = f ∧ (¬ (0 ≤ x.toInt ∧ x.toInt ≤ 7) ∨ rk_fld (f (eN x.toInt.toNat)) 4 = some (.int y))) ∨ (r.toInt = 1 ∧ (0 ≤ x.toInt ∧ x.toInt ≤ 7) ∧ rk_fld (f (eN x.toInt.toNat)) 4 ≠ some (.int y) ∧ rk_fld (u (eN x.toInt.toNat)) 4 = some (.int y) ∧ ∀ w, G w = some 1 → w ≠ eN x.toInt.toNat → rk_fld (u w) 4 = rk_fld (f w) 4))) G f0 v u ∧ rm_TY cI c1 c2 c3 c4 c5 ad G (X + 0) L u ∧ rc_Lv G 5 f0 u) 0 := by
  refine rm_start (M := rk_q_X11_hold) (rk_hNw base ad adV) (rk_hNc base ad adV) (by decide +kernel) (mt := rk_mt [rk_q_X11_isEnd]) (ml := rk_mlf [(78, 0, 1, 0)]) (fl := rk_flf rk_ftX11) (fun s args h hN => rk_MlOk_of (List.forall_mem_cons.mpr ⟨rk_mck_ok (fun w hw => List.mem_cons_of_mem _ hw) h hN rk_cm_X11_isEnd rk_lk_X11_78, fun _ h => absurd h List.not_mem_nil⟩) (by decide +kernel)) (fun s args h hN => rk_flX11 (fun w hw => List.mem_cons_of_mem _ hw) h hN) (rm_cat1 rfl) (Nat.le_of_ble_eq_true rfl) ?_
  intro p e st m below meth c G X L f0 A hC hh hX0 hXC hT hpre
  have hcs : 0 ≤ 0 ∧ 0 ≤ 0 := ⟨Nat.le_refl 0, Nat.le_refl 0⟩
  obtain ⟨hG, h0, hE, hy⟩ := hpre
  rw [Int.add_zero] at hXC
  have no : ∀ (H : Heap) (locs : List Loc), rm_h D A st L f0 H locs → (¬ (0 ≤ x.toInt ∧ x.toInt ≤ 7) ∨ rk_fld (f0 (eN x.toInt.toNat)) 4 = some (.int y)) → rv_G p l e { frames := rk_q_X11_hold.2.2.2.2.1, cells := 0, slots := 0, locals := rk_q_X11_hold.2.2.2.2.2 } st m ([.ref a0, .int x, .int y] : List Value).toArray below meth c (MQ below (rk_Q (fun v u => (fun G f v u => ∃ r : Int32, v = some (.int r) ∧ ((r.toInt = 0 ∧ u = f ∧ (¬ (0 ≤ x.toInt ∧ x.toInt ≤ 7) ∨ rk_fld (f (eN x.toInt.toNat)) 4 = some (.int y))) ∨ (r.toInt = 1 ∧ (0 ≤ x.toInt ∧ x.toInt ≤ 7) ∧ rk_fld (f (eN x.toInt.toNat)) 4 ≠ some (.int y) ∧ rk_fld (u (eN x.toInt.toNat)) 4 = some (.int y) ∧ ∀ w, G w = some 1 → w ≠ eN x.toInt.toNat → rk_fld (u w) 4 = rk_fld (f w) 4))) G f0 v u ∧ rm_TY cI c1 c2 c3 c4 c5 ad G (X + 0) L u ∧ rc_Lv G 5 f0 u) (rk_B D (rk_tys cI c1 c2 c3 c4 c5) L A) A) ([.ref a0, .int x, .int y] : List Value).toArray st 0 0 A) rk_q_X11_hold.2.2.1 0 0 H locs 23 [] [(0, .ref a0), (1, .int x), (2, .int y)] := by
    intro H locs hh h
    refine rv_run hC.1 hC.2.1 (T := rv_t_X11_hold) rv_k_X11_hold 1 ?_
    exact rm_zret hC hh (by decide +kernel) rfl (Or.inl rfl) ⟨⟨_, rfl, Or.inl ⟨rfl, rfl, h⟩⟩, by rw [Int.add_zero]; exact hT, rc_lv_rf 5⟩
  refine rv_run hC.1 hC.2.1 (T := rv_t_X11_hold) rv_k_X11_hold 1 ?_
  refine rc_callS (idx := 78) (z := 0) (n := 1) (as := [.int x]) (rest := []) hC hh (by decide +kernel) rfl (rm_of (c_X11_isEndE base l cI c1 c2 c3 c4 c5 D ad adV) [.int x]) hX0 (by rw [Int.add_zero]; exact hXC) hT ⟨rk_all_c rk_aF rk_all_0, trivial⟩ rfl rfl (Nat.le_of_ble_eq_true rfl) hcs (fun v u H1 locs1 hP hh1 => ?_)
  obtain ⟨hA, -, hL1⟩ := hP
  have hu : u = f0 := (hL1 0 (by decide) rfl : rc_Rb 0 G f0 u)
  rw [hu] at hh1
  clear hL1 hu u
  obtain ⟨w, rfl, hw⟩ := ex_alt0 rfl hA
  clear hA
  refine rv_run hC.1 hC.2.1 (T := rv_t_X11_hold) rv_k_X11_hold 1 ?_
  refine ⟨fun h => ?_, fun h => ?_⟩
  · have h : w.toInt = 0 := h
    exact no H1 locs1 hh1 (Or.inl (by omega))
  have h : ¬ w.toInt = 0 := h
  have hr : 0 ≤ x.toInt ∧ x.toInt ≤ 7 := by omega
  obtain ⟨hL0, fs, e1, e2, e3⟩ := rc_me hT hG rfl
  have hv0 : fs[0]? = some (.ref wN) := by
    rw [e1] at h0
    exact h0
  obtain ⟨wN9, eW, hW⟩ := (e3 0 (2, 10, 0) _ rfl hv0 : rk_has G X (2, 10, 0) _)
  cases eW
  obtain ⟨hLW, fw, aS, cA, C, g, w1, w2, w3, w4, w5, w6, w7, w8⟩ := rc_row hT hW
  have hxn : x.toInt = ((x.toInt.toNat : Nat) : Int) := by omega
  have gx : va_rf (g x.toInt.toNat) = .ref (eN x.toInt.toNat) := by rw [rc_E_g (hE _ (by omega)) w1 w3 w6]; rfl
  have hGe : G (eN x.toInt.toNat) = some 1 := rc_E_1 hT hW (by omega) (hE _ (by omega))
  obtain ⟨hLe, fe, z, k1, k2, k3, k4, k5, k6⟩ := rc_eho hT hGe
  refine rv_run hC.1 hC.2.1 (T := rv_t_X11_hold) rv_k_X11_hold 1 ?_
  refine rm_get (idx := 12) hC hh1 (by decide +kernel) rfl hL0 e1 hv0 ?_
  refine rm_get (idx := 81) hC hh1 (by decide +kernel) rfl hLW w1 w3 ?_
  refine rv_run hC.1 hC.2.1 (T := rv_t_X11_hold) rv_k_X11_hold 1 ?_
  refine rc_aald hC hh1 (by decide +kernel) w5 w6 w7 (by omega) (by omega) ?_
  rw [rm_clamp hxn, gx]
  refine rm_get (idx := 85) hC hh1 (by decide +kernel) rfl hLe k1 k3 ?_
  refine rv_run hC.1 hC.2.1 (T := rv_t_X11_hold) rv_k_X11_hold 2 ?_
  refine ⟨fun h9 => ?_, fun h9 => ?_⟩
  · have h9 : ¬ z.toInt = y.toInt := h9
    refine rv_run hC.1 hC.2.1 (T := rv_t_X11_hold) rv_k_X11_hold 1 ?_
    refine rm_get (idx := 12) hC hh1 (by decide +kernel) rfl hL0 e1 hv0 ?_
    refine rm_get (idx := 81) hC hh1 (by decide +kernel) rfl hLW w1 w3 ?_
    refine rv_run hC.1 hC.2.1 (T := rv_t_X11_hold) rv_k_X11_hold 1 ?_
    refine rc_aald hC hh1 (by decide +kernel) w5 w6 w7 (by omega) (by omega) ?_
    rw [rm_clamp hxn, gx]
    refine rv_run hC.1 hC.2.1 (T := rv_t_X11_hold) rv_k_X11_hold 1 ?_
    refine rm_putf (idx := 85) (i := 4) (w := 1) hC hh1 (by decide +kernel) rfl hLe k1 (by omega) (Or.inr ⟨rfl, rc_01 hy.1 hy.2⟩) (fun H2 locs2 hh2 => ?_)
    obtain ⟨hT2, hL2, hz2, hk2⟩ := rc_eset hT hGe k1 k2 hy.1 hy.2
    refine rv_run hC.1 hC.2.1 (T := rv_t_X11_hold) rv_k_X11_hold 1 ?_
    exact rm_zret hC hh2 (by decide +kernel) rfl (Or.inr rfl) ⟨⟨_, rfl, Or.inr ⟨rfl, hr, fun h8 => h9 (by rw [k4] at h8; cases h8; rfl), hz2, fun w hw hwa => by rw [hk2 w hwa]⟩⟩, by rw [Int.add_zero]; exact hT2, hL2⟩
  · have h9 : z.toInt = y.toInt := by
      first | exact h9 | exact Classical.not_not.mp h9
    exact no H1 locs1 hh1 (Or.inr (by rw [k4, Int32.toInt_inj.mp h9]))
end RMX
