/-! the class: rules for walks by hand -/
section RCW
variable {base : Nat} {K : Nat → rk_KD} {E : Nat → Nat → rk_AV} {tys : List (ClassId × FieldType)} {D : va_G} {NU : State → Prop} {M : rk_Mt} {mt : Nat → rk_Mt} {ml : rk_Ml} {fl : rk_Fl}
variable {p : Program} {l : Launch} {e : Env} {R : Room} {s : State} {m : MethodId} {args : Array Value} {below : List Frame} {meth : Method} {c : Code} {Q : State → Prop} {cells slots : Nat} {A : Nat → Prop} {G : Nat → Option Nat} {L : List Nat} {X : Int} {f : Nat → va_E} {H : Heap} {locs : List Loc}
theorem rc_callS (hC : rm_Cx base tys D NU M mt ml fl p R s m args meth c A L) (hh : rm_h D A s L f H locs) {pc idx z n : Nat} (hdg : decode M.2.1 pc = .ok (.invokestatic idx, 3)) (hidx : ml idx = some (z, n, 0)) {as : List Value} {Pre : rm_Pr} {Po : rm_Po} {C : Int} (hM : rm_Met base l K E tys D NU (mt z) as Pre Po C) (hX : 0 ≤ X) (hXC : X + C ≤ rk_top) (hT : rk_TY K E tys G X L f) (hpre : Pre G X L f) (hn : as.length = n) {sk rest : List Value} (hsk : sk = as.reverse ++ rest) (hcat : rm_cat rest) (hcs : cells ≤ R.cells ∧ slots ≤ R.slots) {lo : List (Nat × Value)}
    (kk : ∀ (v : Option Value) (u : Nat → va_E) (H1 : Heap) (locs1 : List Loc), Po G X L f v u → rm_h D A s L u H1 locs1 → rv_G p l e R s m args below meth c Q M.2.2.1 cells slots H1 locs1 (pc + 3) (v.toList ++ rest) lo) : rv_G p l e R s m args below meth c Q M.2.2.1 cells slots H locs pc sk lo := by
  intro ls hl
  obtain ⟨hx, hb, hml9, -, -, hown, hts, hK, hNs, hNw, hNc, hml, -, hBL, hB0, hA⟩ := hC
  obtain ⟨hP, hD, hS⟩ := hh
  have hM := hM G X L f H.size hX hXC hT hpre hBL (Nat.le_trans hB0 hS.1)
  obtain ⟨k1, k2, k3, k4, k5, k6, k7⟩ := hml idx z n 0 hidx
  obtain ⟨i1, hpar⟩ := k6 rfl
  have hF : ∀ q, va_A (va_pl L f) H.size q → A q := by
    intro q hq
    rcases hq with ⟨k, e9, hke⟩ | hq
    · exact hD.2 k (q, e9) hke
    · exact hA q (Nat.le_trans hS.1 hq)
  have htb : ∀ w ∈ rk_tbl, w ∈ rk_ws M := fun w hw => List.mem_cons_of_mem _ hw
  have hG := rk_good (M := mt z) htb k1
  have hbl : FrameBlind (va_Pc as (rk_Pre D tys NU L f H.size)) := fun a U g mk q => by
    obtain ⟨q0, q1, q2, q3, q4, q5⟩ := q
    exact ⟨q0, q1, q2, va_K.moved (u := U) (U := U.calling g mk a) (Vm.Alike.refl U.vm) q3, q4, hNc U _ rfl rfl q5⟩
  have hpre9 : ∀ U : State, U.heap = H → s.WarmedH U.vm → rk_Pre D tys NU L f H.size U := fun U hU hW => ⟨by rw [hU], by rw [hU]; exact hP, va_K.moved hW.alike hK, hD.weaken (fun _ _ _ _ => trivial), hNw U locs (by rw [hU]; exact hS) hW⟩
  have hPs : PreS s H (va_Pc as (rk_Pre D tys NU L f H.size)) as := ⟨hbl, fun U hU hW => ⟨rfl, hpre9 U hU hW⟩⟩
  have hsz : ls.size = M.2.2.1 := hl.1
  have hcs0 : cells + 0 ≤ R.cells ∧ slots + 0 ≤ R.slots := hcs
  have fin : ∀ (v : Option Value) (u : Nat → va_E) (t : State) (H1 : Heap) (locs1 : List Loc), t.heap = H1 → s.vm.Alike t.vm → Po G X L f v u → rk_B D tys L (va_A (va_pl L f) H.size) u t → va_S A s.heap H1 locs1 → W p l e R s m args below meth c H1 locs1 cells slots Q (F0 m (pc + 3) ls (v.toList ++ rest)) := by
    intro v u t H1 locs1 ht hvm hp hB hS1
    obtain ⟨hP1, hK1, hD1⟩ := hB
    rw [ht] at hP1
    exact kk v u H1 locs1 hp ⟨hP1, hD1.weaken (fun k q _ h9 => hF q.1 h9), hS1⟩ ls hl
  rcases k4 with hl4 | ⟨host, hl4⟩
  · exact rm_callW (va_runS (As := as) (rest := rest) ⟨hx, hb, hml9, hown, hts⟩ hM ⟨callB_of n hts hG rfl rfl rfl k2 hl4 ⟨k3.1, k3.2, hpar⟩ k5, i1⟩ hPs rfl hn hsz hsk (lv_room hcat) hdg hcs0) hS (fun q _ h9 => hF q h9) hF fin
  · exact rm_callW (va_runSN (As := as) (rest := rest) ⟨hx, hb, hml9, hown, hts⟩ hM ⟨va_cnB n hts hG rfl rfl rfl hl4 k2 ⟨k3.1, k3.2, hpar⟩ k5, i1, trivial⟩ hPs rfl hn hsz hsk (lv_room hcat) hdg hcs0) hS (fun q _ h9 => hF q h9) hF fin
end RCW
section RCM
variable {base : Nat} {l : Launch} {cI c1 c2 c3 c4 c5 : ClassId} {D : va_G} {ad adV : Nat → Nat} {G : Nat → Option Nat} {L : List Nat} {X : Int} {f : Nat → va_E}
/-- a thing of the class, by its kind -/
theorem rc_me (hT : rm_TY cI c1 c2 c3 c4 c5 ad G X L f) {a k ci n : Nat} {ts : List rk_AV} (hG : G a = some k) (hK : rk_K k = (0, ci, n, ts)) : a ∈ L ∧ ∃ fs : List Value, f a = .inr (ci, fs) ∧ fs.length = ts.length ∧ ∀ (i : Nat) (t : rk_AV) (v : Value), ts[i]? = some t → fs[i]? = some v → rk_has G X t v := by
  obtain ⟨h1, h2⟩ := hT.1 a k hG (by rw [hK]; intro h9; cases h9)
  refine ⟨h1, ?_⟩
  unfold rk_cell at h2
  rw [hK] at h2
  exact h2
theorem rc_lv_rf (n : Nat) : rc_Lv G n f f := (rc_LvOk G).1 n f
theorem rc_lv_tr {n m k : Nat} {u w : Nat → va_E} (h1 : rc_Lv G n f u) (h2 : rc_Lv G m u w) (hn : rk_lle n k = true) (hm : rk_lle m k = true) : rc_Lv G k f w := (rc_LvOk G).2.2.1 k m f u w hm h2 ((rc_LvOk G).2.2.1 k n f f u hn h1 (rc_lv_rf k))
end RCM
def rv_t_X9_takesWord : rv_T := (.branch 0 (.branch 0 (.branch 0 (.branch 0 (.branch 0 (.branch 0 (.branch 0 (.leaf (0, .aload_n 0, 1)) (.leaf (64, .iadd, 1))) (.leaf (32, .ifCond .eq (9), 3))) (.leaf (16, .if_icmp .ge (25), 3))) (.leaf (24, .iload_n 2, 1))) (.branch 0 (.branch 0 (.branch 0 (.branch 0 (.leaf (4, .iconst 0, 1)) (.leaf (68, .aload_n 1, 1))) (.leaf (99999, .nop, 1))) (.branch 0 (.branch 0 (.leaf (20, .aload_n 0, 1)) (.leaf (84, .aload_n 0, 1))) (.leaf (52, .istore_n 3, 1)))) (.branch 0 (.branch 0 (.branch 0 (.leaf (12, .aload_n 0, 1)) (.leaf (76, .iconst 0, 1))) (.leaf (99999, .nop, 1))) (.leaf (60, .getfield 31, 3))))) (.branch 0 (.branch 0 (.leaf (50, .ireturn, 1)) (.branch 0 (.branch 0 (.leaf (10, .iload_n 2, 1)) (.leaf (42, .aload_n 1, 1))) (.branch 0 (.branch 0 (.leaf (26, .invokevirtual 108, 3)) (.leaf (90, .iadd, 1))) (.leaf (58, .aload_n 0, 1))))) (.branch 0 (.branch 0 (.branch 0 (.branch 0 (.leaf (6, .aload_n 0, 1)) (.leaf (70, .invokevirtual 127, 3))) (.leaf (38, .goto (-32), 3))) (.branch 0 (.leaf (86, .getfield 31, 3)) (.leaf (54, .iload_n 2, 1)))) (.branch 0 (.branch 0 (.leaf (78, .iinc 3 (1), 3)) (.leaf (46, .if_icmp .eq (5), 3))) (.leaf (94, .iconst 1, 1)))))) (.branch 0 (.branch 0 (.branch 0 (.branch 0 (.branch 0 (.branch 0 (.leaf (1, .invokevirtual 40, 3)) (.leaf (65, .invokevirtual 108, 3))) (.leaf (99999, .nop, 1))) (.branch 0 (.leaf (81, .goto (-28), 3)) (.leaf (49, .iconst 0, 1)))) (.branch 0 (.branch 0 (.leaf (73, .if_icmp .eq (5), 3)) (.leaf (41, .iload_n 2, 1))) (.branch 0 (.branch 0 (.leaf (25, .iadd, 1)) (.leaf (89, .iload_n 2, 1))) (.leaf (99999, .nop, 1))))) (.branch 0 (.branch 0 (.branch 0 (.branch 0 (.leaf (5, .istore_n 2, 1)) (.leaf (69, .iload_n 3, 1))) (.leaf (99999, .nop, 1))) (.branch 0 (.branch 0 (.leaf (21, .getfield 31, 3)) (.leaf (85, .dup, 1))) (.leaf (53, .iload_n 3, 1)))) (.branch 0 (.branch 0 (.branch 0 (.leaf (13, .getfield 25, 3)) (.leaf (77, .ireturn, 1))) (.leaf (99999, .nop, 1))) (.leaf (29, .invokestatic 120, 3))))) (.branch 0 (.branch 0 (.branch 0 (.leaf (35, .iinc 2 (1), 3)) (.branch 0 (.leaf (19, .aload_n 0, 1)) (.leaf (51, .iconst 0, 1)))) (.branch 0 (.branch 0 (.leaf (11, .iadd, 1)) (.leaf (43, .invokevirtual 123, 3))) (.branch 0 (.leaf (91, .putfield 31, 3)) (.leaf (59, .aload_n 0, 1))))) (.branch 0 (.branch 0 (.leaf (7, .getfield 31, 3)) (.leaf (55, .if_icmp .ge (29), 3))) (.branch 0 (.leaf (99999, .nop, 1)) (.branch 0 (.leaf (95, .ireturn, 1)) (.leaf (63, .iload_n 3, 1))))))))
theorem rv_k_X9_takesWord : rv_tok cX9_takesWord rv_t_X9_takesWord = true := by decide +kernel
section RMX
variable (base : Nat) (l : Launch) (cI c1 c2 c3 c4 c5 : ClassId) (D : va_G) (ad adV : Nat → Nat)
theorem rc_takesWord (a0 i : Nat) (hi : i < 5) : rm_Met base l rk_K (rk_E ad) (rk_tys cI c1 c2 c3 c4 c5) D (rk_NU base ad adV) rk_q_X9_takesWord [.ref a0, .ref (ad i)] (fun G _ _ _ => G a0 = some 9) (fun G X L f0 => fun v u => (∃ y : Int32, v = some (.int y) ∧ 0 ≤ y.toInt ∧ y.toInt ≤ 1) ∧ rm_TY cI c1 c2 c3 c4 c5 ad G X L u ∧ rc_Lv G 1 f0 u) 0 := by
  refine rm_start (M := rk_q_X9_takesWord) (rk_hNw base ad adV) (rk_hNc base ad adV) (by decide +kernel) (mt := rk_mt [rk_q_X9_skipBlanks, rk_q_X9_at, rk_q_X9_isLetter]) (ml := rk_mlf [(40, 0, 1, 9), (108, 1, 2, 9), (120, 2, 1, 0)]) (fl := rk_flf rk_ftX9) (fun s args h hN => rk_MlOk_of (List.forall_mem_cons.mpr ⟨rk_mck_ok (fun w hw => List.mem_cons_of_mem _ hw) h hN rk_cm_X9_skipBlanks rk_lk_X9_40, List.forall_mem_cons.mpr ⟨rk_mck_ok (fun w hw => List.mem_cons_of_mem _ hw) h hN rk_cm_X9_at rk_lk_X9_108, List.forall_mem_cons.mpr ⟨rk_mck_ok (fun w hw => List.mem_cons_of_mem _ hw) h hN rk_cm_X9_isLetter rk_lk_X9_120, fun _ h => absurd h List.not_mem_nil⟩⟩⟩) (by decide +kernel)) (fun s args h hN => rk_flX9 (fun w hw => List.mem_cons_of_mem _ hw) h hN) (rm_cat1 rfl) (Nat.le_of_ble_eq_true rfl) ?_
  intro p e st m below meth c G X L f0 A hC hh hX0 hXC hT hpre
  have hcs : 0 ≤ 0 ∧ 0 ≤ 0 := ⟨Nat.le_refl 0, Nat.le_refl 0⟩
  have hG : G a0 = some 9 := hpre
  rw [Int.add_zero] at hXC
  obtain ⟨-, l2, l3, l4⟩ := rj_lens i hi
  have callA : ∀ (x : Int32) (f : Nat → va_E) (H : Heap) (locs : List Loc) (pc : Nat) (rest : List Value) (lo : List (Nat × Value)), decode rk_q_X9_takesWord.2.1 pc = .ok (.invokevirtual 108, 3) → rm_cat rest → rm_h D A st L f H locs → rm_TY cI c1 c2 c3 c4 c5 ad G X L f → (∀ (y : Int32) (H : Heap) (locs : List Loc), rm_h D A st L f H locs → rv_G p l e { frames := rk_q_X9_takesWord.2.2.2.2.1, cells := 0, slots := 0, locals := rk_q_X9_takesWord.2.2.2.2.2 } st m ([.ref a0, .ref (ad i)] : List Value).toArray below meth c (MQ below (rk_Q (fun v u => (∃ y : Int32, v = some (.int y) ∧ 0 ≤ y.toInt ∧ y.toInt ≤ 1) ∧ rm_TY cI c1 c2 c3 c4 c5 ad G X L u ∧ rc_Lv G 1 f0 u) (rk_B D (rk_tys cI c1 c2 c3 c4 c5) L A) A) ([.ref a0, .ref (ad i)] : List Value).toArray st 0 0 A) rk_q_X9_takesWord.2.2.1 0 0 H locs (pc + 3) (.int y :: rest) lo) → rv_G p l e { frames := rk_q_X9_takesWord.2.2.2.2.1, cells := 0, slots := 0, locals := rk_q_X9_takesWord.2.2.2.2.2 } st m ([.ref a0, .ref (ad i)] : List Value).toArray below meth c (MQ below (rk_Q (fun v u => (∃ y : Int32, v = some (.int y) ∧ 0 ≤ y.toInt ∧ y.toInt ≤ 1) ∧ rm_TY cI c1 c2 c3 c4 c5 ad G X L u ∧ rc_Lv G 1 f0 u) (rk_B D (rk_tys cI c1 c2 c3 c4 c5) L A) A) ([.ref a0, .ref (ad i)] : List Value).toArray st 0 0 A) rk_q_X9_takesWord.2.2.1 0 0 H locs pc (.int x :: .ref a0 :: rest) lo := by
    intro x f H locs pc rest lo hd hr hh hT kk
    obtain ⟨hL0, fs, e1, e2, e3⟩ := rc_me hT hG rfl
    have e2 : fs.length = 7 := e2
    refine rm_callV (idx := 108) (z := 1) (n := 2) (ci := 8) (as := [.int x]) (rest := rest) hC hh hd rfl hL0 e1 (rm_of (c_X9_at base l cI c1 c2 c3 c4 c5 D ad adV) [.ref a0, .int x]) hX0 (by rw [Int.add_zero]; exact hXC) hT ⟨rk_all_c ⟨a0, rfl, hG⟩ (rk_all_c rk_aF rk_all_0), trivial⟩ rfl rfl hr hcs (fun v u H1 locs1 hP hh1 => ?_)
    obtain ⟨hA, hT1, hL1⟩ := hP
    have hu : u = f := (hL1 0 (by decide) rfl : rc_Rb 0 G f u)
    subst hu
    obtain ⟨y, rfl⟩ : ∃ y : Int32, v = some (.int y) := by
      obtain ⟨a, ha, h1, -⟩ := hA
      rcases List.mem_cons.mp ha with rfl | ha
      · obtain ⟨w, ew, x9, ex9, -⟩ := (h1 : ∃ w, v = some w ∧ rk_has G (X + 0) rk_full w)
        exact ⟨x9, by rw [ew, ex9]⟩
      · rw [List.mem_singleton] at ha
        subst ha
        obtain ⟨w, ew, x9, ex9, -⟩ := (h1 : ∃ w, v = some w ∧ rk_has G (X + 0) (0, -1, -1) w)
        exact ⟨x9, by rw [ew, ex9]⟩
    exact kk y H1 locs1 hh1
  have no : ∀ (pc : Nat) (lo : List (Nat × Value)) (f : Nat → va_E) (H : Heap) (locs : List Loc), decode rk_q_X9_takesWord.2.1 pc = .ok (.ireturn, 1) → rm_h D A st L f H locs → rm_TY cI c1 c2 c3 c4 c5 ad G X L f → rc_Lv G 1 f0 f → rv_G p l e { frames := rk_q_X9_takesWord.2.2.2.2.1, cells := 0, slots := 0, locals := rk_q_X9_takesWord.2.2.2.2.2 } st m ([.ref a0, .ref (ad i)] : List Value).toArray below meth c (MQ below (rk_Q (fun v u => (∃ y : Int32, v = some (.int y) ∧ 0 ≤ y.toInt ∧ y.toInt ≤ 1) ∧ rm_TY cI c1 c2 c3 c4 c5 ad G X L u ∧ rc_Lv G 1 f0 u) (rk_B D (rk_tys cI c1 c2 c3 c4 c5) L A) A) ([.ref a0, .ref (ad i)] : List Value).toArray st 0 0 A) rk_q_X9_takesWord.2.2.1 0 0 H locs pc [.int (Int32.ofInt 0)] lo := by
    intro pc lo f H locs hd hh hT hLt
    refine rm_zret hC hh hd rfl (Or.inl rfl) ⟨⟨_, rfl, by decide, by decide⟩, hT, hLt⟩
  have t41 : ∀ (n : Int32) (f : Nat → va_E) (H : Heap) (locs : List Loc), rm_h D A st L f H locs → rm_TY cI c1 c2 c3 c4 c5 ad G X L f → rc_Lv G 1 f0 f → 0 ≤ n.toInt → (∀ (z y : Int32), rk_fld (f a0) 4 = some (.int z) → n.toInt = 0 ∨ z.toInt + n.toInt ≤ 400) → rv_G p l e { frames := rk_q_X9_takesWord.2.2.2.2.1, cells := 0, slots := 0, locals := rk_q_X9_takesWord.2.2.2.2.2 } st m ([.ref a0, .ref (ad i)] : List Value).toArray below meth c (MQ below (rk_Q (fun v u => (∃ y : Int32, v = some (.int y) ∧ 0 ≤ y.toInt ∧ y.toInt ≤ 1) ∧ rm_TY cI c1 c2 c3 c4 c5 ad G X L u ∧ rc_Lv G 1 f0 u) (rk_B D (rk_tys cI c1 c2 c3 c4 c5) L A) A) ([.ref a0, .ref (ad i)] : List Value).toArray st 0 0 A) rk_q_X9_takesWord.2.2.1 0 0 H locs 41 [] [(0, .ref a0), (1, .ref (ad i)), (2, .int n)] := by
    intro n f H locs hh hT hLt hn0 hns
    refine rv_run hC.1 hC.2.1 (T := rv_t_X9_takesWord) rv_k_X9_takesWord 80 ?_
    refine rj_callV hC hh (by decide +kernel) rj_lk_X9_123 rj_i_J0_length rj_s_J0_length ((rj_NU hC hh).1.1 i hi).1 (j_len base l rk_K (rk_E ad) (rk_tys cI c1 c2 c3 c4 c5) D ad adV i hi) hX0 hXC hT rfl rfl (Nat.le_of_ble_eq_true rfl) hcs (fun v H locs hv hh => ?_)
    subst hv
    refine rv_run hC.1 hC.2.1 (T := rv_t_X9_takesWord) rv_k_X9_takesWord 1 ?_
    refine ⟨fun h => ?_, fun _ => ?_⟩
    · have h : n.toInt = (Int32.ofNat (rk_len.getD i 0)).toInt := h
      have loop : ∀ (d : Nat) (k : Int32) (kn : Nat) (H : Heap) (locs : List Loc), rm_h D A st L f H locs → k.toInt = (kn : Int) → (kn : Int) + (d : Int) = n.toInt → rv_G p l e { frames := rk_q_X9_takesWord.2.2.2.2.1, cells := 0, slots := 0, locals := rk_q_X9_takesWord.2.2.2.2.2 } st m ([.ref a0, .ref (ad i)] : List Value).toArray below meth c (MQ below (rk_Q (fun v u => (∃ y : Int32, v = some (.int y) ∧ 0 ≤ y.toInt ∧ y.toInt ≤ 1) ∧ rm_TY cI c1 c2 c3 c4 c5 ad G X L u ∧ rc_Lv G 1 f0 u) (rk_B D (rk_tys cI c1 c2 c3 c4 c5) L A) A) ([.ref a0, .ref (ad i)] : List Value).toArray st 0 0 A) rk_q_X9_takesWord.2.2.1 0 0 H locs 53 [] [(0, .ref a0), (1, .ref (ad i)), (2, .int n), (3, .int k)] := by
        intro d
        induction d with
        | zero =>
          intro k kn H locs hh hk hd
          refine rv_run hC.1 hC.2.1 (T := rv_t_X9_takesWord) rv_k_X9_takesWord 3 ?_
          refine ⟨fun _ => ?_, fun h => absurd h (by show ¬ k.toInt < n.toInt; omega)⟩
          refine rv_run hC.1 hC.2.1 (T := rv_t_X9_takesWord) rv_k_X9_takesWord 80 ?_
          obtain ⟨hL0, fs, e1, e2, e3⟩ := rc_me hT hG rfl
          have e2 : fs.length = 7 := e2
          have hv : fs[4]? = some fs[4] := List.getElem?_eq_getElem (by rw [e2]; decide)
          obtain ⟨z, ez, hz1, hz2⟩ := (e3 4 (0, 0, 400) _ rfl hv : rk_has G X (0, 0, 400) _)
          rw [ez] at hv
          refine rm_get (idx := 31) hC hh (by decide +kernel) rfl hL0 e1 hv ?_
          have hns := hns z z (by rw [e1]; exact hv)
          have e4 : (z + n).toInt = z.toInt + n.toInt := rk_add_e (by omega) (by omega)
          refine rv_run hC.1 hC.2.1 (T := rv_t_X9_takesWord) rv_k_X9_takesWord 80 ?_
          refine rm_putf (idx := 31) (i := 4) (w := 0) hC hh (by decide +kernel) rfl hL0 e1 (by rw [e2]; decide) (Or.inl ⟨rfl, _, rfl⟩) (fun H1 locs1 hh1 => ?_)
          have hT1 : rm_TY cI c1 c2 c3 c4 c5 ad G X L (va_up f a0 (.inr (8, fs.set 4 (.int (z + n))))) := by
            refine rk_TY_up hT hG ⟨_, rfl, by rw [List.length_set]; exact e2, fun j t' v' hj hv' => ?_⟩
            by_cases hji : j = 4
            · subst hji
              rw [List.getElem?_set_self (by rw [e2]; decide)] at hv'
              cases hv'
              cases hj
              exact ⟨_, rfl, by rw [e4]; omega, by rw [e4]; omega⟩
            · rw [List.getElem?_set_ne (Ne.symm hji)] at hv'
              exact e3 j t' v' hj hv'
          have hL1 : rc_Lv G 1 f (va_up f a0 (.inr (8, fs.set 4 (.int (z + n))))) := (rc_LvOk G).2.2.2 1 f f a0 9 _ 4 4 rfl hG (Or.inl ⟨8, fs, 4, _, e1, rfl, Int.le_refl _, Int.le_refl _⟩) (rc_lv_rf 1)
          refine rv_run hC.1 hC.2.1 (T := rv_t_X9_takesWord) rv_k_X9_takesWord 1 ?_
          exact rm_zret hC hh1 (by decide +kernel) rfl (Or.inr rfl) ⟨⟨_, rfl, by decide, by decide⟩, hT1, rc_lv_tr (k := 1) hLt hL1 rfl rfl⟩
        | succ d ih =>
          intro k kn H locs hh hk hd
          refine rv_run hC.1 hC.2.1 (T := rv_t_X9_takesWord) rv_k_X9_takesWord 3 ?_
          refine ⟨fun h => absurd h (by show ¬ n.toInt ≤ k.toInt; omega), fun _ => ?_⟩
          refine rv_run hC.1 hC.2.1 (T := rv_t_X9_takesWord) rv_k_X9_takesWord 80 ?_
          obtain ⟨hL0, fs, e1, e2, e3⟩ := rc_me hT hG rfl
          have e2 : fs.length = 7 := e2
          have hv : fs[4]? = some fs[4] := List.getElem?_eq_getElem (by rw [e2]; decide)
          obtain ⟨z, ez, hz1, hz2⟩ := (e3 4 (0, 0, 400) _ rfl hv : rk_has G X (0, 0, 400) _)
          rw [ez] at hv
          refine rm_get (idx := 31) hC hh (by decide +kernel) rfl hL0 e1 hv ?_
          refine rv_run hC.1 hC.2.1 (T := rv_t_X9_takesWord) rv_k_X9_takesWord 2 ?_
          refine callA _ f H locs _ _ _ (by decide +kernel) (Nat.le_of_ble_eq_true rfl) hh hT (fun y H locs hh => ?_)
          refine rv_run hC.1 hC.2.1 (T := rv_t_X9_takesWord) rv_k_X9_takesWord 2 ?_
          refine rj_callV hC hh (by decide +kernel) rj_lk_X9_127 rj_i_J0_charAt rj_s_J0_charAt ((rj_NU hC hh).1.1 i hi).1 (j_chr base l rk_K (rk_E ad) (rk_tys cI c1 c2 c3 c4 c5) D ad adV i hi k kn hk (by omega)) hX0 hXC hT rfl rfl (Nat.le_of_ble_eq_true rfl) hcs (fun v H locs hv hh => ?_)
          obtain ⟨x, rfl⟩ := hv
          refine rv_run hC.1 hC.2.1 (T := rv_t_X9_takesWord) rv_k_X9_takesWord 1 ?_
          refine ⟨fun _ => ?_, fun _ => ?_⟩
          · have e7 := rm_ad (x := k) hk rm_e1 (by omega) (by omega)
            refine rv_run hC.1 hC.2.1 (T := rv_t_X9_takesWord) rv_k_X9_takesWord 2 ?_
            exact ih (k + Int32.ofInt 1) (kn + 1) H locs hh (by rw [e7]; omega) (by omega)
          · refine rv_run hC.1 hC.2.1 (T := rv_t_X9_takesWord) rv_k_X9_takesWord 1 ?_
            exact no _ _ f H locs (by decide +kernel) hh hT hLt
      refine rv_run hC.1 hC.2.1 (T := rv_t_X9_takesWord) rv_k_X9_takesWord 2 ?_
      exact loop n.toInt.toNat _ 0 H locs hh rfl (by omega)
    · refine rv_run hC.1 hC.2.1 (T := rv_t_X9_takesWord) rv_k_X9_takesWord 1 ?_
      exact no _ _ f H locs (by decide +kernel) hh hT hLt
  have loop : ∀ (d : Nat) (n : Int32) (f : Nat → va_E) (H : Heap) (locs : List Loc), rm_h D A st L f H locs → rm_TY cI c1 c2 c3 c4 c5 ad G X L f → rc_Lv G 1 f0 f → 0 ≤ n.toInt → n.toInt + (d : Int) = 400 → (∀ (z y : Int32), rk_fld (f a0) 4 = some (.int z) → n.toInt = 0 ∨ z.toInt + n.toInt ≤ 400) → rv_G p l e { frames := rk_q_X9_takesWord.2.2.2.2.1, cells := 0, slots := 0, locals := rk_q_X9_takesWord.2.2.2.2.2 } st m ([.ref a0, .ref (ad i)] : List Value).toArray below meth c (MQ below (rk_Q (fun v u => (∃ y : Int32, v = some (.int y) ∧ 0 ≤ y.toInt ∧ y.toInt ≤ 1) ∧ rm_TY cI c1 c2 c3 c4 c5 ad G X L u ∧ rc_Lv G 1 f0 u) (rk_B D (rk_tys cI c1 c2 c3 c4 c5) L A) A) ([.ref a0, .ref (ad i)] : List Value).toArray st 0 0 A) rk_q_X9_takesWord.2.2.1 0 0 H locs 6 [] [(0, .ref a0), (1, .ref (ad i)), (2, .int n)] := by
    intro d
    induction d with
    | zero =>
      intro n f H locs hh hT hLt hn0 hd hns
      refine rv_run hC.1 hC.2.1 (T := rv_t_X9_takesWord) rv_k_X9_takesWord 80 ?_
      obtain ⟨hL0, fs, e1, e2, e3⟩ := rc_me hT hG rfl
      have e2 : fs.length = 7 := e2
      have hv : fs[4]? = some fs[4] := List.getElem?_eq_getElem (by rw [e2]; decide)
      obtain ⟨z, ez, hz1, hz2⟩ := (e3 4 (0, 0, 400) _ rfl hv : rk_has G X (0, 0, 400) _)
      rw [ez] at hv
      refine rm_get (idx := 31) hC hh (by decide +kernel) rfl hL0 e1 hv ?_
      refine rv_run hC.1 hC.2.1 (T := rv_t_X9_takesWord) rv_k_X9_takesWord 80 ?_
      have hw : fs[1]? = some fs[1] := List.getElem?_eq_getElem (by rw [e2]; decide)
      obtain ⟨y, ey, hy1, hy2⟩ := (e3 1 (0, 0, 400) _ rfl hw : rk_has G X (0, 0, 400) _)
      rw [ey] at hw
      refine rm_get (idx := 25) hC hh (by decide +kernel) rfl hL0 e1 hw ?_
      have e4 : (z + n).toInt = z.toInt + n.toInt := rk_add_e (by omega) (by omega)
      refine rv_run hC.1 hC.2.1 (T := rv_t_X9_takesWord) rv_k_X9_takesWord 1 ?_
      refine ⟨fun _ => t41 n f H locs hh hT hLt hn0 hns, fun h => ?_⟩
      have h : (z + n).toInt < y.toInt := h
      omega
    | succ d ih =>
      intro n f H locs hh hT hLt hn0 hd hns
      refine rv_run hC.1 hC.2.1 (T := rv_t_X9_takesWord) rv_k_X9_takesWord 80 ?_
      obtain ⟨hL0, fs, e1, e2, e3⟩ := rc_me hT hG rfl
      have e2 : fs.length = 7 := e2
      have hv : fs[4]? = some fs[4] := List.getElem?_eq_getElem (by rw [e2]; decide)
      obtain ⟨z, ez, hz1, hz2⟩ := (e3 4 (0, 0, 400) _ rfl hv : rk_has G X (0, 0, 400) _)
      rw [ez] at hv
      refine rm_get (idx := 31) hC hh (by decide +kernel) rfl hL0 e1 hv ?_
      refine rv_run hC.1 hC.2.1 (T := rv_t_X9_takesWord) rv_k_X9_takesWord 80 ?_
      have hw : fs[1]? = some fs[1] := List.getElem?_eq_getElem (by rw [e2]; decide)
      obtain ⟨y, ey, hy1, hy2⟩ := (e3 1 (0, 0, 400) _ rfl hw : rk_has G X (0, 0, 400) _)
      rw [ey] at hw
      refine rm_get (idx := 25) hC hh (by decide +kernel) rfl hL0 e1 hw ?_
      have e4 : (z + n).toInt = z.toInt + n.toInt := rk_add_e (by omega) (by omega)
      refine rv_run hC.1 hC.2.1 (T := rv_t_X9_takesWord) rv_k_X9_takesWord 1 ?_
      refine ⟨fun _ => t41 n f H locs hh hT hLt hn0 hns, fun h => ?_⟩
      have h : (z + n).toInt < y.toInt := h
      refine rv_run hC.1 hC.2.1 (T := rv_t_X9_takesWord) rv_k_X9_takesWord 80 ?_
      refine rm_get (idx := 31) hC hh (by decide +kernel) rfl hL0 e1 hv ?_
      refine rv_run hC.1 hC.2.1 (T := rv_t_X9_takesWord) rv_k_X9_takesWord 2 ?_
      refine callA _ f H locs _ _ _ (by decide +kernel) (Nat.le_of_ble_eq_true rfl) hh hT (fun y9 H locs hh => ?_)
      refine rc_callS (idx := 120) (z := 2) (n := 1) (as := [.int y9]) (rest := []) hC hh (by decide +kernel) rfl (rm_of (c_X9_isLetter base l cI c1 c2 c3 c4 c5 D ad adV) [.int y9]) hX0 (by rw [Int.add_zero]; exact hXC) hT ⟨rk_all_c rk_aF rk_all_0, trivial⟩ rfl rfl (Nat.le_of_ble_eq_true rfl) hcs (fun v u H locs hP hh9 => ?_)
      obtain ⟨hA, hT1, hL1⟩ := hP
      have hu : u = f := (hL1 0 (by decide) rfl : rc_Rb 0 G f u)
      subst hu
      have hh := hh9
      obtain ⟨w, rfl⟩ : ∃ y : Int32, v = some (.int y) := by
        obtain ⟨a, ha, h1, -⟩ := hA
        rcases List.mem_cons.mp ha with rfl | ha
        · obtain ⟨w, ew, x9, ex9, -⟩ := (h1 : ∃ w, v = some w ∧ rk_has G (X + 0) (0, 1, 1) w)
          exact ⟨x9, by rw [ew, ex9]⟩
        · rw [List.mem_singleton] at ha
          subst ha
          obtain ⟨w, ew, x9, ex9, -⟩ := (h1 : ∃ w, v = some w ∧ rk_has G (X + 0) (0, 0, 0) w)
          exact ⟨x9, by rw [ew, ex9]⟩
      refine rv_run hC.1 hC.2.1 (T := rv_t_X9_takesWord) rv_k_X9_takesWord 1 ?_
      refine ⟨fun _ => t41 n u H locs hh hT hLt hn0 hns, fun _ => ?_⟩
      have e7 := rm_ad (x := n) rfl rm_e1 (by omega) (by omega)
      refine rv_run hC.1 hC.2.1 (T := rv_t_X9_takesWord) rv_k_X9_takesWord 2 ?_
      exact ih _ u H locs hh hT hLt (by rw [e7]; omega) (by rw [e7]; omega) (fun z9 y9 h9 => Or.inr (by
        rw [e1] at h9
        have h9 : fs[4]? = some (.int z9) := h9
        rw [hv] at h9
        cases h9
        rw [e7]
        omega))
  refine rv_run hC.1 hC.2.1 (T := rv_t_X9_takesWord) rv_k_X9_takesWord 80 ?_
  obtain ⟨hL0, fs, e1, e2, e3⟩ := rc_me hT hG rfl
  have e2 : fs.length = 7 := e2
  refine rm_callV (idx := 40) (z := 0) (n := 1) (ci := 8) (as := []) (rest := []) hC hh (by decide +kernel) rfl hL0 e1 (rm_of (c_X9_skipBlanks base l cI c1 c2 c3 c4 c5 D ad adV) [.ref a0]) hX0 (by rw [Int.add_zero]; exact hXC) hT ⟨rk_all_c ⟨a0, rfl, hG⟩ rk_all_0, trivial⟩ rfl rfl (Nat.le_of_ble_eq_true rfl) hcs (fun v u H1 locs1 hP hh1 => ?_)
  obtain ⟨hA, hT1, hL1⟩ := hP
  obtain ⟨a, ha, h1, -⟩ := hA
  rw [List.mem_singleton] at ha
  subst ha
  have h1 : v = none := h1
  subst h1
  rw [Int.add_zero] at hT1
  refine rv_run hC.1 hC.2.1 (T := rv_t_X9_takesWord) rv_k_X9_takesWord 2 ?_
  exact loop 400 _ u H1 locs1 hh1 hT1 hL1 (by decide) rfl (fun _ _ _ => Or.inl rfl)
theorem c_X9_takesWord_0 : rk_Mc base l cI c1 c2 c3 c4 c5 D ad adV rk_q_X9_takesWord [(2, 9, 0), (2, 1000, 0)] [((0, 0, 1), [])] 0 1 := by
  intro G X L f av sz hX hXC hall hT _ hBL hBs
  obtain ⟨v0, vs0, rfl, ⟨a0, rfl, hG⟩, hall0⟩ := rk_all_cons hall
  obtain ⟨v1, vs1, rfl, ⟨a1, rfl, hG1⟩, hall1⟩ := rk_all_cons hall0
  cases rk_all_nil hall1
  have h9 : ((ad 0 : Nat) : Int) = (a1 : Int) := (hT.2 a1 1000 rfl).mp hG1
  have h8 : a1 = ad 0 := by omega
  subst h8
  refine rm_mono (rc_takesWord base l cI c1 c2 c3 c4 c5 D ad adV a0 0 (by decide) G X L f sz hX hXC hT hG hBL hBs) (fun a s o t hQ => ?_)
  obtain ⟨⟨v, u, e1, ⟨⟨y, hy0, hy1, hy2⟩, hT1, hL1⟩, hB⟩, hF⟩ := hQ
  exact ⟨⟨v, u, e1, ⟨by rw [hy0]; exact rk_alt_1 ⟨y, rfl, hy1, hy2⟩ (by decide), by rw [Int.add_zero]; exact hT1, hL1⟩, hB⟩, hF⟩
theorem c_X9_takesWord_1 : rk_Mc base l cI c1 c2 c3 c4 c5 D ad adV rk_q_X9_takesWord [(2, 9, 0), (2, 1001, 0)] [((0, 0, 1), [])] 0 1 := by
  intro G X L f av sz hX hXC hall hT _ hBL hBs
  obtain ⟨v0, vs0, rfl, ⟨a0, rfl, hG⟩, hall0⟩ := rk_all_cons hall
  obtain ⟨v1, vs1, rfl, ⟨a1, rfl, hG1⟩, hall1⟩ := rk_all_cons hall0
  cases rk_all_nil hall1
  have h9 : ((ad 1 : Nat) : Int) = (a1 : Int) := (hT.2 a1 1001 rfl).mp hG1
  have h8 : a1 = ad 1 := by omega
  subst h8
  refine rm_mono (rc_takesWord base l cI c1 c2 c3 c4 c5 D ad adV a0 1 (by decide) G X L f sz hX hXC hT hG hBL hBs) (fun a s o t hQ => ?_)
  obtain ⟨⟨v, u, e1, ⟨⟨y, hy0, hy1, hy2⟩, hT1, hL1⟩, hB⟩, hF⟩ := hQ
  exact ⟨⟨v, u, e1, ⟨by rw [hy0]; exact rk_alt_1 ⟨y, rfl, hy1, hy2⟩ (by decide), by rw [Int.add_zero]; exact hT1, hL1⟩, hB⟩, hF⟩
theorem c_X9_takesWord_2 : rk_Mc base l cI c1 c2 c3 c4 c5 D ad adV rk_q_X9_takesWord [(2, 9, 0), (2, 1002, 0)] [((0, 0, 1), [])] 0 1 := by
  intro G X L f av sz hX hXC hall hT _ hBL hBs
  obtain ⟨v0, vs0, rfl, ⟨a0, rfl, hG⟩, hall0⟩ := rk_all_cons hall
  obtain ⟨v1, vs1, rfl, ⟨a1, rfl, hG1⟩, hall1⟩ := rk_all_cons hall0
  cases rk_all_nil hall1
  have h9 : ((ad 2 : Nat) : Int) = (a1 : Int) := (hT.2 a1 1002 rfl).mp hG1
  have h8 : a1 = ad 2 := by omega
  subst h8
  refine rm_mono (rc_takesWord base l cI c1 c2 c3 c4 c5 D ad adV a0 2 (by decide) G X L f sz hX hXC hT hG hBL hBs) (fun a s o t hQ => ?_)
  obtain ⟨⟨v, u, e1, ⟨⟨y, hy0, hy1, hy2⟩, hT1, hL1⟩, hB⟩, hF⟩ := hQ
  exact ⟨⟨v, u, e1, ⟨by rw [hy0]; exact rk_alt_1 ⟨y, rfl, hy1, hy2⟩ (by decide), by rw [Int.add_zero]; exact hT1, hL1⟩, hB⟩, hF⟩
theorem c_X9_takesWord_3 : rk_Mc base l cI c1 c2 c3 c4 c5 D ad adV rk_q_X9_takesWord [(2, 9, 0), (2, 1003, 0)] [((0, 0, 1), [])] 0 1 := by
  intro G X L f av sz hX hXC hall hT _ hBL hBs
  obtain ⟨v0, vs0, rfl, ⟨a0, rfl, hG⟩, hall0⟩ := rk_all_cons hall
  obtain ⟨v1, vs1, rfl, ⟨a1, rfl, hG1⟩, hall1⟩ := rk_all_cons hall0
  cases rk_all_nil hall1
  have h9 : ((ad 3 : Nat) : Int) = (a1 : Int) := (hT.2 a1 1003 rfl).mp hG1
  have h8 : a1 = ad 3 := by omega
  subst h8
  refine rm_mono (rc_takesWord base l cI c1 c2 c3 c4 c5 D ad adV a0 3 (by decide) G X L f sz hX hXC hT hG hBL hBs) (fun a s o t hQ => ?_)
  obtain ⟨⟨v, u, e1, ⟨⟨y, hy0, hy1, hy2⟩, hT1, hL1⟩, hB⟩, hF⟩ := hQ
  exact ⟨⟨v, u, e1, ⟨by rw [hy0]; exact rk_alt_1 ⟨y, rfl, hy1, hy2⟩ (by decide), by rw [Int.add_zero]; exact hT1, hL1⟩, hB⟩, hF⟩
theorem c_X9_takesWord_4 : rk_Mc base l cI c1 c2 c3 c4 c5 D ad adV rk_q_X9_takesWord [(2, 9, 0), (2, 1004, 0)] [((0, 0, 1), [])] 0 1 := by
  intro G X L f av sz hX hXC hall hT _ hBL hBs
  obtain ⟨v0, vs0, rfl, ⟨a0, rfl, hG⟩, hall0⟩ := rk_all_cons hall
  obtain ⟨v1, vs1, rfl, ⟨a1, rfl, hG1⟩, hall1⟩ := rk_all_cons hall0
  cases rk_all_nil hall1
  have h9 : ((ad 4 : Nat) : Int) = (a1 : Int) := (hT.2 a1 1004 rfl).mp hG1
  have h8 : a1 = ad 4 := by omega
  subst h8
  refine rm_mono (rc_takesWord base l cI c1 c2 c3 c4 c5 D ad adV a0 4 (by decide) G X L f sz hX hXC hT hG hBL hBs) (fun a s o t hQ => ?_)
  obtain ⟨⟨v, u, e1, ⟨⟨y, hy0, hy1, hy2⟩, hT1, hL1⟩, hB⟩, hF⟩ := hQ
  exact ⟨⟨v, u, e1, ⟨by rw [hy0]; exact rk_alt_1 ⟨y, rfl, hy1, hy2⟩ (by decide), by rw [Int.add_zero]; exact hT1, hL1⟩, hB⟩, hF⟩
end RMX
