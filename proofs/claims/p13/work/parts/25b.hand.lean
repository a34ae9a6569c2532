section RMQ
variable (base : Nat) (l : Launch) (cI c1 c2 c3 c4 c5 : ClassId) (D : va_G) (ad adV : Nat → Nat)
/-- a contract that tells by how much the counts have grown -/
def rm_Hq (M : rk_Mt) (av : List Value) (Pre : (Nat → Option Nat) → Int → (Nat → va_E) → Prop) (Post : (Nat → Option Nat) → Int → List Nat → (Nat → va_E) → Option Value → (Nat → va_E) → Prop) (C : Int) (lv : Nat) : Prop :=
  rm_Met base l rk_K (rk_E ad) (rk_tys cI c1 c2 c3 c4 c5) D (rk_NU base ad adV) M av (fun G X _ f => Pre G X f) (fun G X L f v u => rm_TY cI c1 c2 c3 c4 c5 ad G (X + C) L u ∧ rm_Lv G lv f u ∧ Post G X L f v u) C
end RMQ
section RMK3
variable {base : Nat} {cI c1 c2 c3 c4 c5 : ClassId} {D : va_G} {ad adV : Nat → Nat} {M : rk_Mt} {mt : Nat → rk_Mt} {ml : rk_Ml} {fl : rk_Fl}
variable {p : Program} {l : Launch} {e : Env} {R : Room} {st : State} {m : MethodId} {args : Array Value} {below : List Frame} {meth : Method} {c : Code} {Q : State → Prop} {cells slots : Nat} {A : Nat → Prop} {G : Nat → Option Nat} {L : List Nat} {X : Int} {f : Nat → va_E} {H : Heap} {locs : List Loc} {a0 : Nat}
theorem w_hq (hC : rm_Cx base (rk_tys cI c1 c2 c3 c4 c5) D (rk_NU base ad adV) M mt ml fl p R st m args meth c A L) (hh : rm_h D A st L f H locs) (hT : rm_TY cI c1 c2 c3 c4 c5 ad G X L f) (hG : G a0 = some 12) (hX : 0 ≤ X) {C : Int} (hXC : X + C ≤ rk_top) {pc : Nat} (idx : Nat) {z n : Nat} (hdg : decode M.2.1 pc = .ok (.invokevirtual idx, 3)) (hidx : ml idx = some (z, n, 12)) {as : List Value} {Pre : (Nat → Option Nat) → Int → (Nat → va_E) → Prop} {Post : (Nat → Option Nat) → Int → List Nat → (Nat → va_E) → Option Value → (Nat → va_E) → Prop} {lv : Nat} (hM : rm_Hq base l cI c1 c2 c3 c4 c5 D ad adV (mt z) (.ref a0 :: as) Pre Post C lv) (hpre : Pre G X f) (hn : as.length + 1 = n) {sk rest : List Value} (hsk : sk = as.reverse ++ .ref a0 :: rest) (hcat : rm_cat rest) (hcs : cells ≤ R.cells ∧ slots ≤ R.slots) {lo : List (Nat × Value)}
    (kk : ∀ (v : Option Value) (u : Nat → va_E) (H1 : Heap) (locs1 : List Loc), rm_h D A st L u H1 locs1 → rm_Lv G lv f u → Post G X L f v u → rv_G p l e R st m args below meth c Q M.2.2.1 cells slots H1 locs1 (pc + 3) (v.toList ++ rest) lo) : rv_G p l e R st m args below meth c Q M.2.2.1 cells slots H locs pc sk lo := by
  obtain ⟨hL0, fs, aN, aA, aT, aH, aI, e1, -⟩ := rm_me hT hG
  exact rm_callV hC hh hdg hidx hL0 e1 hM hX hXC hT hpre hn hsk hcat hcs (fun v u H1 locs1 hP hh1 => kk v u H1 locs1 hh1 hP.2.1 hP.2.2)
end RMK3
theorem rm_ph3 {G : Nat → Option Nat} {f u : Nat → va_E} {a0 s : Nat} (hL : rm_Lv G 3 f u) (h1 : rm_one G) (hG : G a0 = some 12) (h : rm_INV G f a0) (hs : s < 40) : rm_phi (rm_now G u a0) s ≤ rm_phi (rm_now G f a0) s := ((rm_lvb hL (by decide) rfl : rm_Rb 2 G f u) h1 a0 hG h).2 s hs
theorem rm_ph1 {G : Nat → Option Nat} {f u : Nat → va_E} {a0 s : Nat} (hL : rm_Lv G 1 f u) (hG : G a0 = some 12) (hs : s < 40) : rm_phi (rm_now G u a0) s = rm_phi (rm_now G f a0) s ∧ rm_sc (rm_now G u a0) s 20 = rm_sc (rm_now G f a0) s 20 := by
  have h := (rm_lvb hL (by decide) rfl : rm_Rb 1 G f u)
  unfold rm_phi
  rw [rm_RCE_sc h hG hs rfl, rm_RCE_sc h hG hs rfl]
  exact ⟨rfl, rfl⟩
def rv_t_X12_spillsAhead : rv_T := (.branch 0 (.branch 0 (.branch 0 (.branch 0 (.branch 0 (.branch 0 (.leaf (0, .aload_n 0, 1)) (.leaf (32, .ifCond .eq (11), 3))) (.leaf (99999, .nop, 1))) (.branch 0 (.branch 0 (.leaf (8, .if_icmp .ne (44), 3)) (.leaf (40, .invokevirtual 42, 3))) (.leaf (99999, .nop, 1)))) (.branch 0 (.branch 0 (.branch 0 (.leaf (4, .invokevirtual 36, 3)) (.leaf (36, .iload_n 1, 1))) (.leaf (52, .return_, 1))) (.branch 0 (.branch 0 (.leaf (12, .iload_n 1, 1)) (.leaf (44, .iload_n 1, 1))) (.leaf (28, .iload_n 2, 1))))) (.branch 0 (.branch 0 (.branch 0 (.leaf (2, .bipush (21), 2)) (.leaf (18, .ifCond .le (34), 3))) (.leaf (26, .istore_n 2, 1))) (.branch 0 (.leaf (22, .iload_n 1, 1)) (.leaf (46, .invokevirtual 162, 3))))) (.branch 0 (.branch 0 (.branch 0 (.branch 0 (.leaf (1, .iload_n 1, 1)) (.leaf (49, .goto (-49), 3))) (.leaf (99999, .nop, 1))) (.branch 0 (.branch 0 (.leaf (37, .bipush (21), 2)) (.leaf (21, .aload_n 0, 1))) (.branch 0 (.branch 0 (.leaf (13, .bipush (20), 2)) (.leaf (45, .iload_n 2, 1))) (.leaf (29, .invokevirtual 79, 3))))) (.branch 0 (.branch 0 (.leaf (35, .aload_n 0, 1)) (.branch 0 (.branch 0 (.leaf (11, .aload_n 0, 1)) (.leaf (43, .aload_n 0, 1))) (.leaf (27, .aload_n 0, 1)))) (.branch 0 (.branch 0 (.branch 0 (.leaf (7, .iconst 2, 1)) (.leaf (39, .iconst 0, 1))) (.leaf (23, .invokevirtual 159, 3))) (.leaf (15, .invokevirtual 36, 3))))))
theorem rv_k_X12_spillsAhead : rv_tok cX12_spillsAhead rv_t_X12_spillsAhead = true := by decide +kernel
section RMX
variable (base : Nat) (l : Launch) (cI c1 c2 c3 c4 c5 : ClassId) (D : va_G) (ad adV : Nat → Nat)
theorem h_spillsAhead (a0 : Nat) (s : Int32) (sn : Nat) (hs : s.toInt = (sn : Int)) (hsn : sn < 32) (P : Nat) : rm_Hq base l cI c1 c2 c3 c4 c5 D ad adV rk_q_X12_spillsAhead [.ref a0, .int s] (fun G _ f => G a0 = some 12 ∧ rm_one G ∧ rm_INV G f a0 ∧ rm_phi (rm_now G f a0) sn ≤ (P : Int)) (fun G X L f v u => v = none ∧ ∃ Q : Nat, Q ≤ P ∧ rm_phi (rm_now G u a0) sn ≤ (Q : Int) ∧ rm_TY cI c1 c2 c3 c4 c5 ad G (X + 3 * ((P : Int) - (Q : Int))) L u ∧ ((rm_sc (rm_now G f a0) sn 21 = 2 ∧ 1 ≤ rm_sc (rm_now G f a0) sn 20) → Q + 1 ≤ P)) (3 * (P : Int)) 3 := by
  unfold rm_Hq
  refine rm_start (M := rk_q_X12_spillsAhead) (rk_hNw base ad adV) (rk_hNc base ad adV) (by decide +kernel) (mt := rk_mt [rk_q_X12_at, rk_q_X12_isMark, rk_q_X12_puts, rk_q_X12_spillsOne, rk_q_X12_takes]) (ml := rk_mlf [(36, 0, 3, 12), (79, 1, 2, 12), (42, 2, 4, 12), (162, 3, 3, 12), (159, 4, 2, 12)]) (fl := rk_flf rk_ftX12) (fun s args h hN => rk_MlOk_of (List.forall_mem_cons.mpr ⟨rk_mck_ok (fun w hw => List.mem_cons_of_mem _ hw) h hN rk_cm_X12_at rk_lk_X12_36, List.forall_mem_cons.mpr ⟨rk_mck_ok (fun w hw => List.mem_cons_of_mem _ hw) h hN rk_cm_X12_isMark rk_lk_X12_79, List.forall_mem_cons.mpr ⟨rk_mck_ok (fun w hw => List.mem_cons_of_mem _ hw) h hN rk_cm_X12_puts rk_lk_X12_42, List.forall_mem_cons.mpr ⟨rk_mck_ok (fun w hw => List.mem_cons_of_mem _ hw) h hN rk_cm_X12_spillsOne rk_lk_X12_162, List.forall_mem_cons.mpr ⟨rk_mck_ok (fun w hw => List.mem_cons_of_mem _ hw) h hN rk_cm_X12_takes rk_lk_X12_159, fun _ h => absurd h List.not_mem_nil⟩⟩⟩⟩⟩) (by decide +kernel)) (fun s args h hN => rk_flX12 (fun w hw => List.mem_cons_of_mem _ hw) h hN) (rm_cat1 rfl) (Nat.le_of_ble_eq_true rfl) ?_
  intro p e st m below meth c G X L f0 A hC hh hX0 hXC hT hpre
  have hcs : 0 ≤ 0 ∧ 0 ≤ 0 := ⟨Nat.le_refl 0, Nat.le_refl 0⟩
  obtain ⟨hG, h1, hI, hPh⟩ := hpre
  have hXt : X + 3 * (P : Int) ≤ 2000000000 := hXC
  have hs40 : sn < 40 := by omega
  have loop : ∀ (Q : Nat) (lo : List (Nat × Value)) (f : Nat → va_E) (H : Heap) (locs : List Loc), rm_h D A st L f H locs → Q ≤ P → rm_phi (rm_now G f a0) sn ≤ (Q : Int) → rm_TY cI c1 c2 c3 c4 c5 ad G (X + 3 * ((P : Int) - (Q : Int))) L f → rm_Lv G 3 f0 f → rm_INV G f a0 → (rm_sc (rm_now G f0 a0) sn 21 = 2 ∧ 1 ≤ rm_sc (rm_now G f0 a0) sn 20 → Q + 1 ≤ P ∨ (rm_sc (rm_now G f a0) sn 21 = 2 ∧ 1 ≤ rm_sc (rm_now G f a0) sn 20)) → rv_G p l e { frames := rk_q_X12_spillsAhead.2.2.2.2.1, cells := 0, slots := 0, locals := rk_q_X12_spillsAhead.2.2.2.2.2 } st m ([.ref a0, .int s] : List Value).toArray below meth c (MQ below (rk_Q (fun v u => rm_TY cI c1 c2 c3 c4 c5 ad G (X + (3 * (P : Int))) L u ∧ rm_Lv G 3 f0 u ∧ (fun G X L f v u => v = none ∧ ∃ Q : Nat, Q ≤ P ∧ rm_phi (rm_now G u a0) sn ≤ (Q : Int) ∧ rm_TY cI c1 c2 c3 c4 c5 ad G (X + 3 * ((P : Int) - (Q : Int))) L u ∧ ((rm_sc (rm_now G f a0) sn 21 = 2 ∧ 1 ≤ rm_sc (rm_now G f a0) sn 20) → Q + 1 ≤ P)) G X L f0 v u) (rk_B D (rk_tys cI c1 c2 c3 c4 c5) L A) A) ([.ref a0, .int s] : List Value).toArray st 0 0 A) rk_q_X12_spillsAhead.2.2.1 0 0 H locs 0 [] [(0, .ref a0), (1, .int s)] := by
    intro Q
    induction Q with
    | zero =>
      intro lo f H locs hh hQ hph hT hLt hI hst
      have hso := rm_so_of G f a0 sn
      obtain ⟨hb1, -, hb3, -⟩ := rm_so_b hT hG hs40 hso
      have eph := rm_so_ph hso
      have t52 : ∀ (H : Heap) (locs : List Loc), rm_h D A st L f H locs → ¬ (rm_sc (rm_now G f a0) sn 21 = 2 ∧ 1 ≤ rm_sc (rm_now G f a0) sn 20) → rv_G p l e { frames := rk_q_X12_spillsAhead.2.2.2.2.1, cells := 0, slots := 0, locals := rk_q_X12_spillsAhead.2.2.2.2.2 } st m ([.ref a0, .int s] : List Value).toArray below meth c (MQ below (rk_Q (fun v u => rm_TY cI c1 c2 c3 c4 c5 ad G (X + (3 * (P : Int))) L u ∧ rm_Lv G 3 f0 u ∧ (fun G X L f v u => v = none ∧ ∃ Q : Nat, Q ≤ P ∧ rm_phi (rm_now G u a0) sn ≤ (Q : Int) ∧ rm_TY cI c1 c2 c3 c4 c5 ad G (X + 3 * ((P : Int) - (Q : Int))) L u ∧ ((rm_sc (rm_now G f a0) sn 21 = 2 ∧ 1 ≤ rm_sc (rm_now G f a0) sn 20) → Q + 1 ≤ P)) G X L f0 v u) (rk_B D (rk_tys cI c1 c2 c3 c4 c5) L A) A) ([.ref a0, .int s] : List Value).toArray st 0 0 A) rk_q_X12_spillsAhead.2.2.1 0 0 H locs 52 [] [(0, .ref a0), (1, .int s)] := by
        intro H locs hh hno
        refine rm_vret hC hh (by decide +kernel) rfl ⟨rk_TY_X (by omega) hT, hLt, rfl, 0, hQ, hph, hT, fun h => (hst h).resolve_right hno⟩
      refine rv_run hC.1 hC.2.1 (T := rv_t_X12_spillsAhead) rv_k_X12_spillsAhead 80 ?_
      refine w_at hC hh hT hG (by omega) (by omega) 36 (by decide +kernel) rfl rfl hs hs40 21 (by decide) (by decide) (Nat.le_of_ble_eq_true rfl) hcs (fun q H locs hh hq => ?_)
      have eq : q.toInt = rm_sc (rm_now G f a0) sn 21 := by rw [hq]; rfl
      refine rv_run hC.1 hC.2.1 (T := rv_t_X12_spillsAhead) rv_k_X12_spillsAhead 2 ?_
      refine ⟨fun h => ?_, fun h => ?_⟩
      · have h : ¬ q.toInt = 2 := h
        exact t52 H locs hh (by omega)
      refine rv_run hC.1 hC.2.1 (T := rv_t_X12_spillsAhead) rv_k_X12_spillsAhead 80 ?_
      refine w_at hC hh hT hG (by omega) (by omega) 36 (by decide +kernel) rfl rfl hs hs40 20 (by decide) (by decide) (Nat.le_of_ble_eq_true rfl) hcs (fun b H locs hh hb => ?_)
      have eb : b.toInt = rm_sc (rm_now G f a0) sn 20 := by rw [hb]; rfl
      refine rv_run hC.1 hC.2.1 (T := rv_t_X12_spillsAhead) rv_k_X12_spillsAhead 1 ?_
      refine ⟨fun h => ?_, fun h => ?_⟩
      · have h : b.toInt ≤ 0 := h
        exact t52 H locs hh (by omega)
      have h : 0 < b.toInt := h
      omega
    | succ Q ih =>
      intro lo f H locs hh hQ hph hT hLt hI hst
      have hso := rm_so_of G f a0 sn
      obtain ⟨hb1, -, hb3, -⟩ := rm_so_b hT hG hs40 hso
      have eph := rm_so_ph hso
      have t52 : ∀ (H : Heap) (locs : List Loc), rm_h D A st L f H locs → ¬ (rm_sc (rm_now G f a0) sn 21 = 2 ∧ 1 ≤ rm_sc (rm_now G f a0) sn 20) → rv_G p l e { frames := rk_q_X12_spillsAhead.2.2.2.2.1, cells := 0, slots := 0, locals := rk_q_X12_spillsAhead.2.2.2.2.2 } st m ([.ref a0, .int s] : List Value).toArray below meth c (MQ below (rk_Q (fun v u => rm_TY cI c1 c2 c3 c4 c5 ad G (X + (3 * (P : Int))) L u ∧ rm_Lv G 3 f0 u ∧ (fun G X L f v u => v = none ∧ ∃ Q : Nat, Q ≤ P ∧ rm_phi (rm_now G u a0) sn ≤ (Q : Int) ∧ rm_TY cI c1 c2 c3 c4 c5 ad G (X + 3 * ((P : Int) - (Q : Int))) L u ∧ ((rm_sc (rm_now G f a0) sn 21 = 2 ∧ 1 ≤ rm_sc (rm_now G f a0) sn 20) → Q + 1 ≤ P)) G X L f0 v u) (rk_B D (rk_tys cI c1 c2 c3 c4 c5) L A) A) ([.ref a0, .int s] : List Value).toArray st 0 0 A) rk_q_X12_spillsAhead.2.2.1 0 0 H locs 52 [] [(0, .ref a0), (1, .int s)] := by
        intro H locs hh hno
        refine rm_vret hC hh (by decide +kernel) rfl ⟨rk_TY_X (by omega) hT, hLt, rfl, Q + 1, hQ, hph, hT, fun h => (hst h).resolve_right hno⟩
      refine rv_run hC.1 hC.2.1 (T := rv_t_X12_spillsAhead) rv_k_X12_spillsAhead 80 ?_
      refine w_at hC hh hT hG (by omega) (by omega) 36 (by decide +kernel) rfl rfl hs hs40 21 (by decide) (by decide) (Nat.le_of_ble_eq_true rfl) hcs (fun q H locs hh hq => ?_)
      have eq : q.toInt = rm_sc (rm_now G f a0) sn 21 := by rw [hq]; rfl
      refine rv_run hC.1 hC.2.1 (T := rv_t_X12_spillsAhead) rv_k_X12_spillsAhead 2 ?_
      refine ⟨fun h => ?_, fun h => ?_⟩
      · have h : ¬ q.toInt = 2 := h
        exact t52 H locs hh (by omega)
      refine rv_run hC.1 hC.2.1 (T := rv_t_X12_spillsAhead) rv_k_X12_spillsAhead 80 ?_
      refine w_at hC hh hT hG (by omega) (by omega) 36 (by decide +kernel) rfl rfl hs hs40 20 (by decide) (by decide) (Nat.le_of_ble_eq_true rfl) hcs (fun b H locs hh hb => ?_)
      have eb : b.toInt = rm_sc (rm_now G f a0) sn 20 := by rw [hb]; rfl
      refine rv_run hC.1 hC.2.1 (T := rv_t_X12_spillsAhead) rv_k_X12_spillsAhead 1 ?_
      refine ⟨fun h => ?_, fun h => ?_⟩
      · have h : b.toInt ≤ 0 := h
        exact t52 H locs hh (by omega)
      have h : 0 < b.toInt := h
      clear t52 hst
      refine rv_run hC.1 hC.2.1 (T := rv_t_X12_spillsAhead) rv_k_X12_spillsAhead 80 ?_
      refine w_h hC hh hT hG (by omega) (by omega) 159 (by decide +kernel) rfl (h_takes base l cI c1 c2 c3 c4 c5 D ad adV a0 s sn hs hs40 _ _ _ _ _ (by omega)) ⟨hG, hso⟩ rfl rfl (Nat.le_of_ble_eq_true rfl) hcs (fun v f H locs hh hT hL hP => ?_)
      rw [Int.add_zero] at hT
      obtain ⟨⟨c9, rfl, hc⟩, hst⟩ := hP
      have hL3 := rm_st_3 hst hG hso (fun r1 r2 => ⟨by unfold rm_R1 at r1 ⊢; omega, r2⟩) (by omega) hs40
      have hI := rm_I3 hL3 h1 hG hI
      have hLt := rm_lv_tr (k := 3) hLt hL3 rfl rfl
      have hph := rm_so_ph hst.2.2
      refine rv_run hC.1 hC.2.1 (T := rv_t_X12_spillsAhead) rv_k_X12_spillsAhead 80 ?_
      refine w_k hC hh hT hG (by omega) (by omega) 79 (by decide +kernel) rfl (c_X12_isMark base l cI c1 c2 c3 c4 c5 D ad adV) (rk_all_c (rk_aM hG) (rk_all_c rk_aF rk_all_0)) rfl rfl (Nat.le_of_ble_eq_true rfl) hcs (fun v f H locs hh hT hL hA => ?_)
      rw [Int.add_zero] at hT
      have hph1 := (rm_ph1 (rm_lv_up hL rfl) hG hs40 : _ ∧ _).1
      have hLt := rm_lv_tr (k := 3) hLt hL rfl rfl
      have hI := rm_I1 (rm_lv_up hL rfl) hG hI
      obtain ⟨y, rfl, -⟩ := rk_alt_2 hA
      have t43 : ∀ (u : Nat → va_E) (H : Heap) (locs : List Loc), rm_h D A st L u H locs → rm_TY cI c1 c2 c3 c4 c5 ad G (X + 3 * ((P : Int) - ((Q + 1 : Nat) : Int))) L u → rm_Lv G 3 f0 u → rm_INV G u a0 → rm_phi (rm_now G u a0) sn ≤ (Q : Int) → rv_G p l e { frames := rk_q_X12_spillsAhead.2.2.2.2.1, cells := 0, slots := 0, locals := rk_q_X12_spillsAhead.2.2.2.2.2 } st m ([.ref a0, .int s] : List Value).toArray below meth c (MQ below (rk_Q (fun v u => rm_TY cI c1 c2 c3 c4 c5 ad G (X + (3 * (P : Int))) L u ∧ rm_Lv G 3 f0 u ∧ (fun G X L f v u => v = none ∧ ∃ Q : Nat, Q ≤ P ∧ rm_phi (rm_now G u a0) sn ≤ (Q : Int) ∧ rm_TY cI c1 c2 c3 c4 c5 ad G (X + 3 * ((P : Int) - (Q : Int))) L u ∧ ((rm_sc (rm_now G f a0) sn 21 = 2 ∧ 1 ≤ rm_sc (rm_now G f a0) sn 20) → Q + 1 ≤ P)) G X L f0 v u) (rk_B D (rk_tys cI c1 c2 c3 c4 c5) L A) A) ([.ref a0, .int s] : List Value).toArray st 0 0 A) rk_q_X12_spillsAhead.2.2.1 0 0 H locs 43 [] [(0, .ref a0), (1, .int s), (2, .int c9)] := by
        intro u H locs hh hT hLt hI hph
        refine rv_run hC.1 hC.2.1 (T := rv_t_X12_spillsAhead) rv_k_X12_spillsAhead 80 ?_
        refine w_h hC hh hT hG (by omega) (by omega) 162 (by decide +kernel) rfl (h_spillsOne base l cI c1 c2 c3 c4 c5 D ad adV a0 s c9 sn hs hsn hc) ⟨hG, h1, hI⟩ rfl rfl (Nat.le_of_ble_eq_true rfl) hcs (fun v f H locs hh hT hL hP => ?_)
        have hP : v = none := hP
        subst hP
        have hp3 := rm_ph3 hL h1 hG hI hs40
        have hLt := rm_lv_tr (k := 3) hLt hL rfl rfl
        have hI := rm_I3 hL h1 hG hI
        refine rv_run hC.1 hC.2.1 (T := rv_t_X12_spillsAhead) rv_k_X12_spillsAhead 1 ?_
        refine rv_take 2 ?_
        exact ih lo f H locs hh (by omega) (by omega) (rk_TY_X (by omega) hT) hLt hI (fun _ => Or.inl (by omega))
      refine rv_run hC.1 hC.2.1 (T := rv_t_X12_spillsAhead) rv_k_X12_spillsAhead 1 ?_
      refine ⟨fun _ => ?_, fun _ => ?_⟩
      · exact t43 f H locs hh hT hLt hI (by omega)
      · refine rv_run hC.1 hC.2.1 (T := rv_t_X12_spillsAhead) rv_k_X12_spillsAhead 80 ?_
        refine w_puts hC hh hT hG (by omega) (by omega) 1 42 (by decide +kernel) rfl rfl hs hs40 21 (by decide) (by decide) rfl (rm_hI (a := 0) (b := 2) rfl (by decide) (by decide)) (Nat.le_of_ble_eq_true rfl) hcs (fun f H locs hh hT hL hP => ?_)
        have hph2 := (rm_ph1 hL hG hs40 : _ ∧ _).1
        have hLt := rm_lv_tr (k := 3) hLt hL rfl rfl
        have hI := rm_I1 hL hG hI
        exact t43 f H locs hh hT hLt hI (by omega)
  exact loop P [] f0 _ _ hh (Nat.le_refl P) hPh (by rw [Int.sub_self, Int.mul_zero, Int.add_zero]; exact hT) (rm_lv_rf 3) hI (fun h => Or.inr h)
end RMX
