section RMT
variable {cI c1 c2 c3 c4 c5 : ClassId} {ad : Nat → Nat} {G : Nat → Option Nat} {L : List Nat} {X : Int} {f : Nat → va_E}
/-- a place of the tape is set -/
theorem rm_tset (hT : rm_TY cI c1 c2 c3 c4 c5 ad G X L f) {aT j : Nat} {g : Nat → Int32} {x : Int32} (t2 : G aT = some 32) (eT : f aT = .inl (cI, 400, .inl g)) (tT : ∀ i, i < 400 → rk_has G X (rk_E ad 32 i) (.int (g i))) (hx : rk_has G X (rk_E ad 32 j) (.int x)) : rm_TY cI c1 c2 c3 c4 c5 ad G X L (va_up f aT (.inl (cI, 400, .inl (upd g j x)))) ∧ rm_Lv G 1 f (va_up f aT (.inl (cI, 400, .inl (upd g j x)))) := by
  refine ⟨rk_TY_up hT t2 ?_, (rm_LvOk G).2.2.2 1 f f aT 32 _ j j rfl t2 (Or.inr (Or.inl ⟨cI, 400, g, upd g j x, eT, rfl, fun i hi => pk_un (by omega)⟩)) (rm_lv_rf 1)⟩
  refine ⟨cI, _, rfl, rfl, fun i hi => ?_⟩
  by_cases hij : i = j
  · subst hij
    rw [pk_us]
    exact hx
  · rw [pk_un hij]
    exact tT i hi
end RMT
def rv_t_X12_types : rv_T := (.branch 0 (.branch 0 (.branch 0 (.branch 0 (.branch 0 (.leaf (0, .bipush (24), 2)) (.leaf (16, .iload_n 2, 1))) (.branch 0 (.leaf (8, .getfield 16, 3)) (.leaf (24, .aload_n 0, 1)))) (.branch 0 (.branch 0 (.branch 0 (.leaf (4, .ifCond .lt (35), 3)) (.leaf (36, .goto (-33), 3))) (.leaf (99999, .nop, 1))) (.branch 0 (.leaf (12, .getfield 227, 3)) (.leaf (28, .iconst 1, 1))))) (.branch 0 (.branch 0 (.branch 0 (.leaf (2, .istore_n 2, 1)) (.leaf (18, .sipush (255), 3))) (.leaf (99999, .nop, 1))) (.branch 0 (.leaf (22, .iastore, 1)) (.leaf (30, .putfield 227, 3))))) (.branch 0 (.branch 0 (.branch 0 (.branch 0 (.leaf (33, .iinc 2 (-8), 3)) (.leaf (17, .ishr, 1))) (.leaf (25, .getfield 227, 3))) (.branch 0 (.leaf (21, .iand, 1)) (.leaf (29, .iadd, 1)))) (.branch 0 (.branch 0 (.leaf (3, .iload_n 2, 1)) (.leaf (11, .aload_n 0, 1))) (.branch 0 (.branch 0 (.branch 0 (.leaf (7, .aload_n 0, 1)) (.leaf (39, .return_, 1))) (.leaf (23, .aload_n 0, 1))) (.leaf (15, .iload_n 1, 1))))))
theorem rv_k_X12_types : rv_tok cX12_types rv_t_X12_types = true := by decide +kernel
def rv_t_X12_feed : rv_T := (.branch 0 (.branch 0 (.branch 0 (.branch 0 (.branch 0 (.branch 0 (.leaf (0, .aload_n 0, 1)) (.leaf (32, .aload_n 0, 1))) (.branch 0 (.leaf (16, .ireturn, 1)) (.leaf (48, .ireturn, 1)))) (.leaf (24, .invokevirtual 230, 3))) (.branch 0 (.leaf (99999, .nop, 1)) (.branch 0 (.branch 0 (.leaf (12, .if_icmp .le (5), 3)) (.leaf (44, .aload_n 0, 1))) (.leaf (28, .iload_n 3, 1))))) (.branch 0 (.branch 0 (.branch 0 (.leaf (2, .putfield 29, 3)) (.leaf (18, .iload_n 1, 1))) (.leaf (99999, .nop, 1))) (.branch 0 (.branch 0 (.branch 0 (.leaf (6, .getfield 227, 3)) (.leaf (38, .aload_n 0, 1))) (.leaf (22, .aload_n 0, 1))) (.leaf (99999, .nop, 1))))) (.branch 0 (.branch 0 (.branch 0 (.branch 0 (.branch 0 (.leaf (1, .iconst 0, 1)) (.leaf (33, .iload 4, 2))) (.leaf (17, .aload_n 0, 1))) (.branch 0 (.branch 0 (.leaf (9, .sipush (380), 3)) (.leaf (41, .invokevirtual 230, 3))) (.leaf (99999, .nop, 1)))) (.branch 0 (.leaf (5, .aload_n 0, 1)) (.branch 0 (.leaf (45, .getfield 227, 3)) (.leaf (29, .invokevirtual 230, 3))))) (.branch 0 (.branch 0 (.branch 0 (.leaf (35, .invokevirtual 230, 3)) (.leaf (19, .invokevirtual 230, 3))) (.leaf (27, .aload_n 0, 1))) (.branch 0 (.branch 0 (.leaf (39, .iload 5, 2)) (.leaf (23, .iload_n 2, 1))) (.leaf (15, .iconst (-1), 1))))))
theorem rv_k_X12_feed : rv_tok cX12_feed rv_t_X12_feed = true := by decide +kernel
section RMX
variable (base : Nat) (l : Launch) (cI c1 c2 c3 c4 c5 : ClassId) (D : va_G) (ad adV : Nat → Nat)
theorem h_types (a0 : Nat) (v : Int32) : rm_Hm base l cI c1 c2 c3 c4 c5 D ad adV rk_q_X12_types [.ref a0, .int v] (fun G _ f => G a0 = some 12 ∧ rm_fi f a0 4 ≤ 396) (fun G _ f w u => w = none ∧ rm_fi u a0 4 = rm_fi f a0 4 + 4) 0 17 := by
  unfold rm_Hm
  refine rm_start (M := rk_q_X12_types) (rk_hNw base ad adV) (rk_hNc base ad adV) (by decide +kernel) (mt := rk_mt []) (ml := rk_mlf []) (fl := rk_flf rk_ftX12) (fun s args h hN => rk_MlOk_of (fun _ h => absurd h List.not_mem_nil) (by decide +kernel)) (fun s args h hN => rk_flX12 (fun w hw => List.mem_cons_of_mem _ hw) h hN) (rm_cat1 rfl) (Nat.le_of_ble_eq_true rfl) ?_
  intro p e st m below meth c G X L f0 A hC hh hX0 hXC hT hpre
  have hcs : 0 ≤ 0 ∧ 0 ≤ 0 := ⟨Nat.le_refl 0, Nat.le_refl 0⟩
  obtain ⟨hG, h4⟩ := hpre
  have h40 := (rm_fiT hT hG (i := 4) rfl).1
  have body : ∀ (z : Int32) (f : Nat → va_E) (H : Heap) (locs : List Loc), 0 ≤ z.toInt → rm_h D A st L f H locs → rm_TY cI c1 c2 c3 c4 c5 ad G X L f → rm_Lv G 17 f0 f → rm_fi f a0 4 < 400 → (∀ (u : Nat → va_E) (H : Heap) (locs : List Loc), rm_h D A st L u H locs → rm_TY cI c1 c2 c3 c4 c5 ad G X L u → rm_Lv G 17 f0 u → rm_fi u a0 4 = rm_fi f a0 4 + 1 → rv_G p l e { frames := rk_q_X12_types.2.2.2.2.1, cells := 0, slots := 0, locals := rk_q_X12_types.2.2.2.2.2 } st m ([.ref a0, .int v] : List Value).toArray below meth c (MQ below (rk_Q (fun v u => rm_TY cI c1 c2 c3 c4 c5 ad G (X + 0) L u ∧ rm_Lv G 17 f0 u ∧ (fun G _ f w u => w = none ∧ rm_fi u a0 4 = rm_fi f a0 4 + 4) G X f0 v u) (rk_B D (rk_tys cI c1 c2 c3 c4 c5) L A) A) ([.ref a0, .int v] : List Value).toArray st 0 0 A) rk_q_X12_types.2.2.1 0 0 H locs 3 [] [(0, .ref a0), (1, .int v), (2, .int (z + Int32.ofInt (-8)))]) → rv_G p l e { frames := rk_q_X12_types.2.2.2.2.1, cells := 0, slots := 0, locals := rk_q_X12_types.2.2.2.2.2 } st m ([.ref a0, .int v] : List Value).toArray below meth c (MQ below (rk_Q (fun v u => rm_TY cI c1 c2 c3 c4 c5 ad G (X + 0) L u ∧ rm_Lv G 17 f0 u ∧ (fun G _ f w u => w = none ∧ rm_fi u a0 4 = rm_fi f a0 4 + 4) G X f0 v u) (rk_B D (rk_tys cI c1 c2 c3 c4 c5) L A) A) ([.ref a0, .int v] : List Value).toArray st 0 0 A) rk_q_X12_types.2.2.1 0 0 H locs 3 [] [(0, .ref a0), (1, .int v), (2, .int z)] := by
    intro z f H locs hz hh hT hLt h4 kk
    refine rv_run hC.1 hC.2.1 (T := rv_t_X12_types) rv_k_X12_types 2 ?_
    refine ⟨fun h => absurd h (by show ¬ z.toInt < 0; omega), fun _ => ?_⟩
    refine rv_run hC.1 hC.2.1 (T := rv_t_X12_types) rv_k_X12_types 80 ?_
    obtain ⟨hL0, fs, aN, aA, aT, aH, aI, e1, e2, -, -, ⟨t1, t2⟩, -⟩ := rm_me hT hG
    obtain ⟨hLT, gT, eT, tT⟩ := rm_ro hT t2 rfl
    refine rm_get (idx := 16) hC hh (by decide +kernel) rfl hL0 e1 t1 ?_
    refine rv_run hC.1 hC.2.1 (T := rv_t_X12_types) rv_k_X12_types 80 ?_
    refine w_gf hC hh hT hG (by omega) 227 (by decide +kernel) rfl rfl (fun x hx hx2 => ?_)
    obtain ⟨xn, hxn⟩ : ∃ n : Nat, x.toInt = (n : Int) := ⟨x.toInt.toNat, by omega⟩
    refine rv_run hC.1 hC.2.1 (T := rv_t_X12_types) rv_k_X12_types 80 ?_
    have ha := rk_and_r (x := v >>> (z &&& 31)) (y := (Int16.ofInt 255).toInt32) (by decide)
    refine rm_iast hC hh (by decide +kernel) hLT eT rfl (by omega) (by omega) (fun H locs hh => ?_)
    rw [rm_clamp hxn] at hh
    obtain ⟨hT, hL⟩ := rm_tset (j := xn) (x := v >>> (z &&& 31) &&& (Int16.ofInt 255).toInt32) hT t2 eT tT ⟨_, rfl, ha.1, Int.le_trans ha.2 (by decide)⟩
    have hne : a0 ≠ aT := fun h => by rw [h, t2] at hG; cases hG
    generalize hu : va_up f aT (.inl (cI, 400, .inl (upd gT xn (v >>> (z &&& 31) &&& (Int16.ofInt 255).toInt32)))) = u at hh hT hL
    have e4 : rm_fi u a0 4 = rm_fi f a0 4 := by
      rw [← hu]
      unfold rm_fi
      rw [va_up_ne _ _ hne]
    have hLt := rm_lv_tr (k := 17) hLt hL rfl rfl
    refine rv_run hC.1 hC.2.1 (T := rv_t_X12_types) rv_k_X12_types 80 ?_
    refine w_gf hC hh hT hG (by omega) 227 (by decide +kernel) rfl rfl (fun y hy hy2 => ?_)
    have e3 := rm_ad (x := y) rfl rm_e1 (by omega) (by decide)
    refine rv_run hC.1 hC.2.1 (T := rv_t_X12_types) rv_k_X12_types 80 ?_
    refine w_pf hC hh hT hG (by omega) 17 227 (by decide +kernel) rfl rfl (Or.inl ⟨rfl, _, rfl⟩) ⟨_, rfl, by rw [e3]; omega, by rw [e3]; omega⟩ rfl (by decide) (fun w H locs hh hT hL hP => ?_)
    have e7 := rm_fi_of hP.1
    refine rv_run hC.1 hC.2.1 (T := rv_t_X12_types) rv_k_X12_types 2 ?_
    exact kk w H locs hh hT (rm_lv_tr (k := 17) hLt hL rfl rfl) (by omega)
  refine rv_run hC.1 hC.2.1 (T := rv_t_X12_types) rv_k_X12_types 2 ?_
  refine body _ f0 _ _ (by decide) hh hT (rm_lv_rf 17) (by omega) (fun u1 H locs hh hT hL1 q1 => ?_)
  refine body _ u1 _ _ (by decide) hh hT hL1 (by omega) (fun u2 H locs hh hT hL2 q2 => ?_)
  refine body _ u2 _ _ (by decide) hh hT hL2 (by omega) (fun u3 H locs hh hT hL3 q3 => ?_)
  refine body _ u3 _ _ (by decide) hh hT hL3 (by omega) (fun u4 H locs hh hT hL4 q4 => ?_)
  refine rv_run hC.1 hC.2.1 (T := rv_t_X12_types) rv_k_X12_types 2 ?_
  refine ⟨fun _ => ?_, fun h => absurd (show (0 : Int) ≤ ((Int8.ofInt 24).toInt32 + Int32.ofInt (-8) + Int32.ofInt (-8) + Int32.ofInt (-8) + Int32.ofInt (-8)).toInt from h) (by decide)⟩
  refine rm_vret hC hh (by decide +kernel) rfl ⟨by rw [Int.add_zero]; exact hT, hL4, rfl, by omega⟩
theorem h_feed (a0 : Nat) (v1 v2 v3 v4 v5 : Int32) : rm_Hm base l cI c1 c2 c3 c4 c5 D ad adV rk_q_X12_feed [.ref a0, .int v1, .int v2, .int v3, .int v4, .int v5] (fun G _ f => G a0 = some 12) (fun G _ f v u => ∃ x : Int32, v = some (.int x) ∧ ((x.toInt = -1 ∧ 380 < rm_fi f a0 4 ∧ rm_fi u a0 4 = rm_fi f a0 4) ∨ (rm_fi f a0 4 ≤ 380 ∧ x.toInt = rm_fi f a0 4 + 20 ∧ rm_fi u a0 4 = rm_fi f a0 4 + 20))) 0 17 := by
  unfold rm_Hm
  refine rm_start (M := rk_q_X12_feed) (rk_hNw base ad adV) (rk_hNc base ad adV) (by decide +kernel) (mt := rk_mt [rk_q_X12_types]) (ml := rk_mlf [(230, 0, 2, 12)]) (fl := rk_flf rk_ftX12) (fun s args h hN => rk_MlOk_of (List.forall_mem_cons.mpr ⟨rk_mck_ok (fun w hw => List.mem_cons_of_mem _ hw) h hN rk_cm_X12_types rk_lk_X12_230, fun _ h => absurd h List.not_mem_nil⟩) (by decide +kernel)) (fun s args h hN => rk_flX12 (fun w hw => List.mem_cons_of_mem _ hw) h hN) (rm_cat1 rfl) (Nat.le_of_ble_eq_true rfl) ?_
  intro p e st m below meth c G X L f0 A hC hh hX0 hXC hT hpre
  have hcs : 0 ≤ 0 ∧ 0 ≤ 0 := ⟨Nat.le_refl 0, Nat.le_refl 0⟩
  have hG : G a0 = some 12 := hpre
  refine rv_run hC.1 hC.2.1 (T := rv_t_X12_feed) rv_k_X12_feed 80 ?_
  refine w_pf hC hh hT hG (by omega) 1 29 (by decide +kernel) rfl rfl (Or.inl ⟨rfl, _, rfl⟩) ⟨_, rfl, by decide, by decide⟩ rfl (by decide) (fun f H locs hh hT hL hP => ?_)
  have e4 : rm_fi f a0 4 = rm_fi f0 a0 4 := by
    unfold rm_fi
    rw [hP.2.1 4 (by decide)]
  have hLt := rm_lv_up (m := 17) hL rfl
  have h40 := (rm_fiT hT hG (i := 4) rfl).1
  refine rv_run hC.1 hC.2.1 (T := rv_t_X12_feed) rv_k_X12_feed 80 ?_
  refine w_gf hC hh hT hG (by omega) 227 (by decide +kernel) rfl rfl (fun x hx hx2 => ?_)
  refine rv_run hC.1 hC.2.1 (T := rv_t_X12_feed) rv_k_X12_feed 2 ?_
  refine ⟨fun h => ?_, fun h => ?_⟩
  · have h : x.toInt ≤ 380 := h
    refine rv_run hC.1 hC.2.1 (T := rv_t_X12_feed) rv_k_X12_feed 80 ?_
    refine w_h hC hh hT hG (by omega) (by omega) 230 (by decide +kernel) rfl (h_types base l cI c1 c2 c3 c4 c5 D ad adV a0 _) ⟨hG, by omega⟩ rfl rfl (Nat.le_of_ble_eq_true rfl) hcs (fun v u1 H locs hh hT hL hP => ?_)
    rw [Int.add_zero] at hT
    obtain ⟨rfl, q1⟩ := hP
    have hLt := rm_lv_tr (k := 17) hLt hL rfl rfl
    refine rv_run hC.1 hC.2.1 (T := rv_t_X12_feed) rv_k_X12_feed 80 ?_
    refine w_h hC hh hT hG (by omega) (by omega) 230 (by decide +kernel) rfl (h_types base l cI c1 c2 c3 c4 c5 D ad adV a0 _) ⟨hG, by omega⟩ rfl rfl (Nat.le_of_ble_eq_true rfl) hcs (fun v u2 H locs hh hT hL hP => ?_)
    rw [Int.add_zero] at hT
    obtain ⟨rfl, q2⟩ := hP
    have hLt := rm_lv_tr (k := 17) hLt hL rfl rfl
    refine rv_run hC.1 hC.2.1 (T := rv_t_X12_feed) rv_k_X12_feed 80 ?_
    refine w_h hC hh hT hG (by omega) (by omega) 230 (by decide +kernel) rfl (h_types base l cI c1 c2 c3 c4 c5 D ad adV a0 _) ⟨hG, by omega⟩ rfl rfl (Nat.le_of_ble_eq_true rfl) hcs (fun v u3 H locs hh hT hL hP => ?_)
    rw [Int.add_zero] at hT
    obtain ⟨rfl, q3⟩ := hP
    have hLt := rm_lv_tr (k := 17) hLt hL rfl rfl
    refine rv_run hC.1 hC.2.1 (T := rv_t_X12_feed) rv_k_X12_feed 80 ?_
    refine w_h hC hh hT hG (by omega) (by omega) 230 (by decide +kernel) rfl (h_types base l cI c1 c2 c3 c4 c5 D ad adV a0 _) ⟨hG, by omega⟩ rfl rfl (Nat.le_of_ble_eq_true rfl) hcs (fun v u4 H locs hh hT hL hP => ?_)
    rw [Int.add_zero] at hT
    obtain ⟨rfl, q4⟩ := hP
    have hLt := rm_lv_tr (k := 17) hLt hL rfl rfl
    refine rv_run hC.1 hC.2.1 (T := rv_t_X12_feed) rv_k_X12_feed 80 ?_
    refine w_h hC hh hT hG (by omega) (by omega) 230 (by decide +kernel) rfl (h_types base l cI c1 c2 c3 c4 c5 D ad adV a0 _) ⟨hG, by omega⟩ rfl rfl (Nat.le_of_ble_eq_true rfl) hcs (fun v u5 H locs hh hT hL hP => ?_)
    rw [Int.add_zero] at hT
    obtain ⟨rfl, q5⟩ := hP
    have hLt := rm_lv_tr (k := 17) hLt hL rfl rfl
    refine rv_run hC.1 hC.2.1 (T := rv_t_X12_feed) rv_k_X12_feed 80 ?_
    refine w_gf hC hh hT hG (by omega) 227 (by decide +kernel) rfl rfl (fun y hy hy2 => ?_)
    refine rm_iret hC hh (by decide +kernel) rfl ⟨by rw [Int.add_zero]; exact hT, hLt, ⟨y, rfl, Or.inr ⟨by omega, by omega, by omega⟩⟩⟩
  · have h : 380 < x.toInt := h
    refine rv_run hC.1 hC.2.1 (T := rv_t_X12_feed) rv_k_X12_feed 1 ?_
    refine rm_iret hC hh (by decide +kernel) rfl ⟨by rw [Int.add_zero]; exact hT, hLt, ⟨_, rfl, Or.inl ⟨rfl, by omega, e4⟩⟩⟩
end RMX
