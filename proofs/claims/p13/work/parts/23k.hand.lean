/-- every socket is sound, but that those of J may have a state without another; none has more to spill -/
def rm_uj (G : Nat → Option Nat) (f0 f : Nat → va_E) (a0 : Nat) (J : Nat → Prop) : Prop := rm_Lv G 15 f0 f ∧ ∀ s, s < 40 → rm_R1 (rm_sc (rm_now G f a0) s 20) (rm_sc (rm_now G f a0) s 6) (rm_sc (rm_now G f a0) s 13) ∧ (J s ∨ rm_R2 (rm_sc (rm_now G f a0) s 3) (rm_sc (rm_now G f a0) s 0)) ∧ rm_phi (rm_now G f a0) s ≤ rm_phi (rm_now G f0 a0) s
theorem rm_uj_0 {G : Nat → Option Nat} {f : Nat → va_E} {a0 : Nat} (hi : rm_INV G f a0) : rm_uj G f f a0 (fun _ => False) := ⟨rm_lv_rf 15, fun s hs => ⟨(hi.1 s hs).1, Or.inr (hi.1 s hs).2, Int.le_refl _⟩⟩
theorem rm_uj_s {G : Nat → Option Nat} {f0 f u : Nat → va_E} {a0 sn : Nat} {J : Nat → Prop} (K : Nat → Prop) {B S C T O B0 S0 C0 T0 O0 : Int} (h : rm_uj G f0 f a0 J) (hst : rm_st G f u a0 sn B S C T O) (hso : rm_so G f a0 sn B0 S0 C0 T0 O0) (h1 : rm_R1 B S C) (h2 : K sn ∨ rm_R2 T O) (hp : B + C ≤ B0 + C0) (hK : ∀ t, t ≠ sn → J t → K t) : rm_uj G f0 u a0 K := by
  obtain ⟨hL, hc, e1, e2, e3, e4, e5⟩ := hst
  obtain ⟨g1, g2, g3, g4, g5⟩ := hso
  refine ⟨rm_lv_tr h.1 hL rfl rfl, fun s hs => ?_⟩
  obtain ⟨i1, i2, i3⟩ := h.2 s hs
  by_cases hss : s = sn
  · subst hss
    unfold rm_phi at i3 ⊢
    rw [e1, e2, e3, e4, e5]
    rw [g1, g3] at i3
    exact ⟨h1, h2, by omega⟩
  · unfold rm_phi at i3 ⊢
    rw [hc.2 s hs hss 20 rfl, hc.2 s hs hss 6 rfl, hc.2 s hs hss 13 rfl, hc.2 s hs hss 3 rfl, hc.2 s hs hss 0 rfl]
    exact ⟨i1, i2.imp (hK s hss) id, i3⟩
theorem rm_uj_3 {G : Nat → Option Nat} {f u : Nat → va_E} {a0 : Nat} {J : Nat → Prop} (h : rm_uj G f u a0 J) (hJ : ∀ t, ¬ J t) (hG : G a0 = some 12) : rm_Lv G 3 f u := by
  refine rm_fin3 h.1 (rm_two hG (fun hi => ?_))
  obtain ⟨i2, i3⟩ := rm_inv_AI (rm_lvb h.1 (by decide) rfl : rm_Rb 8 G f u) hG hi
  exact ⟨⟨fun s hs => ⟨(h.2 s hs).1, (h.2 s hs).2.1.resolve_left (hJ s)⟩, i2, i3⟩, fun s hs => (h.2 s hs).2.2⟩
def rv_t_X12_unplug : rv_T := (.branch 0 (.branch 0 (.branch 0 (.branch 0 (.branch 0 (.branch 0 (.branch 0 (.leaf (0, .aload_n 0, 1)) (.leaf (64, .iload_n 2, 1))) (.leaf (32, .iconst 0, 1))) (.branch 0 (.leaf (16, .invokevirtual 36, 3)) (.leaf (48, .invokevirtual 42, 3)))) (.branch 0 (.leaf (40, .iconst 0, 1)) (.leaf (24, .aload_n 0, 1)))) (.branch 0 (.branch 0 (.leaf (68, .iload_n 2, 1)) (.leaf (52, .iload_n 2, 1))) (.branch 0 (.leaf (44, .aload_n 0, 1)) (.leaf (60, .invokevirtual 91, 3))))) (.branch 0 (.branch 0 (.branch 0 (.branch 0 (.leaf (2, .putfield 29, 3)) (.leaf (34, .invokevirtual 42, 3))) (.leaf (99999, .nop, 1))) (.branch 0 (.leaf (10, .ifCond .eq (12), 3)) (.branch 0 (.leaf (26, .invokevirtual 97, 3)) (.leaf (58, .aload_n 0, 1))))) (.branch 0 (.branch 0 (.branch 0 (.leaf (6, .iload_n 1, 1)) (.leaf (38, .iload_n 2, 1))) (.branch 0 (.leaf (22, .iconst (-1), 1)) (.leaf (54, .iconst 0, 1)))) (.branch 0 (.branch 0 (.leaf (14, .iload_n 1, 1)) (.leaf (46, .iconst 1, 1))) (.leaf (30, .aload_n 0, 1)))))) (.branch 0 (.branch 0 (.branch 0 (.branch 0 (.branch 0 (.branch 0 (.leaf (1, .iconst 0, 1)) (.leaf (65, .invokevirtual 91, 3))) (.leaf (33, .iconst 0, 1))) (.leaf (99999, .nop, 1))) (.branch 0 (.leaf (41, .invokevirtual 42, 3)) (.leaf (25, .iload_n 1, 1)))) (.branch 0 (.branch 0 (.branch 0 (.branch 0 (.leaf (5, .aload_n 0, 1)) (.leaf (69, .ireturn, 1))) (.leaf (37, .aload_n 0, 1))) (.leaf (53, .iconst 1, 1))) (.branch 0 (.branch 0 (.leaf (13, .aload_n 0, 1)) (.leaf (45, .iload_n 1, 1))) (.leaf (29, .istore_n 2, 1))))) (.branch 0 (.branch 0 (.branch 0 (.leaf (99999, .nop, 1)) (.branch 0 (.leaf (19, .ifCond .ne (5), 3)) (.leaf (51, .aload_n 0, 1)))) (.leaf (59, .iload_n 1, 1))) (.branch 0 (.branch 0 (.branch 0 (.leaf (7, .invokevirtual 32, 3)) (.leaf (39, .iconst 0, 1))) (.branch 0 (.leaf (23, .ireturn, 1)) (.leaf (55, .invokevirtual 42, 3)))) (.branch 0 (.branch 0 (.leaf (15, .iconst 0, 1)) (.leaf (47, .iconst 0, 1))) (.branch 0 (.leaf (31, .iload_n 1, 1)) (.leaf (63, .aload_n 0, 1))))))))
theorem rv_k_X12_unplug : rv_tok cX12_unplug rv_t_X12_unplug = true := by decide +kernel
section RMX
variable (base : Nat) (l : Launch) (cI c1 c2 c3 c4 c5 : ClassId) (D : va_G) (ad adV : Nat → Nat)
theorem h_unplug (a0 : Nat) (s : Int32) : rm_Hm base l cI c1 c2 c3 c4 c5 D ad adV rk_q_X12_unplug [.ref a0, .int s] (fun G _ f => G a0 = some 12 ∧ rm_one G ∧ rm_INV G f a0) (fun G _ f v u => ∃ x : Int32, v = some (.int x) ∧ -1 ≤ x.toInt ∧ x.toInt ≤ 39) 4 3 := by
  unfold rm_Hm
  refine rm_start (M := rk_q_X12_unplug) (rk_hNw base ad adV) (rk_hNc base ad adV) (by decide +kernel) (mt := rk_mt [rk_q_X12_at, rk_q_X12_isSocket, rk_q_X12_otherOf, rk_q_X12_puts, rk_q_X12_settles]) (ml := rk_mlf [(36, 0, 3, 12), (32, 1, 2, 12), (97, 2, 2, 12), (42, 3, 4, 12), (91, 4, 2, 12)]) (fl := rk_flf rk_ftX12) (fun s args h hN => rk_MlOk_of (List.forall_mem_cons.mpr ⟨rk_mck_ok (fun w hw => List.mem_cons_of_mem _ hw) h hN rk_cm_X12_at rk_lk_X12_36, List.forall_mem_cons.mpr ⟨rk_mck_ok (fun w hw => List.mem_cons_of_mem _ hw) h hN rk_cm_X12_isSocket rk_lk_X12_32, List.forall_mem_cons.mpr ⟨rk_mck_ok (fun w hw => List.mem_cons_of_mem _ hw) h hN rk_cm_X12_otherOf rk_lk_X12_97, List.forall_mem_cons.mpr ⟨rk_mck_ok (fun w hw => List.mem_cons_of_mem _ hw) h hN rk_cm_X12_puts rk_lk_X12_42, List.forall_mem_cons.mpr ⟨rk_mck_ok (fun w hw => List.mem_cons_of_mem _ hw) h hN rk_cm_X12_settles rk_lk_X12_91, fun _ h => absurd h List.not_mem_nil⟩⟩⟩⟩⟩) (by decide +kernel)) (fun s args h hN => rk_flX12 (fun w hw => List.mem_cons_of_mem _ hw) h hN) (rm_cat1 rfl) (Nat.le_of_ble_eq_true rfl) ?_
  intro p e st m below meth c G X L f0 A hC hh hX0 hXC hT hpre
  have hcs : 0 ≤ 0 ∧ 0 ≤ 0 := ⟨Nat.le_refl 0, Nat.le_refl 0⟩
  obtain ⟨hG, h1, hI⟩ := hpre
  have no : ∀ (f : Nat → va_E) (H : Heap) (locs : List Loc), rm_h D A st L f H locs → rm_TY cI c1 c2 c3 c4 c5 ad G X L f → rm_Lv G 1 f0 f → rv_G p l e { frames := rk_q_X12_unplug.2.2.2.2.1, cells := 0, slots := 0, locals := rk_q_X12_unplug.2.2.2.2.2 } st m ([.ref a0, .int s] : List Value).toArray below meth c (MQ below (rk_Q (fun v u => rm_TY cI c1 c2 c3 c4 c5 ad G (X + 4) L u ∧ rm_Lv G 3 f0 u ∧ (fun G _ f v u => ∃ x : Int32, v = some (.int x) ∧ -1 ≤ x.toInt ∧ x.toInt ≤ 39) G X f0 v u) (rk_B D (rk_tys cI c1 c2 c3 c4 c5) L A) A) ([.ref a0, .int s] : List Value).toArray st 0 0 A) rk_q_X12_unplug.2.2.1 0 0 H locs 22 [] [(0, .ref a0), (1, .int s)] := by
    intro f H locs hh hT hL
    refine rv_run hC.1 hC.2.1 (T := rv_t_X12_unplug) rv_k_X12_unplug 1 ?_
    refine rm_iret hC hh (by decide +kernel) rfl ⟨rk_TY_X (by omega) hT, rm_lv_up hL rfl, ⟨_, rfl, by decide, by decide⟩⟩
  refine rv_run hC.1 hC.2.1 (T := rv_t_X12_unplug) rv_k_X12_unplug 80 ?_
  refine w_pf hC hh hT hG (by omega) 1 29 (by decide +kernel) rfl rfl (Or.inl ⟨rfl, _, rfl⟩) ⟨_, rfl, by decide, by decide⟩ rfl (by decide) (fun f H locs hh hT hL hP => ?_)
  have hLt := hL
  have hI := rm_I1 hL hG hI
  refine rv_run hC.1 hC.2.1 (T := rv_t_X12_unplug) rv_k_X12_unplug 80 ?_
  refine w_k hC hh hT hG (by omega) (by omega) 32 (by decide +kernel) rfl (c_X12_isSocket base l cI c1 c2 c3 c4 c5 D ad adV) (rk_all_c (rk_aM hG) (rk_all_c rk_aF rk_all_0)) rfl rfl (Nat.le_of_ble_eq_true rfl) hcs (fun v f H locs hh hT hL hA => ?_)
  rw [Int.add_zero] at hT
  have hLt := rm_lv_tr (k := 1) hLt hL rfl rfl
  have hI := rm_I1 (rm_lv_up hL rfl) hG hI
  obtain ⟨x, rfl, hx⟩ := rk_alt_2 hA
  refine rv_run hC.1 hC.2.1 (T := rv_t_X12_unplug) rv_k_X12_unplug 1 ?_
  refine ⟨fun _ => no f H locs hh hT hLt, fun h => ?_⟩
  obtain ⟨sn, hs, hsn⟩ : ∃ n : Nat, s.toInt = (n : Int) ∧ n < 40 := by
    rcases hx with ⟨-, hx⟩ | hx
    · obtain ⟨w9, e9, x9, e10, y1, y2⟩ := hx _ List.mem_cons_self
      cases e9
      cases e10
      exact ⟨s.toInt.toNat, by omega, by omega⟩
    · exact absurd hx h
  refine rv_run hC.1 hC.2.1 (T := rv_t_X12_unplug) rv_k_X12_unplug 80 ?_
  refine w_at hC hh hT hG (by omega) (by omega) 36 (by decide +kernel) rfl rfl hs hsn 0 (by decide) (by decide) (Nat.le_of_ble_eq_true rfl) hcs (fun y H locs hh hy => ?_)
  have ey : y.toInt = rm_sc (rm_now G f a0) sn 0 := by rw [hy]; rfl
  have by1 := rm_scT hT hG (w := 0) hsn (by decide) rfl
  refine rv_run hC.1 hC.2.1 (T := rv_t_X12_unplug) rv_k_X12_unplug 1 ?_
  refine ⟨fun h => ?_, fun _ => no f H locs hh hT hLt⟩
  have hy0 : ¬ y.toInt = 0 := h
  refine rv_run hC.1 hC.2.1 (T := rv_t_X12_unplug) rv_k_X12_unplug 80 ?_
  refine w_h hC hh hT hG (by omega) (by omega) 97 (by decide +kernel) rfl (h_otherOf base l cI c1 c2 c3 c4 c5 D ad adV a0 s sn hs hsn) hG rfl rfl (Nat.le_of_ble_eq_true rfl) hcs (fun v f1 H locs hh1 hT1 hL hP => ?_)
  obtain ⟨⟨w, rfl, hw⟩, hu⟩ := hP
  subst hu
  have hh := hh1
  have hT := hT1
  clear hh1 hT1 hL
  rw [Int.add_zero] at hT
  obtain ⟨wn, hwn⟩ : ∃ n : Nat, w.toInt = (n : Int) := ⟨w.toInt.toNat, by omega⟩
  have hw40 : wn < 40 := by omega
  refine rv_run hC.1 hC.2.1 (T := rv_t_X12_unplug) rv_k_X12_unplug 80 ?_
  refine w_puts hC hh hT hG (by omega) (by omega) 15 42 (by decide +kernel) rfl rfl hs hsn 0 (by decide) (by decide) rfl (rm_hI (a := 0) (b := 40) rfl (by decide) (by decide)) (Nat.le_of_ble_eq_true rfl) hcs (fun f H locs hh hT hL hP => ?_)
  have uj := rm_uj_s (fun t => t = sn) (rm_uj_0 hI) (rm_st_O (rm_st_rf (rm_so_of G _ a0 sn)) hL hP) (rm_so_of G _ a0 sn) (hI.1 sn hsn).1 (Or.inl rfl) (Int.le_refl _) (fun t _ h => h.elim)
  refine rv_run hC.1 hC.2.1 (T := rv_t_X12_unplug) rv_k_X12_unplug 80 ?_
  refine w_puts hC hh hT hG (by omega) (by omega) 15 42 (by decide +kernel) rfl rfl hwn hw40 0 (by decide) (by decide) rfl (rm_hI (a := 0) (b := 40) rfl (by decide) (by decide)) (Nat.le_of_ble_eq_true rfl) hcs (fun f H locs hh hT hL hP => ?_)
  have uj := rm_uj_s (fun t => t = sn ∨ t = wn) uj (rm_st_O (rm_st_rf (rm_so_of G _ a0 wn)) hL hP) (rm_so_of G _ a0 wn) (uj.2 wn hw40).1 (Or.inl (Or.inr rfl)) (Int.le_refl _) (fun t _ h => Or.inl h)
  refine rv_run hC.1 hC.2.1 (T := rv_t_X12_unplug) rv_k_X12_unplug 80 ?_
  refine w_puts hC hh hT hG (by omega) (by omega) 1 42 (by decide +kernel) rfl rfl hs hsn 1 (by decide) (by decide) rfl (rm_hI (a := 0) (b := 1) rfl (by decide) (by decide)) (Nat.le_of_ble_eq_true rfl) hcs (fun f H locs hh hT hL hP => ?_)
  have uj := rm_uj_s (fun t => t = sn ∨ t = wn) uj (rm_st_1 (rm_st_rf (rm_so_of G _ a0 sn)) hL hG hsn) (rm_so_of G _ a0 sn) (uj.2 sn hsn).1 (Or.inl (Or.inl rfl)) (Int.le_refl _) (fun t _ h => h)
  refine rv_run hC.1 hC.2.1 (T := rv_t_X12_unplug) rv_k_X12_unplug 80 ?_
  refine w_puts hC hh hT hG (by omega) (by omega) 1 42 (by decide +kernel) rfl rfl hwn hw40 1 (by decide) (by decide) rfl (rm_hI (a := 0) (b := 1) rfl (by decide) (by decide)) (Nat.le_of_ble_eq_true rfl) hcs (fun f H locs hh hT hL hP => ?_)
  have uj := rm_uj_s (fun t => t = sn ∨ t = wn) uj (rm_st_1 (rm_st_rf (rm_so_of G _ a0 sn)) hL hG hsn) (rm_so_of G _ a0 sn) (uj.2 sn hsn).1 (Or.inl (Or.inl rfl)) (Int.le_refl _) (fun t _ h => h)
  refine rv_run hC.1 hC.2.1 (T := rv_t_X12_unplug) rv_k_X12_unplug 80 ?_
  refine w_h hC hh hT hG (by omega) (by omega) 91 (by decide +kernel) rfl (h_settles base l cI c1 c2 c3 c4 c5 D ad adV a0 s sn hs hsn _ _ _ _ _ (uj.2 sn hsn).1) ⟨hG, rm_so_of G f a0 sn⟩ rfl rfl (Nat.le_of_ble_eq_true rfl) hcs (fun v f H locs hh hT hL hP => ?_)
  obtain ⟨rfl, B1, S1, C1, T1, hst, r1, r2, hp⟩ := hP
  have uj := rm_uj_s (fun t => t = wn ∧ t ≠ sn) uj hst (rm_so_of G _ a0 sn) r1 (Or.inr r2) hp (fun t ht h => ⟨h.resolve_left ht, ht⟩)
  refine rv_run hC.1 hC.2.1 (T := rv_t_X12_unplug) rv_k_X12_unplug 80 ?_
  refine w_h hC hh hT hG (by omega) (by omega) 91 (by decide +kernel) rfl (h_settles base l cI c1 c2 c3 c4 c5 D ad adV a0 w wn hwn hw40 _ _ _ _ _ (uj.2 wn hw40).1) ⟨hG, rm_so_of G f a0 wn⟩ rfl rfl (Nat.le_of_ble_eq_true rfl) hcs (fun v f H locs hh hT hL hP => ?_)
  obtain ⟨rfl, B1, S1, C1, T1, hst, r1, r2, hp⟩ := hP
  have uj := rm_uj_s (fun _ => False) uj hst (rm_so_of G _ a0 wn) r1 (Or.inr r2) hp (fun t ht h => ht h.1)
  have hL3 := rm_uj_3 uj (fun _ h => h) hG
  refine rv_run hC.1 hC.2.1 (T := rv_t_X12_unplug) rv_k_X12_unplug 1 ?_
  refine rm_iret hC hh (by decide +kernel) rfl ⟨rk_TY_X (by omega) hT, rm_lv_tr (k := 3) hLt hL3 rfl rfl, ⟨w, rfl, by omega, by omega⟩⟩
end RMX
