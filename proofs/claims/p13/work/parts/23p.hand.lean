section RM9
variable {cI c1 c2 c3 c4 c5 : ClassId} {ad : Nat → Nat} {G : Nat → Option Nat} {L : List Nat} {X : Int} {f u : Nat → va_E} {a0 : Nat}
theorem rm_fiT (hT : rm_TY cI c1 c2 c3 c4 c5 ad G X L f) (hG : G a0 = some 12) {i : Nat} {x1 x2 : Int} (ht : (rk_K 12).2.2.2[i]? = some (0, x1, x2)) : x1 ≤ rm_fi f a0 i ∧ rm_fi f a0 i ≤ x2 := by
  obtain ⟨hL0, fs, aN, aA, aT, aH, aI, e1, e2, -, -, -, -, -, e3⟩ := rm_me hT hG
  have hil : i < 13 := (List.getElem?_eq_some_iff.mp ht).1
  have hv : fs[i]? = some fs[i] := List.getElem?_eq_getElem (by omega)
  obtain ⟨x, ex, h1, h2⟩ := e3 i _ _ ht hv
  rw [ex] at hv
  unfold rm_fi
  have e4 : rk_fld (f a0) i = some (.int x) := by rw [e1]; exact hv
  rw [e4]
  exact ⟨h1, h2⟩
/-- all else is kept, and so is this bit -/
theorem rm_fin10 (h : rm_Lv G 1025 f u) (h2 : rm_Rb 10 G f u) : rm_Lv G 1 f u := by
  intro b hb ht
  by_cases hb2 : b = 10
  · subst hb2
    exact h2
  · refine h b hb ?_
    have hb11 : b = 0 ∨ b = 1 ∨ b = 2 ∨ b = 3 ∨ b = 4 ∨ b = 5 ∨ b = 6 ∨ b = 7 ∨ b = 8 ∨ b = 9 := by omega
    rcases hb11 with rfl | rfl | rfl | rfl | rfl | rfl | rfl | rfl | rfl | rfl
    · exact ht
    all_goals rfl
theorem rm_fin9 (h : rm_Lv G 513 f u) (h2 : rm_Rb 9 G f u) : rm_Lv G 1 f u := by
  intro b hb ht
  by_cases hb2 : b = 9
  · subst hb2
    exact h2
  · refine h b hb ?_
    have hb11 : b = 0 ∨ b = 1 ∨ b = 2 ∨ b = 3 ∨ b = 4 ∨ b = 5 ∨ b = 6 ∨ b = 7 ∨ b = 8 ∨ b = 10 := by omega
    rcases hb11 with rfl | rfl | rfl | rfl | rfl | rfl | rfl | rfl | rfl | rfl
    · exact ht
    all_goals rfl
theorem rm_fi_of {i : Nat} {x : Int32} (h : rk_fld (u a0) i = some (.int x)) : rm_fi u a0 i = x.toInt := by
  unfold rm_fi
  rw [h]
end RM9
def rv_t_X12_errs : rv_T := (.branch 0 (.branch 0 (.branch 0 (.branch 0 (.leaf (0, .aload_n 0, 1)) (.leaf (8, .iload_n 1, 1))) (.branch 0 (.leaf (4, .ifCond .ne (13), 3)) (.leaf (12, .aload_n 0, 1)))) (.branch 0 (.leaf (18, .iconst 1, 1)) (.branch 0 (.leaf (22, .iconst 0, 1)) (.leaf (14, .putfield 19, 3))))) (.branch 0 (.branch 0 (.branch 0 (.branch 0 (.leaf (1, .getfield 245, 3)) (.leaf (17, .aload_n 0, 1))) (.leaf (9, .putfield 249, 3))) (.leaf (13, .iload_n 2, 1))) (.branch 0 (.leaf (19, .putfield 245, 3)) (.branch 0 (.branch 0 (.leaf (7, .aload_n 0, 1)) (.leaf (23, .ireturn, 1))) (.leaf (99999, .nop, 1))))))
theorem rv_k_X12_errs : rv_tok cX12_errs rv_t_X12_errs = true := by decide +kernel
section RMX
variable (base : Nat) (l : Launch) (cI c1 c2 c3 c4 c5 : ClassId) (D : va_G) (ad adV : Nat → Nat)
theorem h_errs (a0 : Nat) (k q : Int32) : rm_Hm base l cI c1 c2 c3 c4 c5 D ad adV rk_q_X12_errs [.ref a0, .int k, .int q] (fun G _ f => G a0 = some 12) (fun G _ f v u => (∃ x : Int32, v = some (.int x) ∧ x.toInt = 0) ∧ rm_fi u a0 9 = 1 ∧ rm_fi u a0 7 = rm_fi f a0 7) 0 1 := by
  unfold rm_Hm
  refine rm_start (M := rk_q_X12_errs) (rk_hNw base ad adV) (rk_hNc base ad adV) (by decide +kernel) (mt := rk_mt []) (ml := rk_mlf []) (fl := rk_flf rk_ftX12) (fun s args h hN => rk_MlOk_of (fun _ h => absurd h List.not_mem_nil) (by decide +kernel)) (fun s args h hN => rk_flX12 (fun w hw => List.mem_cons_of_mem _ hw) h hN) (rm_cat1 rfl) (Nat.le_of_ble_eq_true rfl) ?_
  intro p e st m below meth c G X L f0 A hC hh hX0 hXC hT hpre
  have hcs : 0 ≤ 0 ∧ 0 ≤ 0 := ⟨Nat.le_refl 0, Nat.le_refl 0⟩
  have hG : G a0 = some 12 := hpre
  have t17 : ∀ (f : Nat → va_E) (H : Heap) (locs : List Loc), rm_h D A st L f H locs → rm_TY cI c1 c2 c3 c4 c5 ad G X L f → rm_Lv G 1 f0 f → rm_fi f a0 7 = rm_fi f0 a0 7 → rv_G p l e { frames := rk_q_X12_errs.2.2.2.2.1, cells := 0, slots := 0, locals := rk_q_X12_errs.2.2.2.2.2 } st m ([.ref a0, .int k, .int q] : List Value).toArray below meth c (MQ below (rk_Q (fun v u => rm_TY cI c1 c2 c3 c4 c5 ad G (X + 0) L u ∧ rm_Lv G 1 f0 u ∧ (fun G _ f v u => (∃ x : Int32, v = some (.int x) ∧ x.toInt = 0) ∧ rm_fi u a0 9 = 1 ∧ rm_fi u a0 7 = rm_fi f a0 7) G X f0 v u) (rk_B D (rk_tys cI c1 c2 c3 c4 c5) L A) A) ([.ref a0, .int k, .int q] : List Value).toArray st 0 0 A) rk_q_X12_errs.2.2.1 0 0 H locs 17 [] [(0, .ref a0), (1, .int k), (2, .int q)] := by
    intro f H locs hh hT hLt h7
    have b9 := rm_fiT hT hG (i := 9) rfl
    refine rv_run hC.1 hC.2.1 (T := rv_t_X12_errs) rv_k_X12_errs 80 ?_
    refine w_pf hC hh hT hG (by omega) 1025 245 (by decide +kernel) rfl rfl (Or.inr ⟨rfl, Or.inr rfl⟩) ⟨_, rfl, by decide, by decide⟩ rfl (by decide) (fun u H locs hh hT hL hP => ?_)
    have e9 := rm_fi_of hP.1
    have h7 : rm_fi u a0 7 = rm_fi f0 a0 7 := by
      rw [← h7]
      unfold rm_fi
      rw [hP.2.1 7 (by decide)]
    have hL1 := rm_fin10 hL (fun b hb => by
      by_cases hba : b = a0
      · subst hba
        rw [e9]
        exact b9.2
      · unfold rm_fi
        rw [hP.2.2.1 b hba]
        exact Int.le_refl _)
    have hLt := rm_lv_tr (k := 1) hLt hL1 rfl rfl
    refine rv_run hC.1 hC.2.1 (T := rv_t_X12_errs) rv_k_X12_errs 1 ?_
    refine rm_iret hC hh (by decide +kernel) rfl ⟨by rw [Int.add_zero]; exact hT, hLt, ⟨_, rfl, rfl⟩, e9, h7⟩
  refine rv_run hC.1 hC.2.1 (T := rv_t_X12_errs) rv_k_X12_errs 80 ?_
  refine w_gf hC hh hT hG (by omega) 245 (by decide +kernel) rfl rfl (fun x hx hb => ?_)
  refine rv_run hC.1 hC.2.1 (T := rv_t_X12_errs) rv_k_X12_errs 1 ?_
  refine ⟨fun _ => t17 f0 _ _ hh hT (rm_lv_rf 1) rfl, fun _ => ?_⟩
  refine rv_run hC.1 hC.2.1 (T := rv_t_X12_errs) rv_k_X12_errs 80 ?_
  refine w_pf hC hh hT hG (by omega) 1 249 (by decide +kernel) rfl rfl (Or.inl ⟨rfl, _, rfl⟩) (rk_full_ok _) rfl (by decide) (fun f H locs hh hT hL hP => ?_)
  have hLt := hL
  have h7 : rm_fi f a0 7 = rm_fi f0 a0 7 := by
    unfold rm_fi
    rw [hP.2.1 7 (by decide)]
  refine rv_run hC.1 hC.2.1 (T := rv_t_X12_errs) rv_k_X12_errs 80 ?_
  refine w_pf hC hh hT hG (by omega) 1 19 (by decide +kernel) rfl rfl (Or.inl ⟨rfl, _, rfl⟩) (rk_full_ok _) rfl (by decide) (fun u H locs hh hT hL hP => ?_)
  have hLt := rm_lv_tr (k := 1) hLt hL rfl rfl
  exact t17 u H locs hh hT hLt (by
    rw [← h7]
    unfold rm_fi
    rw [hP.2.1 7 (by decide)])
end RMX
