/-- what stands at the spot -/
def rm_hv (G : Nat → Option Nat) (f : Nat → va_E) (a0 : Nat) : Int := if rm_fi f a0 7 < rm_fi f a0 8 then (rm_rw G f a0 3 32 (rm_fi f a0 7).toNat).toInt else -1
theorem rm_sp {G : Nat → Option Nat} {f u : Nat → va_E} {a0 : Nat} (hL : rm_Lv G 1 f u) (hG : G a0 = some 12) : rm_fi u a0 8 = rm_fi f a0 8 ∧ rm_fi f a0 7 ≤ rm_fi u a0 7 ∧ rm_fi f a0 9 ≤ rm_fi u a0 9 :=
  ⟨((rm_lvb hL (by decide) rfl : rm_Rb 9 G f u) a0 hG).1, ((rm_lvb hL (by decide) rfl : rm_Rb 9 G f u) a0 hG).2, (rm_lvb hL (by decide) rfl : rm_Rb 10 G f u) a0 hG⟩
def rv_t_X12_here : rv_T := (.branch 0 (.branch 0 (.branch 0 (.branch 0 (.branch 0 (.leaf (0, .aload_n 0, 1)) (.leaf (16, .getfield 236, 3))) (.branch 0 (.leaf (8, .if_icmp .ge (15), 3)) (.leaf (24, .ireturn, 1)))) (.branch 0 (.branch 0 (.leaf (4, .aload_n 0, 1)) (.leaf (20, .goto (4), 3))) (.leaf (12, .getfield 16, 3)))) (.leaf (99999, .nop, 1))) (.branch 0 (.branch 0 (.leaf (1, .getfield 236, 3)) (.leaf (5, .getfield 239, 3))) (.branch 0 (.branch 0 (.leaf (19, .iaload, 1)) (.leaf (11, .aload_n 0, 1))) (.branch 0 (.leaf (23, .iconst (-1), 1)) (.leaf (15, .aload_n 0, 1))))))
theorem rv_k_X12_here : rv_tok cX12_here rv_t_X12_here = true := by decide +kernel
section RMX
variable (base : Nat) (l : Launch) (cI c1 c2 c3 c4 c5 : ClassId) (D : va_G) (ad adV : Nat → Nat)
theorem h_here (a0 : Nat) : rm_Hm base l cI c1 c2 c3 c4 c5 D ad adV rk_q_X12_here [.ref a0] (fun G _ f => G a0 = some 12) (fun G _ f v u => (∃ x : Int32, v = some (.int x) ∧ -1 ≤ x.toInt ∧ x.toInt ≤ 255 ∧ (rm_fi f a0 7 < rm_fi f a0 8 ∨ x.toInt = -1) ∧ x.toInt = rm_hv G f a0) ∧ u = f) 0 0 := by
  unfold rm_Hm
  refine rm_start (M := rk_q_X12_here) (rk_hNw base ad adV) (rk_hNc base ad adV) (by decide +kernel) (mt := rk_mt []) (ml := rk_mlf []) (fl := rk_flf rk_ftX12) (fun s args h hN => rk_MlOk_of (fun _ h => absurd h List.not_mem_nil) (by decide +kernel)) (fun s args h hN => rk_flX12 (fun w hw => List.mem_cons_of_mem _ hw) h hN) (rm_cat1 rfl) (Nat.le_of_ble_eq_true rfl) ?_
  intro p e st m below meth c G X L f0 A hC hh hX0 hXC hT hpre
  have hcs : 0 ≤ 0 ∧ 0 ≤ 0 := ⟨Nat.le_refl 0, Nat.le_refl 0⟩
  have hG : G a0 = some 12 := hpre
  refine rv_run hC.1 hC.2.1 (T := rv_t_X12_here) rv_k_X12_here 80 ?_
  refine w_gf hC hh hT hG (by omega) 236 (by decide +kernel) rfl rfl (fun x hx hx2 => ?_)
  refine rv_run hC.1 hC.2.1 (T := rv_t_X12_here) rv_k_X12_here 80 ?_
  refine w_gf hC hh hT hG (by omega) 239 (by decide +kernel) rfl rfl (fun y hy hy2 => ?_)
  refine rv_run hC.1 hC.2.1 (T := rv_t_X12_here) rv_k_X12_here 1 ?_
  refine ⟨fun h9 => ?_, fun h => ?_⟩
  · have h9 : y.toInt ≤ x.toInt := h9
    refine rv_run hC.1 hC.2.1 (T := rv_t_X12_here) rv_k_X12_here 1 ?_
    refine rm_iret hC hh (by decide +kernel) rfl ⟨by rw [Int.add_zero]; exact hT, rm_lv_rf 0, ⟨_, rfl, by decide, by decide, Or.inr rfl, by unfold rm_hv; rw [if_neg (by omega)]; rfl⟩, rfl⟩
  · have h : x.toInt < y.toInt := h
    refine rv_run hC.1 hC.2.1 (T := rv_t_X12_here) rv_k_X12_here 80 ?_
    obtain ⟨hL0, fs, aN, aA, aT, aH, aI, e1, e2, -, -, ⟨t1, t2⟩, -⟩ := rm_me hT hG
    obtain ⟨hLT, gT, eT, tT⟩ := rm_ro hT t2 rfl
    refine rm_get (idx := 16) hC hh (by decide +kernel) rfl hL0 e1 t1 ?_
    refine rv_run hC.1 hC.2.1 (T := rv_t_X12_here) rv_k_X12_here 80 ?_
    refine w_gf hC hh hT hG (by omega) 236 (by decide +kernel) rfl rfl (fun z hz hz2 => ?_)
    obtain ⟨zn, hzn⟩ : ∃ n : Nat, z.toInt = (n : Int) := ⟨z.toInt.toNat, by omega⟩
    refine rm_iald hC hh (by decide +kernel) hLT eT rfl (by omega) (by omega) ?_
    obtain ⟨x9, e9, y1, y2⟩ := (tT z.toNatClampNeg (by rw [rm_clamp hzn]; omega) : rk_has G X (0, 0, 255) _)
    cases e9
    refine rv_run hC.1 hC.2.1 (T := rv_t_X12_here) rv_k_X12_here 1 ?_
    refine rm_iret hC hh (by decide +kernel) rfl ⟨by rw [Int.add_zero]; exact hT, rm_lv_rf 0, ⟨_, rfl, by omega, y2, Or.inl (by omega), by unfold rm_hv; rw [if_pos (by omega), rm_rw_of e1 t1 t2 eT, hz, hzn, rm_clamp hzn, Int.toNat_natCast]⟩, rfl⟩
end RMX
