/-! the shortest ways: what laysHops lays -/
def wy_o (g : Nat → Int32) (s : Nat) : Int := rm_sc g s 0 - 1
def wy_R (g : Nat → Int32) (to : Nat) : Nat → Nat → Prop
  | 0, _ => False
  | n + 1, r => ∃ p, 1 ≤ p ∧ p < 8 ∧ (wy_o g (8 * r + p) = 32 + (to : Int) ∨ (0 ≤ wy_o g (8 * r + p) ∧ wy_o g (8 * r + p) < 32 ∧ wy_R g to n ((wy_o g (8 * r + p)).toNat / 8)))
theorem wy_up {g : Nat → Int32} {to : Nat} : ∀ {n r : Nat}, wy_R g to n r → wy_R g to (n + 1) r
  | 0, _, h => h.elim
  | n + 1, r, h => by
    obtain ⟨p, h1, h2, h3⟩ := h
    refine ⟨p, h1, h2, ?_⟩
    rcases h3 with h3 | ⟨h3, h4, h5⟩
    · exact Or.inl h3
    · exact Or.inr ⟨h3, h4, wy_up h5⟩
theorem wy_le {g : Nat → Int32} {to n m r : Nat} (h : n ≤ m) (hR : wy_R g to n r) : wy_R g to m r := by
  induction h with
  | refl => exact hR
  | step _ ih => exact wy_up ih
theorem wy_st {g : Nat → Int32} {to k r : Nat} (h : wy_R g to (k + 2) r) (hn : ¬ wy_R g to (k + 1) r) : ∃ p, 1 ≤ p ∧ p < 8 ∧ 0 ≤ wy_o g (8 * r + p) ∧ wy_o g (8 * r + p) < 32 ∧ wy_R g to (k + 1) ((wy_o g (8 * r + p)).toNat / 8) ∧ ¬ wy_R g to k ((wy_o g (8 * r + p)).toNat / 8) := by
  obtain ⟨p, h1, h2, h3⟩ := h
  rcases h3 with h3 | ⟨h3, h4, h5⟩
  · exact absurd ⟨p, h1, h2, Or.inl h3⟩ hn
  · exact ⟨p, h1, h2, h3, h4, h5, fun hk => hn ⟨p, h1, h2, Or.inr ⟨h3, h4, hk⟩⟩⟩
theorem wy_s1 {g : Nat → Int32} {to k r : Nat} (h : wy_R g to (k + 2) r) (hn : ¬ wy_R g to (k + 1) r) : ∃ r', r' < 4 ∧ wy_R g to (k + 1) r' ∧ ¬ wy_R g to k r' := by
  obtain ⟨p, -, -, h3, h4, h5, h6⟩ := wy_st h hn
  exact ⟨_, by omega, h5, h6⟩
theorem wy_pig {g : Nat → Int32} {to r : Nat} (hr : r < 4) (h : wy_R g to 5 r) : wy_R g to 4 r := by
  by_cases h4 : wy_R g to 4 r
  · exact h4
  · obtain ⟨r4, l4, a4, b4⟩ := wy_s1 h h4
    obtain ⟨r3, l3, a3, b3⟩ := wy_s1 a4 b4
    obtain ⟨r2, l2, a2, b2⟩ := wy_s1 a3 b3
    obtain ⟨r1, l1, a1, b1⟩ := wy_s1 a2 b2
    have d1 : r ≠ r4 := fun e => by subst e; exact h4 a4
    have d2 : r ≠ r3 := fun e => by subst e; exact h4 (wy_le (by decide) a3)
    have d3 : r ≠ r2 := fun e => by subst e; exact h4 (wy_le (by decide) a2)
    have d4 : r ≠ r1 := fun e => by subst e; exact h4 (wy_le (by decide) a1)
    have d5 : r4 ≠ r3 := fun e => by subst e; exact b4 a3
    have d6 : r4 ≠ r2 := fun e => by subst e; exact b4 (wy_le (by decide) a2)
    have d7 : r4 ≠ r1 := fun e => by subst e; exact b4 (wy_le (by decide) a1)
    have d8 : r3 ≠ r2 := fun e => by subst e; exact b3 a2
    have d9 : r3 ≠ r1 := fun e => by subst e; exact b3 (wy_le (by decide) a1)
    have d10 : r2 ≠ r1 := fun e => by subst e; exact b2 a1
    exfalso
    omega
theorem wy_all {g : Nat → Int32} {to : Nat} : ∀ {n r : Nat}, r < 4 → wy_R g to n r → wy_R g to 4 r
  | 0, _, _, h => h.elim
  | n + 1, r, hr, h => by
    obtain ⟨p, h1, h2, h3⟩ := h
    rcases h3 with h3 | ⟨h3, h4, h5⟩
    · exact ⟨p, h1, h2, Or.inl h3⟩
    · exact wy_pig hr ⟨p, h1, h2, Or.inr ⟨h3, h4, wy_all (by omega) h5⟩⟩
def wy_S (g : Nat → Int32) (to : Nat) (h : Nat → Int32) : Prop := ∀ r, r < 4 → 1 ≤ (h r).toInt ∧ (h r).toInt ≤ 99 ∧ ((h r).toInt < 99 → wy_R g to (h r).toInt.toNat r)
def wy_C (g : Nat → Int32) (to t : Nat) (h : Nat → Int32) : Prop := ∀ r, r < 4 → ∀ n : Nat, n ≤ t → wy_R g to n r → (h r).toInt ≤ (n : Int)
/-- what onward looks for -/
def wy_on (g : Nat → Int32) (to : Nat) (h : Nat → Int32) (r p : Nat) : Prop := ((h r).toInt = 1 ∧ wy_o g (8 * r + p) = 32 + (to : Int)) ∨ ((h r).toInt ≠ 1 ∧ 0 ≤ wy_o g (8 * r + p) ∧ wy_o g (8 * r + p) < 32 ∧ (h ((wy_o g (8 * r + p)).toNat / 8)).toInt = (h r).toInt - 1)
def wy_FX (g : Nat → Int32) (to : Nat) (h : Nat → Int32) : Prop := ∀ r, r < 4 → (h r).toInt < 99 → 1 ≤ (h r).toInt ∧ (h r).toInt ≤ 4 ∧ ∃ p, 1 ≤ p ∧ p < 8 ∧ wy_on g to h r p
theorem wy_fx {g : Nat → Int32} {to : Nat} {h : Nat → Int32} (hS : wy_S g to h) (hC : wy_C g to 4 h) : wy_FX g to h := by
  intro r hr hlt
  obtain ⟨s1, s2, s3⟩ := hS r hr
  have hR := s3 hlt
  have h4 := hC r hr 4 (Nat.le_refl 4) (wy_all hr hR)
  refine ⟨s1, h4, ?_⟩
  obtain ⟨k, hk⟩ : ∃ k : Nat, (h r).toInt = (k : Int) + 1 := ⟨((h r).toInt - 1).toNat, by omega⟩
  have hk2 : (h r).toInt.toNat = k + 1 := by omega
  rw [hk2] at hR
  cases k with
  | zero =>
    obtain ⟨p, h1, h2, h3⟩ := hR
    rcases h3 with h3 | ⟨-, -, h5⟩
    · exact ⟨p, h1, h2, Or.inl ⟨by omega, h3⟩⟩
    · exact h5.elim
  | succ k =>
    have hn : ¬ wy_R g to (k + 1) r := fun h9 => by
      have := hC r hr (k + 1) (by omega) h9
      omega
    obtain ⟨p, h1, h2, h3, h5, h6, -⟩ := wy_st hR hn
    have hl : (wy_o g (8 * r + p)).toNat / 8 < 4 := by omega
    have u1 := hC _ hl (k + 1) (by omega) h6
    refine ⟨p, h1, h2, Or.inr ⟨by omega, h3, h5, ?_⟩⟩
    obtain ⟨q1, q2, q3⟩ := hS _ hl
    by_cases hq : (h ((wy_o g (8 * r + p)).toNat / 8)).toInt < (k : Int) + 1
    · have hR2 : wy_R g to ((h ((wy_o g (8 * r + p)).toNat / 8)).toInt.toNat + 1) r := ⟨p, h1, h2, Or.inr ⟨h3, h5, q3 (by omega)⟩⟩
      have := hC r hr _ (by omega) hR2
      omega
    · omega
/-- a port of a router has been looked at -/
def wy_I (g : Nat → Int32) (to t r p : Nat) (h : Nat → Int32) : Prop := wy_S g to h ∧ wy_C g to t h ∧ (∀ r', r' < r → r' < 4 → wy_R g to (t + 1) r' → (h r').toInt ≤ (t : Int) + 1) ∧ ∀ p', 1 ≤ p' → p' < p → (wy_o g (8 * r + p') = 32 + (to : Int) ∨ (0 ≤ wy_o g (8 * r + p') ∧ wy_o g (8 * r + p') < 32 ∧ wy_R g to t ((wy_o g (8 * r + p')).toNat / 8))) → (h r).toInt ≤ (t : Int) + 1
theorem wy_nx {g : Nat → Int32} {to t r : Nat} {h : Nat → Int32} (hI : wy_I g to t r 8 h) : wy_I g to t (r + 1) 1 h := by
  obtain ⟨i1, i2, i3, i4⟩ := hI
  refine ⟨i1, i2, fun r' h1 h4 hR => ?_, fun p' h1 h2 => absurd h1 (by omega)⟩
  by_cases he : r' = r
  · subst he
    obtain ⟨p, g1, g2, g3⟩ := hR
    exact i4 p g1 g2 g3
  · exact i3 r' (by omega) h4 hR
theorem wy_rd {g : Nat → Int32} {to t : Nat} {h : Nat → Int32} (hI : wy_I g to t 4 1 h) : wy_I g to (t + 1) 0 1 h := by
  obtain ⟨i1, i2, i3, i4⟩ := hI
  refine ⟨i1, fun r hr n hn hR => ?_, fun r' h1 => absurd h1 (Nat.not_lt_zero _), fun p' h1 h2 => absurd h1 (by omega)⟩
  by_cases he : n = t + 1
  · subst he
    have := i3 r hr hr hR
    omega
  · exact i2 r hr n (by omega) hR
theorem wy_rl {g : Nat → Int32} {to t r p : Nat} {h h' : Nat → Int32} {n : Int} (hr : r < 4) (hp : 1 ≤ p) (hp8 : p < 8) (hI : wy_I g to t r p h) (h1 : ∀ j, j ≠ r → h' j = h j) (h2 : (h' r).toInt = if n < (h r).toInt then n else (h r).toInt)
    (hn : (wy_o g (8 * r + p) = 32 + (to : Int) ∧ n = 1) ∨ (0 ≤ wy_o g (8 * r + p) ∧ wy_o g (8 * r + p) < 32 ∧ n = (h ((wy_o g (8 * r + p)).toNat / 8)).toInt + 1) ∨ (¬ wy_o g (8 * r + p) = 32 + (to : Int) ∧ ¬ (0 ≤ wy_o g (8 * r + p) ∧ wy_o g (8 * r + p) < 32) ∧ n = 99)) : wy_I g to t r (p + 1) h' := by
  obtain ⟨i1, i2, i3, i4⟩ := hI
  have hle : ∀ j, (h' j).toInt ≤ (h j).toInt := by
    intro j
    by_cases he : j = r
    · subst he
      rw [h2]
      split <;> omega
    · rw [h1 j he]
      exact Int.le_refl _
  have hln : (h' r).toInt ≤ n := by
    rw [h2]
    split <;> omega
  refine ⟨fun j hj => ?_, fun j hj m hm hR => Int.le_trans (hle j) (i2 j hj m hm hR), fun j hj h4 hR => Int.le_trans (hle j) (i3 j hj h4 hR), fun p' g1 g2 g3 => ?_⟩
  · by_cases he : j = r
    · subst he
      obtain ⟨s1, s2, s3⟩ := i1 j hj
      rw [h2]
      split
      · rename_i hlt
        rcases hn with ⟨n1, n2⟩ | ⟨n1, n2, n3⟩ | ⟨n1, n2, n3⟩
        · subst n2
          exact ⟨by decide, by decide, fun _ => ⟨p, hp, hp8, Or.inl n1⟩⟩
        · obtain ⟨q1, q2, q3⟩ := i1 ((wy_o g (8 * j + p)).toNat / 8) (by omega)
          refine ⟨by omega, by omega, fun _ => ?_⟩
          have e : n.toNat = (h ((wy_o g (8 * j + p)).toNat / 8)).toInt.toNat + 1 := by omega
          rw [e]
          exact ⟨p, hp, hp8, Or.inr ⟨n1, n2, q3 (by omega)⟩⟩
        · omega
      · exact ⟨s1, s2, s3⟩
    · rw [h1 j he]
      exact i1 j hj
  · by_cases he : p' = p
    · subst he
      rcases g3 with g3 | ⟨g3, g4, g5⟩
      · rcases hn with ⟨n1, n2⟩ | ⟨n1, n2, n3⟩ | ⟨n1, n2, n3⟩
        · omega
        · omega
        · exact absurd g3 n1
      · rcases hn with ⟨n1, n2⟩ | ⟨n1, n2, n3⟩ | ⟨n1, n2, n3⟩
        · omega
        · have := i2 _ (by omega) t (Nat.le_refl t) g5
          omega
        · exact absurd ⟨g3, g4⟩ n2
    · exact Int.le_trans (hle r) (i4 p' g1 (by omega) g3)
section RMH
variable {cI c1 c2 c3 c4 c5 : ClassId} {ad : Nat → Nat} {G : Nat → Option Nat} {L : List Nat} {X : Int} {f : Nat → va_E}
/-- a place of the row hops is set -/
theorem rm_hset (hT : rm_TY cI c1 c2 c3 c4 c5 ad G X L f) {aT j : Nat} {g : Nat → Int32} {x : Int32} (t2 : G aT = some 33) (eT : f aT = .inl (cI, 4, .inl g)) (tT : ∀ i, i < 4 → rk_has G X (rk_E ad 33 i) (.int (g i))) (hx : rk_has G X (rk_E ad 33 j) (.int x)) : rm_TY cI c1 c2 c3 c4 c5 ad G X L (va_up f aT (.inl (cI, 4, .inl (upd g j x)))) ∧ rm_Lv G 1 f (va_up f aT (.inl (cI, 4, .inl (upd g j x)))) := by
  refine ⟨rk_TY_up hT t2 ?_, (rm_LvOk G).2.2.2 1 f f aT 33 _ j j rfl t2 (Or.inr (Or.inl ⟨cI, 4, g, upd g j x, eT, rfl, fun i hi => pk_un (by omega)⟩)) (rm_lv_rf 1)⟩
  refine ⟨cI, _, rfl, rfl, fun i hi => ?_⟩
  by_cases hij : i = j
  · subst hij
    rw [pk_us]
    exact hx
  · rw [pk_un hij]
    exact tT i hi
end RMH
def rv_t_X12_laysHops : rv_T := (.branch 0 (.branch 0 (.branch 0 (.branch 0 (.branch 0 (.branch 0 (.branch 0 (.leaf (0, .iconst 0, 1)) (.leaf (64, .if_icmp .ne (7), 3))) (.leaf (32, .if_icmp .ge (101), 3))) (.branch 0 (.leaf (80, .if_icmp .ge (18), 3)) (.leaf (48, .iload_n 3, 1)))) (.branch 0 (.branch 0 (.branch 0 (.branch 0 (.leaf (8, .getfield 23, 3)) (.leaf (136, .goto (-113), 3))) (.leaf (99999, .nop, 1))) (.branch 0 (.leaf (40, .bipush (8), 2)) (.leaf (104, .aload_n 0, 1)))) (.branch 0 (.leaf (24, .iconst 4, 1)) (.branch 0 (.leaf (56, .istore 5, 2)) (.leaf (120, .iastore, 1)))))) (.branch 0 (.branch 0 (.branch 0 (.branch 0 (.leaf (4, .if_icmp .ge (17), 3)) (.leaf (68, .goto (32), 3))) (.branch 0 (.leaf (36, .istore 4, 2)) (.leaf (100, .istore 6, 2)))) (.branch 0 (.leaf (84, .getfield 23, 3)) (.leaf (52, .iadd, 1)))) (.branch 0 (.branch 0 (.branch 0 (.leaf (12, .bipush (99), 2)) (.leaf (76, .iload 5, 2))) (.leaf (108, .iload_n 3, 1))) (.branch 0 (.branch 0 (.leaf (28, .iconst 0, 1)) (.leaf (92, .iaload, 1))) (.branch 0 (.leaf (60, .bipush (32), 2)) (.leaf (124, .goto (-86), 3))))))) (.branch 0 (.branch 0 (.branch 0 (.branch 0 (.branch 0 (.branch 0 (.leaf (2, .iload_n 2, 1)) (.leaf (130, .goto (-100), 3))) (.leaf (99999, .nop, 1))) (.leaf (98, .bipush (99), 2))) (.branch 0 (.leaf (18, .goto (-16), 3)) (.branch 0 (.leaf (50, .iload 4, 2)) (.leaf (114, .getfield 23, 3))))) (.branch 0 (.leaf (42, .if_icmp .ge (85), 3)) (.leaf (58, .iload 5, 2)))) (.branch 0 (.branch 0 (.branch 0 (.leaf (99999, .nop, 1)) (.branch 0 (.leaf (38, .iload 4, 2)) (.leaf (102, .iload 6, 2)))) (.branch 0 (.leaf (22, .istore_n 2, 1)) (.leaf (118, .iload 6, 2)))) (.branch 0 (.branch 0 (.branch 0 (.leaf (14, .iastore, 1)) (.leaf (78, .bipush (32), 2))) (.branch 0 (.leaf (46, .bipush (8), 2)) (.leaf (110, .if_icmp .ge (11), 3)))) (.branch 0 (.branch 0 (.leaf (30, .iload_n 3, 1)) (.leaf (94, .iadd, 1))) (.leaf (62, .iload_n 1, 1))))))) (.branch 0 (.branch 0 (.branch 0 (.branch 0 (.leaf (1, .istore_n 2, 1)) (.branch 0 (.leaf (99999, .nop, 1)) (.branch 0 (.leaf (49, .imul, 1)) (.leaf (113, .aload_n 0, 1))))) (.branch 0 (.branch 0 (.leaf (73, .ifCond .lt (25), 3)) (.leaf (105, .getfield 23, 3))) (.branch 0 (.branch 0 (.leaf (25, .if_icmp .ge (114), 3)) (.leaf (89, .bipush (8), 2))) (.leaf (121, .iinc 4 (1), 3))))) (.branch 0 (.branch 0 (.leaf (133, .iinc 2 (1), 3)) (.branch 0 (.leaf (21, .iconst 0, 1)) (.branch 0 (.leaf (53, .invokevirtual 97, 3)) (.leaf (117, .iload_n 3, 1))))) (.branch 0 (.branch 0 (.leaf (99999, .nop, 1)) (.branch 0 (.leaf (45, .aload_n 0, 1)) (.leaf (109, .iaload, 1)))) (.branch 0 (.branch 0 (.leaf (29, .istore_n 3, 1)) (.leaf (93, .iconst 1, 1))) (.leaf (99999, .nop, 1)))))) (.branch 0 (.branch 0 (.branch 0 (.branch 0 (.branch 0 (.leaf (3, .iconst 4, 1)) (.leaf (67, .iconst 1, 1))) (.leaf (35, .iconst 1, 1))) (.leaf (83, .aload_n 0, 1))) (.branch 0 (.branch 0 (.branch 0 (.branch 0 (.leaf (11, .iload_n 2, 1)) (.leaf (139, .return_, 1))) (.leaf (99999, .nop, 1))) (.leaf (99999, .nop, 1))) (.leaf (91, .idiv, 1)))) (.branch 0 (.branch 0 (.branch 0 (.branch 0 (.leaf (7, .aload_n 0, 1)) (.leaf (71, .iload 5, 2))) (.leaf (99999, .nop, 1))) (.branch 0 (.branch 0 (.leaf (23, .iload_n 2, 1)) (.leaf (87, .iload 5, 2))) (.leaf (99999, .nop, 1)))) (.branch 0 (.leaf (15, .iinc 2 (1), 3)) (.branch 0 (.branch 0 (.leaf (31, .iconst 4, 1)) (.leaf (95, .goto (5), 3))) (.branch 0 (.leaf (63, .iadd, 1)) (.leaf (127, .iinc 3 (1), 3)))))))))
theorem rv_k_X12_laysHops : rv_tok cX12_laysHops rv_t_X12_laysHops = true := by decide +kernel
section RMX
variable (base : Nat) (l : Launch) (cI c1 c2 c3 c4 c5 : ClassId) (D : va_G) (ad adV : Nat → Nat)
theorem h_laysHops (a0 : Nat) (y : Int32) (tn : Nat) (hy : y.toInt = (tn : Int)) (htn : tn < 8) : rm_Hm base l cI c1 c2 c3 c4 c5 D ad adV rk_q_X12_laysHops [.ref a0, .int y] (fun G _ f => G a0 = some 12) (fun G _ f v u => v = none ∧ rm_now G u a0 = rm_now G f a0 ∧ wy_FX (rm_now G f a0) tn (rm_rw G u a0 10 33)) 0 1 := by
  unfold rm_Hm
  refine rm_start (M := rk_q_X12_laysHops) (rk_hNw base ad adV) (rk_hNc base ad adV) (by decide +kernel) (mt := rk_mt [rk_q_X12_otherOf]) (ml := rk_mlf [(97, 0, 2, 12)]) (fl := rk_flf rk_ftX12) (fun s args h hN => rk_MlOk_of (List.forall_mem_cons.mpr ⟨rk_mck_ok (fun w hw => List.mem_cons_of_mem _ hw) h hN rk_cm_X12_otherOf rk_lk_X12_97, fun _ h => absurd h List.not_mem_nil⟩) (by decide +kernel)) (fun s args h hN => rk_flX12 (fun w hw => List.mem_cons_of_mem _ hw) h hN) (rm_cat1 rfl) (Nat.le_of_ble_eq_true rfl) ?_
  intro p e st m below meth c G X L f0 A hC hh hX0 hXC hT hpre
  have hcs : 0 ≤ 0 ∧ 0 ≤ 0 := ⟨Nat.le_refl 0, Nat.le_refl 0⟩
  have hG : G a0 = some 12 := hpre
  obtain ⟨hL0, fs, aN, aA, aT, aH, aI, e1, e2, ⟨n1, n2⟩, -, -, ⟨t1, t2⟩, -⟩ := rm_me hT hG
  obtain ⟨hLH, h0, eH, tH⟩ := rm_ro hT t2 rfl
  obtain ⟨hLN, gN, eN, -⟩ := rm_ro hT n2 rfl
  have hT0 := hT
  have hne : a0 ≠ aH := fun h => by rw [h, t2] at hG; cases hG
  have hnN : aN ≠ aH := fun h => by rw [h, t2] at n2; cases n2
  have nowE : ∀ f : Nat → va_E, (∀ b, b ≠ aH → f b = f0 b) → rm_now G f a0 = rm_now G f0 a0 := fun f hfb => rm_rw_ne hT0 hfb hne hnN e1 n1 n2 eN
  generalize hg : rm_now G f0 a0 = g at nowE
  have w33 : ∀ (h : Nat → Int32) (f : Nat → va_E), rm_TY cI c1 c2 c3 c4 c5 ad G X L f → f aH = .inl (cI, 4, .inl h) → ∀ i, i < 4 → rk_has G X (rk_E ad 33 i) (.int (h i)) := by
    intro h f hT hf
    obtain ⟨-, h9, e9, t9⟩ := rm_ro hT t2 rfl
    rw [hf] at e9
    cases e9
    exact t9
  have pl : ∀ (d : Nat) (t r p9 : Int32) (tt rn pn : Nat) (h : Nat → Int32) (f : Nat → va_E) (H : Heap) (locs : List Loc), (∀ (h : Nat → Int32) (f : Nat → va_E) (H : Heap) (locs : List Loc), rm_h D A st L f H locs → rm_TY cI c1 c2 c3 c4 c5 ad G X L f → (∀ b, b ≠ aH → f b = f0 b) → f aH = .inl (cI, 4, .inl h) → rm_Lv G 1 f0 f → wy_I g tn tt rn 8 h → rv_G p l e { frames := rk_q_X12_laysHops.2.2.2.2.1, cells := 0, slots := 0, locals := rk_q_X12_laysHops.2.2.2.2.2 } st m ([.ref a0, .int y] : List Value).toArray below meth c (MQ below (rk_Q (fun v u => rm_TY cI c1 c2 c3 c4 c5 ad G (X + 0) L u ∧ rm_Lv G 1 f0 u ∧ (fun G _ f v u => v = none ∧ rm_now G u a0 = rm_now G f a0 ∧ wy_FX (rm_now G f a0) tn (rm_rw G u a0 10 33)) G X f0 v u) (rk_B D (rk_tys cI c1 c2 c3 c4 c5) L A) A) ([.ref a0, .int y] : List Value).toArray st 0 0 A) rk_q_X12_laysHops.2.2.1 0 0 H locs 127 [] [(0, .ref a0), (1, .int y), (2, .int t), (3, .int r)]) → rm_h D A st L f H locs → rm_TY cI c1 c2 c3 c4 c5 ad G X L f → (∀ b, b ≠ aH → f b = f0 b) → f aH = .inl (cI, 4, .inl h) → rm_Lv G 1 f0 f → wy_I g tn tt rn pn h → r.toInt = (rn : Int) → rn < 4 → p9.toInt = (pn : Int) → 1 ≤ pn → pn + d = 8 → rv_G p l e { frames := rk_q_X12_laysHops.2.2.2.2.1, cells := 0, slots := 0, locals := rk_q_X12_laysHops.2.2.2.2.2 } st m ([.ref a0, .int y] : List Value).toArray below meth c (MQ below (rk_Q (fun v u => rm_TY cI c1 c2 c3 c4 c5 ad G (X + 0) L u ∧ rm_Lv G 1 f0 u ∧ (fun G _ f v u => v = none ∧ rm_now G u a0 = rm_now G f a0 ∧ wy_FX (rm_now G f a0) tn (rm_rw G u a0 10 33)) G X f0 v u) (rk_B D (rk_tys cI c1 c2 c3 c4 c5) L A) A) ([.ref a0, .int y] : List Value).toArray st 0 0 A) rk_q_X12_laysHops.2.2.1 0 0 H locs 38 [] [(0, .ref a0), (1, .int y), (2, .int t), (3, .int r), (4, .int p9)] := by
    intro d
    induction d with
    | zero =>
      intro t r p9 tt rn pn h f H locs kk hh hT hfb hf hLt hI hr hrn hp hp1 hd
      refine rv_run hC.1 hC.2.1 (T := rv_t_X12_laysHops) rv_k_X12_laysHops 3 ?_
      refine ⟨fun _ => ?_, fun h => absurd h (by show ¬ p9.toInt < 8; omega)⟩
      refine rv_take 4 ?_
      have e8 : pn = 8 := by omega
      subst e8
      exact kk h f H locs hh hT hfb hf hLt hI
    | succ d ih =>
      intro t r p9 tt rn pn h f H locs kk hh hT hfb hf hLt hI hr hrn hp hp1 hd
      have e8 := rm_mu (x := (Int8.ofInt 8).toInt32) (y := r) (a := 8) (b := 4) rfl (by decide) (by omega) (by decide)
      have e9 := rm_ad (y := p9) e8 hp (by omega) (by omega)
      have hs : ((Int8.ofInt 8).toInt32 * r + p9).toInt = ((8 * rn + pn : Nat) : Int) := by rw [e9]; omega
      have ey := rm_ad (x := (Int8.ofInt 32).toInt32) (y := y) (a := 32) rfl hy (by omega) (by omega)
      have ep := rm_ad (x := p9) hp rm_e1 (by omega) (by decide)
      have th := w33 h f hT hf
      refine rv_run hC.1 hC.2.1 (T := rv_t_X12_laysHops) rv_k_X12_laysHops 3 ?_
      refine ⟨fun h => absurd h (by show ¬ 8 ≤ p9.toInt; omega), fun _ => ?_⟩
      refine rv_run hC.1 hC.2.1 (T := rv_t_X12_laysHops) rv_k_X12_laysHops 80 ?_
      refine w_h hC hh hT hG (by omega) (by omega) 97 (by decide +kernel) rfl (h_otherOf base l cI c1 c2 c3 c4 c5 D ad adV a0 _ (8 * rn + pn) hs (by omega)) hG rfl rfl (Nat.le_of_ble_eq_true rfl) hcs (fun v f1 H locs hh1 hT1 hL hP => ?_)
      obtain ⟨⟨o, rfl, ho⟩, hu⟩ := hP
      subst hu
      have hh := hh1
      have hT := hT1
      clear hh1 hT1 hL
      rw [Int.add_zero] at hT
      rw [nowE f1 hfb] at ho
      have ho : o.toInt = wy_o g (8 * rn + pn) := ho
      have t121 : ∀ (n : Int32) (h' : Nat → Int32) (f : Nat → va_E) (H : Heap) (locs : List Loc), rm_h D A st L f H locs → rm_TY cI c1 c2 c3 c4 c5 ad G X L f → (∀ b, b ≠ aH → f b = f0 b) → f aH = .inl (cI, 4, .inl h') → rm_Lv G 1 f0 f → wy_I g tn tt rn (pn + 1) h' → rv_G p l e { frames := rk_q_X12_laysHops.2.2.2.2.1, cells := 0, slots := 0, locals := rk_q_X12_laysHops.2.2.2.2.2 } st m ([.ref a0, .int y] : List Value).toArray below meth c (MQ below (rk_Q (fun v u => rm_TY cI c1 c2 c3 c4 c5 ad G (X + 0) L u ∧ rm_Lv G 1 f0 u ∧ (fun G _ f v u => v = none ∧ rm_now G u a0 = rm_now G f a0 ∧ wy_FX (rm_now G f a0) tn (rm_rw G u a0 10 33)) G X f0 v u) (rk_B D (rk_tys cI c1 c2 c3 c4 c5) L A) A) ([.ref a0, .int y] : List Value).toArray st 0 0 A) rk_q_X12_laysHops.2.2.1 0 0 H locs 121 [] [(0, .ref a0), (1, .int y), (2, .int t), (3, .int r), (4, .int p9), (5, .int o), (6, .int n)] := by
        intro n h' f H locs hh hT hfb hf hLt hI
        refine rv_run hC.1 hC.2.1 (T := rv_t_X12_laysHops) rv_k_X12_laysHops 2 ?_
        refine rv_take 5 ?_
        exact ih t r (p9 + Int32.ofInt 1) tt rn (pn + 1) h' f H locs kk hh hT hfb hf hLt hI hr hrn (by rw [ep]; omega) (by omega) (by omega)
      have t100 : ∀ (n : Int32), ((wy_o g (8 * rn + pn) = 32 + (tn : Int) ∧ n.toInt = 1) ∨ (0 ≤ wy_o g (8 * rn + pn) ∧ wy_o g (8 * rn + pn) < 32 ∧ n.toInt = (h ((wy_o g (8 * rn + pn)).toNat / 8)).toInt + 1) ∨ (¬ wy_o g (8 * rn + pn) = 32 + (tn : Int) ∧ ¬ (0 ≤ wy_o g (8 * rn + pn) ∧ wy_o g (8 * rn + pn) < 32) ∧ n.toInt = 99)) → rv_G p l e { frames := rk_q_X12_laysHops.2.2.2.2.1, cells := 0, slots := 0, locals := rk_q_X12_laysHops.2.2.2.2.2 } st m ([.ref a0, .int y] : List Value).toArray below meth c (MQ below (rk_Q (fun v u => rm_TY cI c1 c2 c3 c4 c5 ad G (X + 0) L u ∧ rm_Lv G 1 f0 u ∧ (fun G _ f v u => v = none ∧ rm_now G u a0 = rm_now G f a0 ∧ wy_FX (rm_now G f a0) tn (rm_rw G u a0 10 33)) G X f0 v u) (rk_B D (rk_tys cI c1 c2 c3 c4 c5) L A) A) ([.ref a0, .int y] : List Value).toArray st 0 0 A) rk_q_X12_laysHops.2.2.1 0 0 H locs 100 [.int n] [(0, .ref a0), (1, .int y), (2, .int t), (3, .int r), (4, .int p9), (5, .int o)] := by
        intro n hn
        have hrl := hI.1 rn hrn
        have hn1 : 1 ≤ n.toInt := by
          rcases hn with ⟨-, q⟩ | ⟨q1, q2, q⟩ | ⟨-, -, q⟩
          · omega
          · have := (hI.1 ((wy_o g (8 * rn + pn)).toNat / 8) (by omega)).1
            omega
          · omega
        refine rv_run hC.1 hC.2.1 (T := rv_t_X12_laysHops) rv_k_X12_laysHops 80 ?_
        refine rm_get (idx := 23) hC hh (by decide +kernel) rfl hL0 (by rw [hfb a0 hne]; exact e1) t1 ?_
        refine rv_run hC.1 hC.2.1 (T := rv_t_X12_laysHops) rv_k_X12_laysHops 1 ?_
        refine rm_iald hC hh (by decide +kernel) hLH hf rfl (by omega) (by omega) ?_
        rw [rm_clamp hr]
        refine rv_run hC.1 hC.2.1 (T := rv_t_X12_laysHops) rv_k_X12_laysHops 1 ?_
        refine ⟨fun hge => ?_, fun hlt => ?_⟩
        · have hge : (h rn).toInt ≤ n.toInt := hge
          exact t121 n h f1 H locs hh hT hfb hf hLt (wy_rl hrn hp1 (by omega) hI (fun _ _ => rfl) (by rw [if_neg (by omega)]) hn)
        · have hlt : n.toInt < (h rn).toInt := hlt
          refine rv_run hC.1 hC.2.1 (T := rv_t_X12_laysHops) rv_k_X12_laysHops 80 ?_
          refine rm_get (idx := 23) hC hh (by decide +kernel) rfl hL0 (by rw [hfb a0 hne]; exact e1) t1 ?_
          refine rv_run hC.1 hC.2.1 (T := rv_t_X12_laysHops) rv_k_X12_laysHops 80 ?_
          refine rm_iast hC hh (by decide +kernel) hLH hf rfl (by omega) (by omega) (fun H locs hh => ?_)
          rw [rm_clamp hr] at hh
          obtain ⟨hT, hL⟩ := rm_hset (j := rn) (x := n) hT t2 hf th ⟨_, rfl, by omega, by omega⟩
          exact t121 n (upd h rn n) _ H locs hh hT (fun b hb => by rw [va_up_ne _ _ hb]; exact hfb b hb) (va_up_self _ _ _) (rm_lv_tr (k := 1) hLt hL rfl rfl) (wy_rl hrn hp1 (by omega) hI (fun j hj => pk_un hj) (by rw [pk_us, if_pos hlt]) hn)
      refine rv_run hC.1 hC.2.1 (T := rv_t_X12_laysHops) rv_k_X12_laysHops 6 ?_
      refine ⟨fun hq => ?_, fun hq => ?_⟩
      · have hq : ¬ o.toInt = ((Int8.ofInt 32).toInt32 + y).toInt := hq
        have t98 : ¬ (0 ≤ wy_o g (8 * rn + pn) ∧ wy_o g (8 * rn + pn) < 32) → rv_G p l e { frames := rk_q_X12_laysHops.2.2.2.2.1, cells := 0, slots := 0, locals := rk_q_X12_laysHops.2.2.2.2.2 } st m ([.ref a0, .int y] : List Value).toArray below meth c (MQ below (rk_Q (fun v u => rm_TY cI c1 c2 c3 c4 c5 ad G (X + 0) L u ∧ rm_Lv G 1 f0 u ∧ (fun G _ f v u => v = none ∧ rm_now G u a0 = rm_now G f a0 ∧ wy_FX (rm_now G f a0) tn (rm_rw G u a0 10 33)) G X f0 v u) (rk_B D (rk_tys cI c1 c2 c3 c4 c5) L A) A) ([.ref a0, .int y] : List Value).toArray st 0 0 A) rk_q_X12_laysHops.2.2.1 0 0 H locs 98 [] [(0, .ref a0), (1, .int y), (2, .int t), (3, .int r), (4, .int p9), (5, .int o)] := by
          intro hn
          refine rv_run hC.1 hC.2.1 (T := rv_t_X12_laysHops) rv_k_X12_laysHops 1 ?_
          exact t100 _ (Or.inr (Or.inr ⟨by omega, hn, rfl⟩))
        refine rv_run hC.1 hC.2.1 (T := rv_t_X12_laysHops) rv_k_X12_laysHops 2 ?_
        refine ⟨fun h9 => ?_, fun h9 => ?_⟩
        · have h9 : o.toInt < 0 := h9
          exact t98 (by omega)
        have h9 : 0 ≤ o.toInt := h9
        refine rv_run hC.1 hC.2.1 (T := rv_t_X12_laysHops) rv_k_X12_laysHops 3 ?_
        refine ⟨fun h9 => ?_, fun h10 => ?_⟩
        · have h9 : 32 ≤ o.toInt := h9
          exact t98 (by omega)
        have h10 : o.toInt < 32 := h10
        have ed : (o / (Int8.ofInt 8).toInt32).toInt = (((wy_o g (8 * rn + pn)).toNat / 8 : Nat) : Int) := by
          rw [rk_div_e (by omega) (by decide)]
          show o.toInt / 8 = _
          omega
        have hl4 : (wy_o g (8 * rn + pn)).toNat / 8 < 4 := by omega
        obtain ⟨q1, q2, -⟩ := hI.1 _ hl4
        refine rv_run hC.1 hC.2.1 (T := rv_t_X12_laysHops) rv_k_X12_laysHops 80 ?_
        refine rm_get (idx := 23) hC hh (by decide +kernel) rfl hL0 (by rw [hfb a0 hne]; exact e1) t1 ?_
        refine rv_run hC.1 hC.2.1 (T := rv_t_X12_laysHops) rv_k_X12_laysHops 80 ?_
        refine ⟨by decide, ?_⟩
        refine rm_iald hC hh (by decide +kernel) hLH hf rfl (by omega) (by omega) ?_
        rw [rm_clamp ed]
        have en := rm_ad (x := h ((wy_o g (8 * rn + pn)).toNat / 8)) rfl rm_e1 (by omega) (by decide)
        refine rv_run hC.1 hC.2.1 (T := rv_t_X12_laysHops) rv_k_X12_laysHops 3 ?_
        exact t100 _ (Or.inr (Or.inl ⟨by omega, by omega, en⟩))
      · have hq : o.toInt = ((Int8.ofInt 32).toInt32 + y).toInt := hq
        refine rv_run hC.1 hC.2.1 (T := rv_t_X12_laysHops) rv_k_X12_laysHops 2 ?_
        exact t100 _ (Or.inl ⟨by omega, rfl⟩)
  have rl : ∀ (d : Nat) (t r : Int32) (tt rn : Nat) (h : Nat → Int32) (f : Nat → va_E) (H : Heap) (locs : List Loc), (∀ (h : Nat → Int32) (f : Nat → va_E) (H : Heap) (locs : List Loc), rm_h D A st L f H locs → rm_TY cI c1 c2 c3 c4 c5 ad G X L f → (∀ b, b ≠ aH → f b = f0 b) → f aH = .inl (cI, 4, .inl h) → rm_Lv G 1 f0 f → wy_I g tn tt 4 1 h → rv_G p l e { frames := rk_q_X12_laysHops.2.2.2.2.1, cells := 0, slots := 0, locals := rk_q_X12_laysHops.2.2.2.2.2 } st m ([.ref a0, .int y] : List Value).toArray below meth c (MQ below (rk_Q (fun v u => rm_TY cI c1 c2 c3 c4 c5 ad G (X + 0) L u ∧ rm_Lv G 1 f0 u ∧ (fun G _ f v u => v = none ∧ rm_now G u a0 = rm_now G f a0 ∧ wy_FX (rm_now G f a0) tn (rm_rw G u a0 10 33)) G X f0 v u) (rk_B D (rk_tys cI c1 c2 c3 c4 c5) L A) A) ([.ref a0, .int y] : List Value).toArray st 0 0 A) rk_q_X12_laysHops.2.2.1 0 0 H locs 133 [] [(0, .ref a0), (1, .int y), (2, .int t)]) → rm_h D A st L f H locs → rm_TY cI c1 c2 c3 c4 c5 ad G X L f → (∀ b, b ≠ aH → f b = f0 b) → f aH = .inl (cI, 4, .inl h) → rm_Lv G 1 f0 f → wy_I g tn tt rn 1 h → r.toInt = (rn : Int) → rn + d = 4 → rv_G p l e { frames := rk_q_X12_laysHops.2.2.2.2.1, cells := 0, slots := 0, locals := rk_q_X12_laysHops.2.2.2.2.2 } st m ([.ref a0, .int y] : List Value).toArray below meth c (MQ below (rk_Q (fun v u => rm_TY cI c1 c2 c3 c4 c5 ad G (X + 0) L u ∧ rm_Lv G 1 f0 u ∧ (fun G _ f v u => v = none ∧ rm_now G u a0 = rm_now G f a0 ∧ wy_FX (rm_now G f a0) tn (rm_rw G u a0 10 33)) G X f0 v u) (rk_B D (rk_tys cI c1 c2 c3 c4 c5) L A) A) ([.ref a0, .int y] : List Value).toArray st 0 0 A) rk_q_X12_laysHops.2.2.1 0 0 H locs 30 [] [(0, .ref a0), (1, .int y), (2, .int t), (3, .int r)] := by
    intro d
    induction d with
    | zero =>
      intro t r tt rn h f H locs kk hh hT hfb hf hLt hI hr hd
      refine rv_run hC.1 hC.2.1 (T := rv_t_X12_laysHops) rv_k_X12_laysHops 3 ?_
      refine ⟨fun _ => ?_, fun h => absurd h (by show ¬ r.toInt < 4; omega)⟩
      refine rv_take 3 ?_
      have e8 : rn = 4 := by omega
      subst e8
      exact kk h f H locs hh hT hfb hf hLt hI
    | succ d ih =>
      intro t r tt rn h f H locs kk hh hT hfb hf hLt hI hr hd
      have ep := rm_ad (x := r) hr rm_e1 (by omega) (by decide)
      refine rv_run hC.1 hC.2.1 (T := rv_t_X12_laysHops) rv_k_X12_laysHops 3 ?_
      refine ⟨fun h => absurd h (by show ¬ 4 ≤ r.toInt; omega), fun _ => ?_⟩
      refine rv_run hC.1 hC.2.1 (T := rv_t_X12_laysHops) rv_k_X12_laysHops 2 ?_
      refine pl 7 t r _ tt rn 1 h f H locs (fun h f H locs hh hT hfb hf hLt hI => ?_) hh hT hfb hf hLt hI hr (by omega) rfl (by decide) rfl
      refine rv_run hC.1 hC.2.1 (T := rv_t_X12_laysHops) rv_k_X12_laysHops 2 ?_
      exact ih t (r + Int32.ofInt 1) tt (rn + 1) h f H locs kk hh hT hfb hf hLt (wy_nx hI) (by rw [ep]; omega) (by omega)
  have tl : ∀ (d : Nat) (t : Int32) (tt : Nat) (h : Nat → Int32) (f : Nat → va_E) (H : Heap) (locs : List Loc), rm_h D A st L f H locs → rm_TY cI c1 c2 c3 c4 c5 ad G X L f → (∀ b, b ≠ aH → f b = f0 b) → f aH = .inl (cI, 4, .inl h) → rm_Lv G 1 f0 f → wy_I g tn tt 0 1 h → t.toInt = (tt : Int) → tt + d = 4 → rv_G p l e { frames := rk_q_X12_laysHops.2.2.2.2.1, cells := 0, slots := 0, locals := rk_q_X12_laysHops.2.2.2.2.2 } st m ([.ref a0, .int y] : List Value).toArray below meth c (MQ below (rk_Q (fun v u => rm_TY cI c1 c2 c3 c4 c5 ad G (X + 0) L u ∧ rm_Lv G 1 f0 u ∧ (fun G _ f v u => v = none ∧ rm_now G u a0 = rm_now G f a0 ∧ wy_FX (rm_now G f a0) tn (rm_rw G u a0 10 33)) G X f0 v u) (rk_B D (rk_tys cI c1 c2 c3 c4 c5) L A) A) ([.ref a0, .int y] : List Value).toArray st 0 0 A) rk_q_X12_laysHops.2.2.1 0 0 H locs 23 [] [(0, .ref a0), (1, .int y), (2, .int t)] := by
    intro d
    induction d with
    | zero =>
      intro t tt h f H locs hh hT hfb hf hLt hI ht hd
      refine rv_run hC.1 hC.2.1 (T := rv_t_X12_laysHops) rv_k_X12_laysHops 3 ?_
      refine ⟨fun _ => ?_, fun h => absurd h (by show ¬ t.toInt < 4; omega)⟩
      have e8 : tt = 4 := by omega
      subst e8
      refine rm_vret hC hh (by decide +kernel) rfl ⟨by rw [Int.add_zero]; exact hT, hLt, rfl, by rw [hg]; exact nowE f hfb, by rw [hg, rm_rw_of (a0 := a0) (by rw [hfb a0 hne]; exact e1) t1 t2 hf]; exact wy_fx hI.1 hI.2.1⟩
    | succ d ih =>
      intro t tt h f H locs hh hT hfb hf hLt hI ht hd
      have ep := rm_ad (x := t) ht rm_e1 (by omega) (by decide)
      refine rv_run hC.1 hC.2.1 (T := rv_t_X12_laysHops) rv_k_X12_laysHops 3 ?_
      refine ⟨fun h => absurd h (by show ¬ 4 ≤ t.toInt; omega), fun _ => ?_⟩
      refine rv_run hC.1 hC.2.1 (T := rv_t_X12_laysHops) rv_k_X12_laysHops 2 ?_
      refine rl 4 t _ tt 0 h f H locs (fun h f H locs hh hT hfb hf hLt hI => ?_) hh hT hfb hf hLt hI rfl rfl
      refine rv_run hC.1 hC.2.1 (T := rv_t_X12_laysHops) rv_k_X12_laysHops 2 ?_
      exact ih (t + Int32.ofInt 1) (tt + 1) h f H locs hh hT hfb hf hLt (wy_rd hI) (by rw [ep]; omega) (by omega)
  have fl : ∀ (d : Nat) (t : Int32) (tt : Nat) (h : Nat → Int32) (f : Nat → va_E) (H : Heap) (locs : List Loc), rm_h D A st L f H locs → rm_TY cI c1 c2 c3 c4 c5 ad G X L f → (∀ b, b ≠ aH → f b = f0 b) → f aH = .inl (cI, 4, .inl h) → rm_Lv G 1 f0 f → (∀ j, j < tt → (h j).toInt = 99) → t.toInt = (tt : Int) → tt + d = 4 → rv_G p l e { frames := rk_q_X12_laysHops.2.2.2.2.1, cells := 0, slots := 0, locals := rk_q_X12_laysHops.2.2.2.2.2 } st m ([.ref a0, .int y] : List Value).toArray below meth c (MQ below (rk_Q (fun v u => rm_TY cI c1 c2 c3 c4 c5 ad G (X + 0) L u ∧ rm_Lv G 1 f0 u ∧ (fun G _ f v u => v = none ∧ rm_now G u a0 = rm_now G f a0 ∧ wy_FX (rm_now G f a0) tn (rm_rw G u a0 10 33)) G X f0 v u) (rk_B D (rk_tys cI c1 c2 c3 c4 c5) L A) A) ([.ref a0, .int y] : List Value).toArray st 0 0 A) rk_q_X12_laysHops.2.2.1 0 0 H locs 2 [] [(0, .ref a0), (1, .int y), (2, .int t)] := by
    intro d
    induction d with
    | zero =>
      intro t tt h f H locs hh hT hfb hf hLt h9 ht hd
      refine rv_run hC.1 hC.2.1 (T := rv_t_X12_laysHops) rv_k_X12_laysHops 3 ?_
      refine ⟨fun _ => ?_, fun h => absurd h (by show ¬ t.toInt < 4; omega)⟩
      refine rv_run hC.1 hC.2.1 (T := rv_t_X12_laysHops) rv_k_X12_laysHops 2 ?_
      refine tl 4 _ 0 h f H locs hh hT hfb hf hLt ⟨fun r hr => ?_, fun r hr n hn hR => ?_, fun r' h1 => absurd h1 (Nat.not_lt_zero _), fun p' h1 h2 => absurd h1 (by omega)⟩ rfl rfl
      · have := h9 r (by omega)
        exact ⟨by omega, by omega, fun h => absurd h (by omega)⟩
      · have e0 : n = 0 := by omega
        subst e0
        exact hR.elim
    | succ d ih =>
      intro t tt h f H locs hh hT hfb hf hLt h9 ht hd
      have ep := rm_ad (x := t) ht rm_e1 (by omega) (by decide)
      refine rv_run hC.1 hC.2.1 (T := rv_t_X12_laysHops) rv_k_X12_laysHops 3 ?_
      refine ⟨fun h => absurd h (by show ¬ 4 ≤ t.toInt; omega), fun _ => ?_⟩
      refine rv_run hC.1 hC.2.1 (T := rv_t_X12_laysHops) rv_k_X12_laysHops 80 ?_
      refine rm_get (idx := 23) hC hh (by decide +kernel) rfl hL0 (by rw [hfb a0 hne]; exact e1) t1 ?_
      refine rv_run hC.1 hC.2.1 (T := rv_t_X12_laysHops) rv_k_X12_laysHops 80 ?_
      refine rm_iast hC hh (by decide +kernel) hLH hf rfl (by omega) (by omega) (fun H locs hh => ?_)
      rw [rm_clamp ht] at hh
      obtain ⟨hT, hL⟩ := rm_hset (j := tt) (x := (Int8.ofInt 99).toInt32) hT t2 hf (w33 h f hT hf) ⟨_, rfl, by decide, by decide⟩
      refine rv_run hC.1 hC.2.1 (T := rv_t_X12_laysHops) rv_k_X12_laysHops 2 ?_
      refine ih (t + Int32.ofInt 1) (tt + 1) (upd h tt (Int8.ofInt 99).toInt32) _ H locs hh hT (fun b hb => by rw [va_up_ne _ _ hb]; exact hfb b hb) (va_up_self _ _ _) (rm_lv_tr (k := 1) hLt hL rfl rfl) (fun j hj => ?_) (by rw [ep]; omega) (by omega)
      by_cases hjt : j = tt
      · subst hjt
        rw [pk_us]
        rfl
      · rw [pk_un hjt]
        exact h9 j (by omega)
  refine rv_run hC.1 hC.2.1 (T := rv_t_X12_laysHops) rv_k_X12_laysHops 2 ?_
  exact fl 4 _ 0 h0 f0 _ _ hh hT (fun _ _ => rfl) eH (rm_lv_rf 1) (fun j hj => absurd hj (Nat.not_lt_zero _)) rfl rfl
end RMX
