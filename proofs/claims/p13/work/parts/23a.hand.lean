theorem rm_hI {G : Nat → Option Nat} {X : Int} {l : List rk_AV} {w : Nat} {x : Int32} {a b : Int} (h : l.getD w rk_full = (0, a, b)) (h1 : a ≤ x.toInt) (h2 : x.toInt ≤ b) : rk_has G X (l.getD w rk_full) (.int x) := by
  rw [h]
  exact ⟨x, rfl, h1, h2⟩
theorem rm_hF {G : Nat → Option Nat} {X : Int} {l : List rk_AV} {w : Nat} {x : Int32} (h : l.getD w rk_full = rk_full) : rk_has G X (l.getD w rk_full) (.int x) := by
  rw [h]
  exact rk_full_ok x
theorem rk_all_0 {G : Nat → Option Nat} {X : Int} : rk_all G X [] [] := ⟨rfl, fun i t v h => by simp at h⟩
theorem rk_all_c {G : Nat → Option Nat} {X : Int} {t : rk_AV} {ts : List rk_AV} {v : Value} {vs : List Value} (h : rk_has G X t v) (h2 : rk_all G X ts vs) : rk_all G X (t :: ts) (v :: vs) := by
  refine ⟨by simp [h2.1], fun i u w hu hw => ?_⟩
  rcases i with _ | i
  · simp only [List.getElem?_cons_zero, Option.some.injEq] at hu hw
    subst hu hw
    exact h
  · rw [List.getElem?_cons_succ] at hu hw
    exact h2.2 i u w hu hw
theorem rk_aI {G : Nat → Option Nat} {X : Int} {x : Int32} {a b : Int} (h : a ≤ x.toInt ∧ x.toInt ≤ b) : rk_has G X (0, a, b) (.int x) := ⟨x, rfl, h.1, h.2⟩
theorem rk_aF {G : Nat → Option Nat} {X : Int} {x : Int32} : rk_has G X (0, -2147483648, 2147483647) (.int x) := rk_full_ok x
theorem rk_aM {G : Nat → Option Nat} {X : Int} {a0 : Nat} (h : G a0 = some 12) : rk_has G X (2, 12, 0) (.ref a0) := ⟨a0, rfl, h⟩
theorem rm_mS_b : ∀ w, w < 64 → 26 ≤ w → rm_mS.getD w rk_full = (0, 0, 257) ∧ rm_RCw w = false := by decide +kernel
theorem rm_mD_q : ∀ w, w < 169 → 9 ≤ w → rm_mD.getD w rk_full = (0, 0, 257) ∧ Nat.beq w 8 = false ∧ Nat.beq w 0 = false := by decide +kernel
theorem rm_e0 : (Int32.ofInt 0).toInt = 0 := rfl
theorem rm_e1 : (Int32.ofInt 1).toInt = 1 := rfl
/-- a sum, a difference of small ones -/
theorem rm_ad {x y : Int32} {a b : Int} (hx : x.toInt = a) (hy : y.toInt = b) (h1 : -1000000 ≤ a ∧ a ≤ 1000000) (h2 : -1000000 ≤ b ∧ b ≤ 1000000) : (x + y).toInt = a + b := by
  rw [rk_add_e, hx, hy] <;> omega
theorem rm_su {x y : Int32} {a b : Int} (hx : x.toInt = a) (hy : y.toInt = b) (h1 : -1000000 ≤ a ∧ a ≤ 1000000) (h2 : -1000000 ≤ b ∧ b ≤ 1000000) : (x - y).toInt = a - b := by
  rw [rk_sub_e, hx, hy] <;> omega
section RMU
variable {cI c1 c2 c3 c4 c5 : ClassId} {ad : Nat → Nat} {G : Nat → Option Nat} {L : List Nat} {X : Int} {f : Nat → va_E} {a0 : Nat}
/-- the five numbers lie in their bounds -/
theorem rm_so_b (hT : rm_TY cI c1 c2 c3 c4 c5 ad G X L f) (hG : G a0 = some 12) {s : Nat} (hs : s < 40) {B S C T O : Int} (h : rm_so G f a0 s B S C T O) : (0 ≤ B ∧ B ≤ 25) ∧ (0 ≤ S ∧ S ≤ 24) ∧ (0 ≤ C ∧ C ≤ 1) ∧ (0 ≤ T ∧ T ≤ 5) ∧ (0 ≤ O ∧ O ≤ 40) := by
  obtain ⟨e1, e2, e3, e4, e5⟩ := h
  have b1 := rm_scT hT hG (w := 20) hs (by decide) rfl
  have b2 := rm_scT hT hG (w := 6) hs (by decide) rfl
  have b3 := rm_scT hT hG (w := 13) hs (by decide) rfl
  have b4 := rm_scT hT hG (w := 3) hs (by decide) rfl
  have b5 := rm_scT hT hG (w := 0) hs (by decide) rfl
  rw [e1] at b1
  rw [e2] at b2
  rw [e3] at b3
  rw [e4] at b4
  rw [e5] at b5
  exact ⟨b1, b2, b3, b4, b5⟩
end RMU
section RMQ
variable {G : Nat → Option Nat} {f0 f u w : Nat → va_E} {a0 sn : Nat}
/-- from f0 to f: the level, all sockets as they were, what the queue of an end holds -/
def rm_qs (G : Nat → Option Nat) (f0 f : Nat → va_E) (a0 sn : Nat) (q : Int) : Prop := rm_Lv G 15 f0 f ∧ rm_sE G f0 f a0 ∧ rm_ec (rm_now G f a0) sn 8 = q
theorem rm_qs_rf {q : Int} (h : rm_ec (rm_now G f a0) sn 8 = q) : rm_qs G f f a0 sn q := ⟨rm_lv_rf 15, fun _ _ _ _ => rfl, h⟩
theorem rm_sE_tr (h1 : rm_sE G f u a0) (h2 : rm_sE G u w a0) : rm_sE G f w a0 := fun t ht w hw => (h2 t ht w hw).trans (h1 t ht w hw)
theorem rm_qs_1 {q : Int} (h : rm_qs G f0 f a0 sn q) (hL : rm_Lv G 1 f u) (hG : G a0 = some 12) (hs : sn < 8) : rm_qs G f0 u a0 sn q := by
  obtain ⟨h1, h2, h3⟩ := h
  have hR : rm_RCE G f u := (rm_lvb hL (by decide) rfl : rm_Rb 1 G f u)
  refine ⟨rm_lv_tr h1 hL rfl rfl, rm_sE_tr h2 (rm_sE_of hR hG), ?_⟩
  rw [← h3]
  unfold rm_ec rm_now
  rw [hR a0 hG _ (rm_RC_q hs)]
theorem rm_qs_c {q q1 : Int} (h : rm_qs G f0 f a0 sn q) (h1 : rm_qs G f u a0 sn q1) : rm_qs G f0 u a0 sn q1 := ⟨rm_lv_tr h.1 h1.1 rfl rfl, rm_sE_tr h.2.1 h1.2.1, h1.2.2⟩
theorem rm_qs_8 {q : Int} {x : Int32} (h : rm_qs G f0 f a0 sn q) (hL : rm_Lv G 15 f u) (hset : ∀ i, rm_now G u a0 i = if i = 2860 + 427 * sn + 8 then x else rm_now G f a0 i) : rm_qs G f0 u a0 sn x.toInt := by
  obtain ⟨h1, h2, h3⟩ := h
  refine ⟨rm_lv_tr h1 hL rfl rfl, rm_sE_tr h2 (fun t ht w hw => ?_), ?_⟩
  · have hw64 : w < 64 := by
      unfold rm_RCw at hw
      simp only [Bool.or_eq_true, Nat.beq_eq] at hw
      omega
    unfold rm_sc
    rw [hset, if_neg (by omega)]
  · unfold rm_ec
    rw [hset, if_pos rfl]
end RMQ
def rv_t_X12_buffers : rv_T := (.branch 0 (.branch 0 (.branch 0 (.branch 0 (.branch 0 (.leaf (0, .aload_n 0, 1)) (.leaf (16, .aload_n 0, 1))) (.leaf (8, .invokevirtual 36, 3))) (.branch 0 (.branch 0 (.leaf (4, .aload_n 0, 1)) (.leaf (20, .invokevirtual 46, 3))) (.leaf (12, .iload_n 2, 1)))) (.branch 0 (.branch 0 (.branch 0 (.leaf (2, .bipush (26), 2)) (.leaf (18, .bipush (20), 2))) (.leaf (99999, .nop, 1))) (.leaf (6, .bipush (20), 2)))) (.branch 0 (.branch 0 (.branch 0 (.branch 0 (.leaf (1, .iload_n 1, 1)) (.leaf (17, .iload_n 1, 1))) (.leaf (99999, .nop, 1))) (.branch 0 (.leaf (5, .iload_n 1, 1)) (.leaf (13, .invokevirtual 42, 3)))) (.branch 0 (.leaf (11, .iadd, 1)) (.leaf (23, .return_, 1)))))
theorem rv_k_X12_buffers : rv_tok cX12_buffers rv_t_X12_buffers = true := by decide +kernel
def rv_t_X12_becomes : rv_T := (.branch 0 (.branch 0 (.branch 0 (.branch 0 (.branch 0 (.branch 0 (.leaf (0, .aload_n 0, 1)) (.leaf (32, .bipush (9), 2))) (.leaf (16, .bipush (7), 2))) (.branch 0 (.branch 0 (.leaf (8, .iload_n 1, 1)) (.leaf (40, .if_icmp .ne (9), 3))) (.leaf (24, .bipush (8), 2)))) (.branch 0 (.leaf (4, .invokevirtual 42, 3)) (.leaf (44, .iconst 0, 1)))) (.branch 0 (.branch 0 (.branch 0 (.branch 0 (.leaf (2, .iconst 3, 1)) (.leaf (34, .iconst 0, 1))) (.leaf (18, .iconst 0, 1))) (.branch 0 (.leaf (10, .iconst 0, 1)) (.leaf (26, .iconst 0, 1)))) (.branch 0 (.branch 0 (.leaf (38, .iload_n 2, 1)) (.leaf (22, .aload_n 0, 1))) (.branch 0 (.branch 0 (.leaf (14, .aload_n 0, 1)) (.leaf (46, .invokevirtual 56, 3))) (.leaf (30, .aload_n 0, 1)))))) (.branch 0 (.branch 0 (.branch 0 (.branch 0 (.leaf (1, .iload_n 1, 1)) (.leaf (49, .return_, 1))) (.leaf (9, .iconst 4, 1))) (.leaf (45, .iload_n 1, 1))) (.branch 0 (.branch 0 (.branch 0 (.branch 0 (.leaf (3, .iload_n 2, 1)) (.leaf (35, .invokevirtual 42, 3))) (.leaf (19, .invokevirtual 42, 3))) (.branch 0 (.branch 0 (.leaf (11, .invokevirtual 42, 3)) (.leaf (43, .aload_n 0, 1))) (.leaf (27, .invokevirtual 42, 3)))) (.branch 0 (.branch 0 (.branch 0 (.leaf (7, .aload_n 0, 1)) (.leaf (39, .iconst 5, 1))) (.leaf (23, .iload_n 1, 1))) (.branch 0 (.leaf (15, .iload_n 1, 1)) (.leaf (31, .iload_n 1, 1)))))))
theorem rv_k_X12_becomes : rv_tok cX12_becomes rv_t_X12_becomes = true := by decide +kernel
def rv_t_X12_takes : rv_T := (.branch 0 (.branch 0 (.branch 0 (.branch 0 (.branch 0 (.branch 0 (.branch 0 (.leaf (0, .aload_n 0, 1)) (.leaf (64, .iload_n 1, 1))) (.leaf (99999, .nop, 1))) (.branch 0 (.leaf (80, .ireturn, 1)) (.leaf (48, .iload_n 1, 1)))) (.leaf (8, .iconst 1, 1))) (.branch 0 (.branch 0 (.branch 0 (.branch 0 (.leaf (4, .invokevirtual 36, 3)) (.leaf (68, .iload_n 1, 1))) (.leaf (99999, .nop, 1))) (.leaf (52, .iload_n 1, 1))) (.branch 0 (.branch 0 (.branch 0 (.leaf (12, .iload_n 1, 1)) (.leaf (76, .invokevirtual 42, 3))) (.leaf (44, .goto (-34), 3))) (.branch 0 (.leaf (28, .isub, 1)) (.leaf (60, .invokevirtual 42, 3)))))) (.branch 0 (.branch 0 (.branch 0 (.branch 0 (.leaf (2, .bipush (26), 2)) (.leaf (34, .iadd, 1))) (.leaf (18, .if_icmp .ge (29), 3))) (.branch 0 (.branch 0 (.branch 0 (.leaf (10, .iload_n 3, 1)) (.leaf (74, .iadd, 1))) (.leaf (99999, .nop, 1))) (.branch 0 (.leaf (26, .iadd, 1)) (.leaf (58, .iconst 1, 1))))) (.branch 0 (.branch 0 (.leaf (38, .invokevirtual 42, 3)) (.leaf (22, .iload_n 1, 1))) (.leaf (30, .iload_n 1, 1))))) (.branch 0 (.branch 0 (.branch 0 (.branch 0 (.branch 0 (.branch 0 (.leaf (1, .iload_n 1, 1)) (.leaf (65, .bipush (26), 2))) (.leaf (33, .iload_n 3, 1))) (.leaf (49, .bipush (20), 2))) (.branch 0 (.branch 0 (.leaf (9, .istore_n 3, 1)) (.leaf (41, .iinc 3 (1), 3))) (.leaf (25, .iload_n 3, 1)))) (.branch 0 (.branch 0 (.leaf (69, .bipush (20), 2)) (.branch 0 (.leaf (21, .aload_n 0, 1)) (.leaf (53, .bipush (20), 2)))) (.branch 0 (.leaf (13, .bipush (20), 2)) (.leaf (29, .aload_n 0, 1))))) (.branch 0 (.branch 0 (.branch 0 (.branch 0 (.leaf (67, .aload_n 0, 1)) (.leaf (35, .invokevirtual 36, 3))) (.leaf (51, .aload_n 0, 1))) (.branch 0 (.branch 0 (.branch 0 (.leaf (11, .aload_n 0, 1)) (.leaf (75, .iconst 0, 1))) (.leaf (99999, .nop, 1))) (.branch 0 (.leaf (27, .iconst 1, 1)) (.leaf (59, .isub, 1))))) (.branch 0 (.branch 0 (.branch 0 (.branch 0 (.leaf (7, .istore_n 2, 1)) (.leaf (71, .invokevirtual 36, 3))) (.leaf (99999, .nop, 1))) (.branch 0 (.leaf (23, .bipush (26), 2)) (.leaf (55, .invokevirtual 36, 3)))) (.branch 0 (.branch 0 (.branch 0 (.leaf (15, .invokevirtual 36, 3)) (.leaf (79, .iload_n 2, 1))) (.leaf (47, .aload_n 0, 1))) (.branch 0 (.leaf (31, .bipush (26), 2)) (.leaf (63, .aload_n 0, 1))))))))
theorem rv_k_X12_takes : rv_tok cX12_takes rv_t_X12_takes = true := by decide +kernel
def rv_t_X12_takesQueue : rv_T := (.branch 0 (.branch 0 (.branch 0 (.branch 0 (.branch 0 (.branch 0 (.branch 0 (.leaf (0, .aload_n 0, 1)) (.leaf (64, .iload_n 1, 1))) (.leaf (99999, .nop, 1))) (.branch 0 (.leaf (80, .ireturn, 1)) (.leaf (48, .iload_n 1, 1)))) (.leaf (8, .iconst 1, 1))) (.branch 0 (.branch 0 (.branch 0 (.branch 0 (.leaf (4, .invokevirtual 50, 3)) (.leaf (68, .iload_n 1, 1))) (.leaf (99999, .nop, 1))) (.leaf (52, .iload_n 1, 1))) (.branch 0 (.branch 0 (.branch 0 (.leaf (12, .iload_n 1, 1)) (.leaf (76, .invokevirtual 53, 3))) (.leaf (44, .goto (-34), 3))) (.branch 0 (.leaf (28, .isub, 1)) (.leaf (60, .invokevirtual 53, 3)))))) (.branch 0 (.branch 0 (.branch 0 (.branch 0 (.leaf (2, .bipush (9), 2)) (.leaf (34, .iadd, 1))) (.leaf (18, .if_icmp .ge (29), 3))) (.branch 0 (.branch 0 (.branch 0 (.leaf (10, .iload_n 3, 1)) (.leaf (74, .iadd, 1))) (.leaf (99999, .nop, 1))) (.branch 0 (.leaf (26, .iadd, 1)) (.leaf (58, .iconst 1, 1))))) (.branch 0 (.branch 0 (.leaf (38, .invokevirtual 53, 3)) (.leaf (22, .iload_n 1, 1))) (.leaf (30, .iload_n 1, 1))))) (.branch 0 (.branch 0 (.branch 0 (.branch 0 (.branch 0 (.branch 0 (.leaf (1, .iload_n 1, 1)) (.leaf (65, .bipush (9), 2))) (.leaf (33, .iload_n 3, 1))) (.leaf (49, .bipush (8), 2))) (.branch 0 (.branch 0 (.leaf (9, .istore_n 3, 1)) (.leaf (41, .iinc 3 (1), 3))) (.leaf (25, .iload_n 3, 1)))) (.branch 0 (.branch 0 (.leaf (69, .bipush (8), 2)) (.branch 0 (.leaf (21, .aload_n 0, 1)) (.leaf (53, .bipush (8), 2)))) (.branch 0 (.leaf (13, .bipush (8), 2)) (.leaf (29, .aload_n 0, 1))))) (.branch 0 (.branch 0 (.branch 0 (.branch 0 (.leaf (67, .aload_n 0, 1)) (.leaf (35, .invokevirtual 50, 3))) (.leaf (51, .aload_n 0, 1))) (.branch 0 (.branch 0 (.branch 0 (.leaf (11, .aload_n 0, 1)) (.leaf (75, .iconst 0, 1))) (.leaf (99999, .nop, 1))) (.branch 0 (.leaf (27, .iconst 1, 1)) (.leaf (59, .isub, 1))))) (.branch 0 (.branch 0 (.branch 0 (.branch 0 (.leaf (7, .istore_n 2, 1)) (.leaf (71, .invokevirtual 50, 3))) (.leaf (99999, .nop, 1))) (.branch 0 (.leaf (23, .bipush (9), 2)) (.leaf (55, .invokevirtual 50, 3)))) (.branch 0 (.branch 0 (.branch 0 (.leaf (15, .invokevirtual 50, 3)) (.leaf (79, .iload_n 2, 1))) (.leaf (47, .aload_n 0, 1))) (.branch 0 (.leaf (31, .bipush (9), 2)) (.leaf (63, .aload_n 0, 1))))))))
theorem rv_k_X12_takesQueue : rv_tok cX12_takesQueue rv_t_X12_takesQueue = true := by decide +kernel
def rv_t_X12_losesQueue : rv_T := (.branch 0 (.branch 0 (.branch 0 (.branch 0 (.branch 0 (.branch 0 (.leaf (0, .iconst 1, 1)) (.leaf (32, .iconst 0, 1))) (.leaf (16, .aload_n 0, 1))) (.leaf (8, .bipush (8), 2))) (.branch 0 (.leaf (99999, .nop, 1)) (.branch 0 (.leaf (44, .return_, 1)) (.leaf (28, .iconst 1, 1))))) (.branch 0 (.branch 0 (.branch 0 (.branch 0 (.leaf (2, .iload_n 2, 1)) (.leaf (34, .goto (-32), 3))) (.leaf (18, .iload_n 1, 1))) (.leaf (10, .invokevirtual 50, 3))) (.branch 0 (.branch 0 (.branch 0 (.leaf (6, .aload_n 0, 1)) (.leaf (38, .iload_n 1, 1))) (.leaf (22, .invokevirtual 79, 3))) (.leaf (99999, .nop, 1))))) (.branch 0 (.branch 0 (.branch 0 (.branch 0 (.branch 0 (.leaf (1, .istore_n 2, 1)) (.leaf (33, .istore_n 2, 1))) (.leaf (17, .aload_n 0, 1))) (.branch 0 (.leaf (41, .invokevirtual 82, 3)) (.leaf (25, .ifCond .ne (7), 3)))) (.branch 0 (.leaf (37, .aload_n 0, 1)) (.branch 0 (.leaf (13, .ifCond .le (24), 3)) (.leaf (29, .goto (4), 3))))) (.branch 0 (.branch 0 (.branch 0 (.leaf (3, .ifCond .eq (34), 3)) (.leaf (19, .invokevirtual 76, 3))) (.leaf (99999, .nop, 1))) (.branch 0 (.branch 0 (.branch 0 (.leaf (7, .iload_n 1, 1)) (.leaf (39, .bipush (7), 2))) (.leaf (99999, .nop, 1))) (.leaf (99999, .nop, 1))))))
theorem rv_k_X12_losesQueue : rv_tok cX12_losesQueue rv_t_X12_losesQueue = true := by decide +kernel
section RMX
variable (base : Nat) (l : Launch) (cI c1 c2 c3 c4 c5 : ClassId) (D : va_G) (ad adV : Nat → Nat)
theorem h_buffers (a0 : Nat) (s x : Int32) (sn : Nat) (hs : s.toInt = (sn : Int)) (hsn : sn < 40) (B S C T O : Int) (hB : B ≤ 24) (hx : 0 ≤ x.toInt ∧ x.toInt ≤ 257) : rm_Hm base l cI c1 c2 c3 c4 c5 D ad adV rk_q_X12_buffers [.ref a0, .int s, .int x] (fun G _ f => G a0 = some 12 ∧ rm_so G f a0 sn B S C T O) (fun G _ f v u => v = none ∧ rm_st G f u a0 sn (B + 1) S C T O) 0 15 := by
  unfold rm_Hm
  refine rm_start (M := rk_q_X12_buffers) (rk_hNw base ad adV) (rk_hNc base ad adV) (by decide +kernel) (mt := rk_mt [rk_q_X12_at, rk_q_X12_more, rk_q_X12_puts]) (ml := rk_mlf [(36, 0, 3, 12), (46, 1, 3, 12), (42, 2, 4, 12)]) (fl := rk_flf rk_ftX12) (fun s args h hN => rk_MlOk_of (List.forall_mem_cons.mpr ⟨rk_mck_ok (fun w hw => List.mem_cons_of_mem _ hw) h hN rk_cm_X12_at rk_lk_X12_36, List.forall_mem_cons.mpr ⟨rk_mck_ok (fun w hw => List.mem_cons_of_mem _ hw) h hN rk_cm_X12_more rk_lk_X12_46, List.forall_mem_cons.mpr ⟨rk_mck_ok (fun w hw => List.mem_cons_of_mem _ hw) h hN rk_cm_X12_puts rk_lk_X12_42, fun _ h => absurd h List.not_mem_nil⟩⟩⟩) (by decide +kernel)) (fun s args h hN => rk_flX12 (fun w hw => List.mem_cons_of_mem _ hw) h hN) (rm_cat1 rfl) (Nat.le_of_ble_eq_true rfl) ?_
  intro p e st m below meth c G X L f0 A hC hh hX0 hXC hT hpre
  have hcs : 0 ≤ 0 ∧ 0 ≤ 0 := ⟨Nat.le_refl 0, Nat.le_refl 0⟩
  obtain ⟨hG, hso⟩ := hpre
  have hst := rm_st_rf hso
  obtain ⟨hb1, -⟩ := rm_so_b hT hG hsn hso
  refine rv_run hC.1 hC.2.1 (T := rv_t_X12_buffers) rv_k_X12_buffers 80 ?_
  refine w_at hC hh hT hG (by omega) (by omega) 36 (by decide +kernel) rfl rfl hs hsn 20 (by decide) (by decide) (Nat.le_of_ble_eq_true rfl) hcs (fun y H locs hh hy => ?_)
  have ey : y.toInt = B := by rw [hy]; exact hso.1
  obtain ⟨Bn, hBn⟩ : ∃ n : Nat, B = (n : Int) := ⟨B.toNat, by omega⟩
  obtain ⟨q1, q2⟩ := rm_mS_b (26 + Bn) (by omega) (by omega)
  refine rv_run hC.1 hC.2.1 (T := rv_t_X12_buffers) rv_k_X12_buffers 80 ?_
  refine w_puts hC hh hT hG (by omega) (by omega) 1 42 (by decide +kernel) rfl rfl hs hsn (26 + Bn) (by rw [rm_ad (a := 26) (b := B) rfl ey (by decide) (by omega)]; omega) (by omega) (by rw [q2]; rfl) (rm_hI q1 hx.1 hx.2) (Nat.le_of_ble_eq_true rfl) hcs (fun f H locs hh hT hL hP => ?_)
  have hst := rm_st_1 hst hL hG hsn
  have e2 : (rm_now G f a0 (64 * sn + 20)).toInt = B := hst.2.2.1
  have e3 := rm_ad e2 rm_e1 (by omega) (by decide)
  refine rv_run hC.1 hC.2.1 (T := rv_t_X12_buffers) rv_k_X12_buffers 80 ?_
  refine w_more hC hh hT hG (by omega) 0 (by decide) (by omega) 15 46 (by decide +kernel) rfl rfl hs hsn 20 (by decide) (by decide) rfl (rm_hI (a := 0) (b := 25) rfl (by rw [e3]; omega) (by rw [e3]; omega)) (Nat.le_of_ble_eq_true rfl) hcs (fun f H locs hh hT hL hP => ?_)
  have hst := rm_st_B hst hL hP
  rw [e3] at hst
  refine rm_vret hC hh (by decide +kernel) rfl ⟨hT, hst.1, rfl, hst⟩
theorem h_becomes (a0 : Nat) (s x : Int32) (sn : Nat) (hs : s.toInt = (sn : Int)) (hsn : sn < 40) (B S C T O : Int) (hx : 0 ≤ x.toInt ∧ x.toInt ≤ 5) : rm_Hm base l cI c1 c2 c3 c4 c5 D ad adV rk_q_X12_becomes [.ref a0, .int s, .int x] (fun G _ f => G a0 = some 12 ∧ rm_so G f a0 sn B S C T O) (fun G _ f v u => v = none ∧ rm_st G f u a0 sn B S C x.toInt O) 1 15 := by
  unfold rm_Hm
  refine rm_start (M := rk_q_X12_becomes) (rk_hNw base ad adV) (rk_hNc base ad adV) (by decide +kernel) (mt := rk_mt [rk_q_X12_logs, rk_q_X12_puts]) (ml := rk_mlf [(56, 0, 3, 12), (42, 1, 4, 12)]) (fl := rk_flf rk_ftX12) (fun s args h hN => rk_MlOk_of (List.forall_mem_cons.mpr ⟨rk_mck_ok (fun w hw => List.mem_cons_of_mem _ hw) h hN rk_cm_X12_logs rk_lk_X12_56, List.forall_mem_cons.mpr ⟨rk_mck_ok (fun w hw => List.mem_cons_of_mem _ hw) h hN rk_cm_X12_puts rk_lk_X12_42, fun _ h => absurd h List.not_mem_nil⟩⟩) (by decide +kernel)) (fun s args h hN => rk_flX12 (fun w hw => List.mem_cons_of_mem _ hw) h hN) (rm_cat1 rfl) (Nat.le_of_ble_eq_true rfl) ?_
  intro p e st m below meth c G X L f0 A hC hh hX0 hXC hT hpre
  have hcs : 0 ≤ 0 ∧ 0 ≤ 0 := ⟨Nat.le_refl 0, Nat.le_refl 0⟩
  obtain ⟨hG, hso⟩ := hpre
  have hst := rm_st_rf hso
  refine rv_run hC.1 hC.2.1 (T := rv_t_X12_becomes) rv_k_X12_becomes 80 ?_
  refine w_puts hC hh hT hG (by omega) (by omega) 15 42 (by decide +kernel) rfl rfl hs hsn 3 (by decide) (by decide) rfl (rm_hI (a := 0) (b := 5) rfl hx.1 hx.2) (Nat.le_of_ble_eq_true rfl) hcs (fun f H locs hh hT hL hP => ?_)
  have hst := rm_st_T hst hL hP
  refine rv_run hC.1 hC.2.1 (T := rv_t_X12_becomes) rv_k_X12_becomes 80 ?_
  refine w_puts hC hh hT hG (by omega) (by omega) 1 42 (by decide +kernel) rfl rfl hs hsn 4 (by decide) (by decide) rfl (rm_hF rfl) (Nat.le_of_ble_eq_true rfl) hcs (fun f H locs hh hT hL hP => ?_)
  have hst := rm_st_1 hst hL hG hsn
  refine rv_run hC.1 hC.2.1 (T := rv_t_X12_becomes) rv_k_X12_becomes 80 ?_
  refine w_puts hC hh hT hG (by omega) (by omega) 1 42 (by decide +kernel) rfl rfl hs hsn 7 (by decide) (by decide) rfl (rm_hF rfl) (Nat.le_of_ble_eq_true rfl) hcs (fun f H locs hh hT hL hP => ?_)
  have hst := rm_st_1 hst hL hG hsn
  refine rv_run hC.1 hC.2.1 (T := rv_t_X12_becomes) rv_k_X12_becomes 80 ?_
  refine w_puts hC hh hT hG (by omega) (by omega) 1 42 (by decide +kernel) rfl rfl hs hsn 8 (by decide) (by decide) rfl (rm_hI (a := 0) (b := 1) rfl (by decide) (by decide)) (Nat.le_of_ble_eq_true rfl) hcs (fun f H locs hh hT hL hP => ?_)
  have hst := rm_st_1 hst hL hG hsn
  refine rv_run hC.1 hC.2.1 (T := rv_t_X12_becomes) rv_k_X12_becomes 80 ?_
  refine w_puts hC hh hT hG (by omega) (by omega) 1 42 (by decide +kernel) rfl rfl hs hsn 9 (by decide) (by decide) rfl (rm_hI (a := 0) (b := 1) rfl (by decide) (by decide)) (Nat.le_of_ble_eq_true rfl) hcs (fun f H locs hh hT hL hP => ?_)
  have hst := rm_st_1 hst hL hG hsn
  refine rv_run hC.1 hC.2.1 (T := rv_t_X12_becomes) rv_k_X12_becomes 80 ?_
  refine ⟨fun h => ?_, fun h => ?_⟩
  · refine rm_vret hC hh (by decide +kernel) rfl ⟨rk_TY_X (by omega) hT, hst.1, rfl, hst⟩
  · refine w_kv hC hh hT hG (by omega) (by omega) 56 (by decide +kernel) rfl (c_X12_logs base l cI c1 c2 c3 c4 c5 D ad adV) (rk_all_c (rk_aM hG) (rk_all_c rk_aF (rk_all_c rk_aF rk_all_0))) rfl rfl (Nat.le_of_ble_eq_true rfl) hcs (fun f H locs hh hT hL => ?_)
    have hst := rm_st_1 hst hL hG hsn
    refine rv_run hC.1 hC.2.1 (T := rv_t_X12_becomes) rv_k_X12_becomes 80 ?_
    refine rm_vret hC hh (by decide +kernel) rfl ⟨hT, hst.1, rfl, hst⟩
theorem h_takes (a0 : Nat) (s : Int32) (sn : Nat) (hs : s.toInt = (sn : Int)) (hsn : sn < 40) (B S C T O : Int) (hB : 1 ≤ B) : rm_Hm base l cI c1 c2 c3 c4 c5 D ad adV rk_q_X12_takes [.ref a0, .int s] (fun G _ f => G a0 = some 12 ∧ rm_so G f a0 sn B S C T O) (fun G _ f v u => (∃ x : Int32, v = some (.int x) ∧ 0 ≤ x.toInt ∧ x.toInt ≤ 257) ∧ rm_st G f u a0 sn (B - 1) S C T O) 0 15 := by
  unfold rm_Hm
  refine rm_start (M := rk_q_X12_takes) (rk_hNw base ad adV) (rk_hNc base ad adV) (by decide +kernel) (mt := rk_mt [rk_q_X12_at, rk_q_X12_puts]) (ml := rk_mlf [(36, 0, 3, 12), (42, 1, 4, 12)]) (fl := rk_flf rk_ftX12) (fun s args h hN => rk_MlOk_of (List.forall_mem_cons.mpr ⟨rk_mck_ok (fun w hw => List.mem_cons_of_mem _ hw) h hN rk_cm_X12_at rk_lk_X12_36, List.forall_mem_cons.mpr ⟨rk_mck_ok (fun w hw => List.mem_cons_of_mem _ hw) h hN rk_cm_X12_puts rk_lk_X12_42, fun _ h => absurd h List.not_mem_nil⟩⟩) (by decide +kernel)) (fun s args h hN => rk_flX12 (fun w hw => List.mem_cons_of_mem _ hw) h hN) (rm_cat1 rfl) (Nat.le_of_ble_eq_true rfl) ?_
  intro p e st m below meth c G X L f0 A hC hh hX0 hXC hT hpre
  have hcs : 0 ≤ 0 ∧ 0 ≤ 0 := ⟨Nat.le_refl 0, Nat.le_refl 0⟩
  obtain ⟨hG, hso⟩ := hpre
  have hst := rm_st_rf hso
  obtain ⟨hb1, -⟩ := rm_so_b hT hG hsn hso
  refine rv_run hC.1 hC.2.1 (T := rv_t_X12_takes) rv_k_X12_takes 80 ?_
  refine w_at hC hh hT hG (by omega) (by omega) 36 (by decide +kernel) rfl rfl hs hsn 26 (by decide) (by decide) (Nat.le_of_ble_eq_true rfl) hcs (fun x H locs hh hx => ?_)
  have bx := rm_scT hT hG (w := 26) hsn (by decide) rfl
  have bx : 0 ≤ x.toInt ∧ x.toInt ≤ 257 := by rw [hx]; exact bx
  refine rv_run hC.1 hC.2.1 (T := rv_t_X12_takes) rv_k_X12_takes 3 ?_
  -- the end
  have fin : ∀ (k : Int32) (f : Nat → va_E) (H : Heap) (locs : List Loc), rm_h D A st L f H locs → rm_TY cI c1 c2 c3 c4 c5 ad G X L f → rm_st G f0 f a0 sn B S C T O → rv_G p l e { frames := rk_q_X12_takes.2.2.2.2.1, cells := 0, slots := 0, locals := rk_q_X12_takes.2.2.2.2.2 } st m ([.ref a0, .int s] : List Value).toArray below meth c (MQ below (rk_Q (fun v u => rm_TY cI c1 c2 c3 c4 c5 ad G (X + 0) L u ∧ rm_Lv G 15 f0 u ∧ (fun G _ f v u => (∃ x : Int32, v = some (.int x) ∧ 0 ≤ x.toInt ∧ x.toInt ≤ 257) ∧ rm_st G f u a0 sn (B - 1) S C T O) G X f0 v u) (rk_B D (rk_tys cI c1 c2 c3 c4 c5) L A) A) ([.ref a0, .int s] : List Value).toArray st 0 0 A) rk_q_X12_takes.2.2.1 0 0 H locs 47 [] [(0, .ref a0), (1, .int s), (2, .int x), (3, .int k)] := by
    intro k f H locs hh hT hst
    refine rv_run hC.1 hC.2.1 (T := rv_t_X12_takes) rv_k_X12_takes 80 ?_
    refine w_at hC hh hT hG (by omega) (by omega) 36 (by decide +kernel) rfl rfl hs hsn 20 (by decide) (by decide) (Nat.le_of_ble_eq_true rfl) hcs (fun y H locs hh hy => ?_)
    have ey : y.toInt = B := by rw [hy]; exact hst.2.2.1
    have e3 := rm_su ey rm_e1 (by omega) (by decide)
    refine rv_run hC.1 hC.2.1 (T := rv_t_X12_takes) rv_k_X12_takes 80 ?_
    refine w_puts hC hh hT hG (by omega) (by omega) 15 42 (by decide +kernel) rfl rfl hs hsn 20 (by decide) (by decide) rfl (rm_hI (a := 0) (b := 25) rfl (by rw [e3]; omega) (by rw [e3]; omega)) (Nat.le_of_ble_eq_true rfl) hcs (fun f H locs hh hT hL hP => ?_)
    have hst := rm_st_B hst hL hP
    rw [e3] at hst
    refine rv_run hC.1 hC.2.1 (T := rv_t_X12_takes) rv_k_X12_takes 80 ?_
    refine w_at hC hh hT hG (by omega) (by omega) 36 (by decide +kernel) rfl rfl hs hsn 20 (by decide) (by decide) (Nat.le_of_ble_eq_true rfl) hcs (fun z H locs hh hz => ?_)
    have ez : z.toInt = B - 1 := by rw [hz]; exact hst.2.2.1
    obtain ⟨Bn, hBn⟩ : ∃ n : Nat, B - 1 = (n : Int) := ⟨(B - 1).toNat, by omega⟩
    obtain ⟨q1, q2⟩ := rm_mS_b (26 + Bn) (by omega) (by omega)
    refine rv_run hC.1 hC.2.1 (T := rv_t_X12_takes) rv_k_X12_takes 80 ?_
    refine w_puts hC hh hT hG (by omega) (by omega) 1 42 (by decide +kernel) rfl rfl hs hsn (26 + Bn) (by rw [rm_ad (a := 26) (b := B - 1) rfl ez (by decide) (by omega)]; omega) (by omega) (by rw [q2]; rfl) (rm_hI q1 (by decide) (by decide)) (Nat.le_of_ble_eq_true rfl) hcs (fun f H locs hh hT hL hP => ?_)
    have hst := rm_st_1 hst hL hG hsn
    refine rv_run hC.1 hC.2.1 (T := rv_t_X12_takes) rv_k_X12_takes 80 ?_
    refine rm_iret hC hh (by decide +kernel) rfl ⟨by rw [Int.add_zero]; exact hT, hst.1, ⟨x, rfl, bx⟩, hst⟩
  -- the rest moves up
  have loop : ∀ (n : Nat) (k : Int32) (f : Nat → va_E) (H : Heap) (locs : List Loc), rm_h D A st L f H locs → rm_TY cI c1 c2 c3 c4 c5 ad G X L f → rm_st G f0 f a0 sn B S C T O → 1 ≤ k.toInt ∧ k.toInt ≤ 25 → 25 - k.toInt = (n : Int) → rv_G p l e { frames := rk_q_X12_takes.2.2.2.2.1, cells := 0, slots := 0, locals := rk_q_X12_takes.2.2.2.2.2 } st m ([.ref a0, .int s] : List Value).toArray below meth c (MQ below (rk_Q (fun v u => rm_TY cI c1 c2 c3 c4 c5 ad G (X + 0) L u ∧ rm_Lv G 15 f0 u ∧ (fun G _ f v u => (∃ x : Int32, v = some (.int x) ∧ 0 ≤ x.toInt ∧ x.toInt ≤ 257) ∧ rm_st G f u a0 sn (B - 1) S C T O) G X f0 v u) (rk_B D (rk_tys cI c1 c2 c3 c4 c5) L A) A) ([.ref a0, .int s] : List Value).toArray st 0 0 A) rk_q_X12_takes.2.2.1 0 0 H locs 10 [] [(0, .ref a0), (1, .int s), (2, .int x), (3, .int k)] := by
    intro n
    induction n with
    | zero =>
      intro k f H locs hh hT hst hk hn
      refine rv_run hC.1 hC.2.1 (T := rv_t_X12_takes) rv_k_X12_takes 80 ?_
      refine w_at hC hh hT hG (by omega) (by omega) 36 (by decide +kernel) rfl rfl hs hsn 20 (by decide) (by decide) (Nat.le_of_ble_eq_true rfl) hcs (fun y H locs hh hy => ?_)
      have ey : y.toInt = B := by rw [hy]; exact hst.2.2.1
      refine rv_run hC.1 hC.2.1 (T := rv_t_X12_takes) rv_k_X12_takes 1 ?_
      refine ⟨fun h => fin k f H locs hh hT hst, fun h => absurd h (by show ¬ k.toInt < y.toInt; omega)⟩
    | succ n ih =>
      intro k f H locs hh hT hst hk hn
      refine rv_run hC.1 hC.2.1 (T := rv_t_X12_takes) rv_k_X12_takes 80 ?_
      refine w_at hC hh hT hG (by omega) (by omega) 36 (by decide +kernel) rfl rfl hs hsn 20 (by decide) (by decide) (Nat.le_of_ble_eq_true rfl) hcs (fun y H locs hh hy => ?_)
      have ey : y.toInt = B := by rw [hy]; exact hst.2.2.1
      refine rv_run hC.1 hC.2.1 (T := rv_t_X12_takes) rv_k_X12_takes 1 ?_
      refine ⟨fun h => fin k f H locs hh hT hst, fun h => ?_⟩
      obtain ⟨kn, hkn⟩ : ∃ n : Nat, k.toInt = (n : Int) := ⟨k.toInt.toNat, by omega⟩
      obtain ⟨q1, q2⟩ := rm_mS_b (26 + kn) (by omega) (by omega)
      obtain ⟨q3, q4⟩ := rm_mS_b (25 + kn) (by omega) (by omega)
      have e5 := rm_ad (x := (Int8.ofInt 26).toInt32) (y := k) (a := 26) rfl rfl (by decide) (by omega)
      have e6 := rm_su e5 rm_e1 (by omega) (by decide)
      refine rv_run hC.1 hC.2.1 (T := rv_t_X12_takes) rv_k_X12_takes 80 ?_
      refine w_at hC hh hT hG (by omega) (by omega) 36 (by decide +kernel) rfl rfl hs hsn (26 + kn) (by rw [e5]; omega) (by omega) (Nat.le_of_ble_eq_true rfl) hcs (fun z H locs hh hz => ?_)
      have bz := rm_scT hT hG (w := 26 + kn) hsn (by omega) q1
      refine rv_run hC.1 hC.2.1 (T := rv_t_X12_takes) rv_k_X12_takes 80 ?_
      refine w_puts hC hh hT hG (by omega) (by omega) 1 42 (by decide +kernel) rfl rfl hs hsn (25 + kn) (by rw [e6]; omega) (by omega) (by rw [q4]; rfl) (rm_hI q3 (by rw [hz]; exact bz.1) (by rw [hz]; exact bz.2)) (Nat.le_of_ble_eq_true rfl) hcs (fun f H locs hh hT hL hP => ?_)
      have hst := rm_st_1 hst hL hG hsn
      have e7 := rm_ad (x := k) rfl rm_e1 (by omega) (by decide)
      refine rv_run hC.1 hC.2.1 (T := rv_t_X12_takes) rv_k_X12_takes 2 ?_
      exact ih (k + Int32.ofInt 1) f H locs hh hT hst (by rw [e7]; omega) (by rw [e7]; omega)
  exact loop 24 (Int32.ofInt 1) f0 H locs hh hT hst (by decide) rfl
theorem h_takesQueue (a0 : Nat) (s : Int32) (sn : Nat) (hs : s.toInt = (sn : Int)) (hsn : sn < 8) (B : Int) (hB : 1 ≤ B) : rm_Hm base l cI c1 c2 c3 c4 c5 D ad adV rk_q_X12_takesQueue [.ref a0, .int s] (fun G _ f => G a0 = some 12 ∧ rm_ec (rm_now G f a0) sn 8 = B) (fun G _ f v u => (∃ x : Int32, v = some (.int x) ∧ 0 ≤ x.toInt ∧ x.toInt ≤ 257) ∧ rm_qs G f u a0 sn (B - 1)) 0 15 := by
  unfold rm_Hm
  refine rm_start (M := rk_q_X12_takesQueue) (rk_hNw base ad adV) (rk_hNc base ad adV) (by decide +kernel) (mt := rk_mt [rk_q_X12_ofEnd, rk_q_X12_putsEnd]) (ml := rk_mlf [(50, 0, 3, 12), (53, 1, 4, 12)]) (fl := rk_flf rk_ftX12) (fun s args h hN => rk_MlOk_of (List.forall_mem_cons.mpr ⟨rk_mck_ok (fun w hw => List.mem_cons_of_mem _ hw) h hN rk_cm_X12_ofEnd rk_lk_X12_50, List.forall_mem_cons.mpr ⟨rk_mck_ok (fun w hw => List.mem_cons_of_mem _ hw) h hN rk_cm_X12_putsEnd rk_lk_X12_53, fun _ h => absurd h List.not_mem_nil⟩⟩) (by decide +kernel)) (fun s args h hN => rk_flX12 (fun w hw => List.mem_cons_of_mem _ hw) h hN) (rm_cat1 rfl) (Nat.le_of_ble_eq_true rfl) ?_
  intro p e st m below meth c G X L f0 A hC hh hX0 hXC hT hpre
  have hcs : 0 ≤ 0 ∧ 0 ≤ 0 := ⟨Nat.le_refl 0, Nat.le_refl 0⟩
  obtain ⟨hG, hso⟩ := hpre
  have hst := rm_qs_rf hso
  have hb1 := rm_ecT hT hG (w := 8) hsn (by decide) rfl
  rw [hso] at hb1
  refine rv_run hC.1 hC.2.1 (T := rv_t_X12_takesQueue) rv_k_X12_takesQueue 80 ?_
  refine w_ofEnd hC hh hT hG (by omega) (by omega) 50 (by decide +kernel) rfl rfl hs hsn 9 (by decide) (by decide) (Nat.le_of_ble_eq_true rfl) hcs (fun x H locs hh hx => ?_)
  have bx := rm_ecT hT hG (w := 9) hsn (by decide) rfl
  have bx : 0 ≤ x.toInt ∧ x.toInt ≤ 257 := by rw [hx]; exact bx
  refine rv_run hC.1 hC.2.1 (T := rv_t_X12_takesQueue) rv_k_X12_takesQueue 3 ?_
  -- the end
  have fin : ∀ (k : Int32) (f : Nat → va_E) (H : Heap) (locs : List Loc), rm_h D A st L f H locs → rm_TY cI c1 c2 c3 c4 c5 ad G X L f → rm_qs G f0 f a0 sn B → rv_G p l e { frames := rk_q_X12_takesQueue.2.2.2.2.1, cells := 0, slots := 0, locals := rk_q_X12_takesQueue.2.2.2.2.2 } st m ([.ref a0, .int s] : List Value).toArray below meth c (MQ below (rk_Q (fun v u => rm_TY cI c1 c2 c3 c4 c5 ad G (X + 0) L u ∧ rm_Lv G 15 f0 u ∧ (fun G _ f v u => (∃ x : Int32, v = some (.int x) ∧ 0 ≤ x.toInt ∧ x.toInt ≤ 257) ∧ rm_qs G f u a0 sn (B - 1)) G X f0 v u) (rk_B D (rk_tys cI c1 c2 c3 c4 c5) L A) A) ([.ref a0, .int s] : List Value).toArray st 0 0 A) rk_q_X12_takesQueue.2.2.1 0 0 H locs 47 [] [(0, .ref a0), (1, .int s), (2, .int x), (3, .int k)] := by
    intro k f H locs hh hT hst
    refine rv_run hC.1 hC.2.1 (T := rv_t_X12_takesQueue) rv_k_X12_takesQueue 80 ?_
    refine w_ofEnd hC hh hT hG (by omega) (by omega) 50 (by decide +kernel) rfl rfl hs hsn 8 (by decide) (by decide) (Nat.le_of_ble_eq_true rfl) hcs (fun y H locs hh hy => ?_)
    have ey : y.toInt = B := by rw [hy]; exact hst.2.2
    have e3 := rm_su ey rm_e1 (by omega) (by decide)
    refine rv_run hC.1 hC.2.1 (T := rv_t_X12_takesQueue) rv_k_X12_takesQueue 80 ?_
    refine w_putsEnd hC hh hT hG (by omega) (by omega) 15 53 (by decide +kernel) rfl rfl hs hsn 8 (by decide) (by decide) rfl (rm_hI (a := 0) (b := 120) rfl (by rw [e3]; omega) (by rw [e3]; omega)) (Nat.le_of_ble_eq_true rfl) hcs (fun f H locs hh hT hL hP => ?_)
    have hst := rm_qs_8 hst hL hP
    rw [e3] at hst
    refine rv_run hC.1 hC.2.1 (T := rv_t_X12_takesQueue) rv_k_X12_takesQueue 80 ?_
    refine w_ofEnd hC hh hT hG (by omega) (by omega) 50 (by decide +kernel) rfl rfl hs hsn 8 (by decide) (by decide) (Nat.le_of_ble_eq_true rfl) hcs (fun z H locs hh hz => ?_)
    have ez : z.toInt = B - 1 := by rw [hz]; exact hst.2.2
    obtain ⟨Bn, hBn⟩ : ∃ n : Nat, B - 1 = (n : Int) := ⟨(B - 1).toNat, by omega⟩
    obtain ⟨q1, q2, q3⟩ := rm_mD_q (9 + Bn) (by omega) (by omega)
    refine rv_run hC.1 hC.2.1 (T := rv_t_X12_takesQueue) rv_k_X12_takesQueue 80 ?_
    refine w_putsEnd hC hh hT hG (by omega) (by omega) 1 53 (by decide +kernel) rfl rfl hs hsn (9 + Bn) (by rw [rm_ad (a := 9) (b := B - 1) rfl ez (by decide) (by omega)]; omega) (by omega) (by rw [q2, q3]; rfl) (rm_hI q1 (by decide) (by decide)) (Nat.le_of_ble_eq_true rfl) hcs (fun f H locs hh hT hL hP => ?_)
    have hst := rm_qs_1 hst hL hG hsn
    refine rv_run hC.1 hC.2.1 (T := rv_t_X12_takesQueue) rv_k_X12_takesQueue 80 ?_
    refine rm_iret hC hh (by decide +kernel) rfl ⟨by rw [Int.add_zero]; exact hT, hst.1, ⟨x, rfl, bx⟩, hst⟩
  -- the rest moves up
  have loop : ∀ (n : Nat) (k : Int32) (f : Nat → va_E) (H : Heap) (locs : List Loc), rm_h D A st L f H locs → rm_TY cI c1 c2 c3 c4 c5 ad G X L f → rm_qs G f0 f a0 sn B → 1 ≤ k.toInt ∧ k.toInt ≤ 120 → 120 - k.toInt = (n : Int) → rv_G p l e { frames := rk_q_X12_takesQueue.2.2.2.2.1, cells := 0, slots := 0, locals := rk_q_X12_takesQueue.2.2.2.2.2 } st m ([.ref a0, .int s] : List Value).toArray below meth c (MQ below (rk_Q (fun v u => rm_TY cI c1 c2 c3 c4 c5 ad G (X + 0) L u ∧ rm_Lv G 15 f0 u ∧ (fun G _ f v u => (∃ x : Int32, v = some (.int x) ∧ 0 ≤ x.toInt ∧ x.toInt ≤ 257) ∧ rm_qs G f u a0 sn (B - 1)) G X f0 v u) (rk_B D (rk_tys cI c1 c2 c3 c4 c5) L A) A) ([.ref a0, .int s] : List Value).toArray st 0 0 A) rk_q_X12_takesQueue.2.2.1 0 0 H locs 10 [] [(0, .ref a0), (1, .int s), (2, .int x), (3, .int k)] := by
    intro n
    induction n with
    | zero =>
      intro k f H locs hh hT hst hk hn
      refine rv_run hC.1 hC.2.1 (T := rv_t_X12_takesQueue) rv_k_X12_takesQueue 80 ?_
      refine w_ofEnd hC hh hT hG (by omega) (by omega) 50 (by decide +kernel) rfl rfl hs hsn 8 (by decide) (by decide) (Nat.le_of_ble_eq_true rfl) hcs (fun y H locs hh hy => ?_)
      have ey : y.toInt = B := by rw [hy]; exact hst.2.2
      refine rv_run hC.1 hC.2.1 (T := rv_t_X12_takesQueue) rv_k_X12_takesQueue 1 ?_
      refine ⟨fun h => fin k f H locs hh hT hst, fun h => absurd h (by show ¬ k.toInt < y.toInt; omega)⟩
    | succ n ih =>
      intro k f H locs hh hT hst hk hn
      refine rv_run hC.1 hC.2.1 (T := rv_t_X12_takesQueue) rv_k_X12_takesQueue 80 ?_
      refine w_ofEnd hC hh hT hG (by omega) (by omega) 50 (by decide +kernel) rfl rfl hs hsn 8 (by decide) (by decide) (Nat.le_of_ble_eq_true rfl) hcs (fun y H locs hh hy => ?_)
      have ey : y.toInt = B := by rw [hy]; exact hst.2.2
      refine rv_run hC.1 hC.2.1 (T := rv_t_X12_takesQueue) rv_k_X12_takesQueue 1 ?_
      refine ⟨fun h => fin k f H locs hh hT hst, fun h => ?_⟩
      obtain ⟨kn, hkn⟩ : ∃ n : Nat, k.toInt = (n : Int) := ⟨k.toInt.toNat, by omega⟩
      obtain ⟨q1, q2, q5⟩ := rm_mD_q (9 + kn) (by omega) (by omega)
      obtain ⟨q3, q4, q6⟩ := rm_mD_q (8 + kn) (by omega) (by omega)
      have e5 := rm_ad (x := (Int8.ofInt 9).toInt32) (y := k) (a := 9) rfl rfl (by decide) (by omega)
      have e6 := rm_su e5 rm_e1 (by omega) (by decide)
      refine rv_run hC.1 hC.2.1 (T := rv_t_X12_takesQueue) rv_k_X12_takesQueue 80 ?_
      refine w_ofEnd hC hh hT hG (by omega) (by omega) 50 (by decide +kernel) rfl rfl hs hsn (9 + kn) (by rw [e5]; omega) (by omega) (Nat.le_of_ble_eq_true rfl) hcs (fun z H locs hh hz => ?_)
      have bz := rm_ecT hT hG (w := 9 + kn) hsn (by omega) q1
      refine rv_run hC.1 hC.2.1 (T := rv_t_X12_takesQueue) rv_k_X12_takesQueue 80 ?_
      refine w_putsEnd hC hh hT hG (by omega) (by omega) 1 53 (by decide +kernel) rfl rfl hs hsn (8 + kn) (by rw [e6]; omega) (by omega) (by rw [q4, q6]; rfl) (rm_hI q3 (by rw [hz]; exact bz.1) (by rw [hz]; exact bz.2)) (Nat.le_of_ble_eq_true rfl) hcs (fun f H locs hh hT hL hP => ?_)
      have hst := rm_qs_1 hst hL hG hsn
      have e7 := rm_ad (x := k) rfl rm_e1 (by omega) (by decide)
      refine rv_run hC.1 hC.2.1 (T := rv_t_X12_takesQueue) rv_k_X12_takesQueue 2 ?_
      exact ih (k + Int32.ofInt 1) f H locs hh hT hst (by rw [e7]; omega) (by rw [e7]; omega)
  exact loop 119 (Int32.ofInt 1) f0 H locs hh hT hst (by decide) rfl
theorem h_losesQueue (a0 : Nat) (s : Int32) (sn : Nat) (hs : s.toInt = (sn : Int)) (hsn : sn < 8) : rm_Hm base l cI c1 c2 c3 c4 c5 D ad adV rk_q_X12_losesQueue [.ref a0, .int s] (fun G _ f => G a0 = some 12) (fun G _ f v u => v = none ∧ rm_sE G f u a0) 0 15 := by
  unfold rm_Hm
  refine rm_start (M := rk_q_X12_losesQueue) (rk_hNw base ad adV) (rk_hNc base ad adV) (by decide +kernel) (mt := rk_mt [rk_q_X12_isMark, rk_q_X12_moreEnd, rk_q_X12_ofEnd, rk_q_X12_takesQueue]) (ml := rk_mlf [(79, 0, 2, 12), (82, 1, 3, 12), (50, 2, 3, 12), (76, 3, 2, 12)]) (fl := rk_flf rk_ftX12) (fun s args h hN => rk_MlOk_of (List.forall_mem_cons.mpr ⟨rk_mck_ok (fun w hw => List.mem_cons_of_mem _ hw) h hN rk_cm_X12_isMark rk_lk_X12_79, List.forall_mem_cons.mpr ⟨rk_mck_ok (fun w hw => List.mem_cons_of_mem _ hw) h hN rk_cm_X12_moreEnd rk_lk_X12_82, List.forall_mem_cons.mpr ⟨rk_mck_ok (fun w hw => List.mem_cons_of_mem _ hw) h hN rk_cm_X12_ofEnd rk_lk_X12_50, List.forall_mem_cons.mpr ⟨rk_mck_ok (fun w hw => List.mem_cons_of_mem _ hw) h hN rk_cm_X12_takesQueue rk_lk_X12_76, fun _ h => absurd h List.not_mem_nil⟩⟩⟩⟩) (by decide +kernel)) (fun s args h hN => rk_flX12 (fun w hw => List.mem_cons_of_mem _ hw) h hN) (rm_cat1 rfl) (Nat.le_of_ble_eq_true rfl) ?_
  intro p e st m below meth c G X L f0 A hC hh hX0 hXC hT hpre
  have hcs : 0 ≤ 0 ∧ 0 ≤ 0 := ⟨Nat.le_refl 0, Nat.le_refl 0⟩
  have hG : G a0 = some 12 := hpre
  have hst := rm_qs_rf (G := G) (f := f0) (a0 := a0) (sn := sn) rfl
  refine rv_run hC.1 hC.2.1 (T := rv_t_X12_losesQueue) rv_k_X12_losesQueue 2 ?_
  have fin : ∀ (k : Int32) (q : Int) (f : Nat → va_E) (H : Heap) (locs : List Loc), rm_h D A st L f H locs → rm_TY cI c1 c2 c3 c4 c5 ad G X L f → rm_qs G f0 f a0 sn q → rv_G p l e { frames := rk_q_X12_losesQueue.2.2.2.2.1, cells := 0, slots := 0, locals := rk_q_X12_losesQueue.2.2.2.2.2 } st m ([.ref a0, .int s] : List Value).toArray below meth c (MQ below (rk_Q (fun v u => rm_TY cI c1 c2 c3 c4 c5 ad G (X + 0) L u ∧ rm_Lv G 15 f0 u ∧ (fun G _ f v u => v = none ∧ rm_sE G f u a0) G X f0 v u) (rk_B D (rk_tys cI c1 c2 c3 c4 c5) L A) A) ([.ref a0, .int s] : List Value).toArray st 0 0 A) rk_q_X12_losesQueue.2.2.1 0 0 H locs 37 [] [(0, .ref a0), (1, .int s), (2, .int k)] := by
    intro k q f H locs hh hT hst
    refine rv_run hC.1 hC.2.1 (T := rv_t_X12_losesQueue) rv_k_X12_losesQueue 80 ?_
    refine w_moreEnd hC hh hT hG (by omega) 0 (by decide) (by omega) 1 82 (by decide +kernel) rfl rfl hs hsn 7 (by decide) (by decide) rfl (rm_hF rfl) (Nat.le_of_ble_eq_true rfl) hcs (fun f H locs hh hT hL hP => ?_)
    have hst := rm_qs_1 hst hL hG hsn
    refine rv_run hC.1 hC.2.1 (T := rv_t_X12_losesQueue) rv_k_X12_losesQueue 80 ?_
    refine rm_vret hC hh (by decide +kernel) rfl ⟨hT, hst.1, rfl, hst.2.1⟩
  have loop : ∀ (n : Nat) (k : Int32) (f : Nat → va_E) (H : Heap) (locs : List Loc), rm_h D A st L f H locs → rm_TY cI c1 c2 c3 c4 c5 ad G X L f → rm_qs G f0 f a0 sn (n : Int) → rv_G p l e { frames := rk_q_X12_losesQueue.2.2.2.2.1, cells := 0, slots := 0, locals := rk_q_X12_losesQueue.2.2.2.2.2 } st m ([.ref a0, .int s] : List Value).toArray below meth c (MQ below (rk_Q (fun v u => rm_TY cI c1 c2 c3 c4 c5 ad G (X + 0) L u ∧ rm_Lv G 15 f0 u ∧ (fun G _ f v u => v = none ∧ rm_sE G f u a0) G X f0 v u) (rk_B D (rk_tys cI c1 c2 c3 c4 c5) L A) A) ([.ref a0, .int s] : List Value).toArray st 0 0 A) rk_q_X12_losesQueue.2.2.1 0 0 H locs 2 [] [(0, .ref a0), (1, .int s), (2, .int k)] := by
    intro n
    induction n with
    | zero =>
      intro k f H locs hh hT hst
      refine rv_run hC.1 hC.2.1 (T := rv_t_X12_losesQueue) rv_k_X12_losesQueue 2 ?_
      refine ⟨fun h => fin k _ f H locs hh hT hst, fun h => ?_⟩
      refine rv_run hC.1 hC.2.1 (T := rv_t_X12_losesQueue) rv_k_X12_losesQueue 80 ?_
      refine w_ofEnd hC hh hT hG (by omega) (by omega) 50 (by decide +kernel) rfl rfl hs hsn 8 (by decide) (by decide) (Nat.le_of_ble_eq_true rfl) hcs (fun y H locs hh hy => ?_)
      have ey : y.toInt = 0 := by rw [hy]; exact hst.2.2
      refine rv_run hC.1 hC.2.1 (T := rv_t_X12_losesQueue) rv_k_X12_losesQueue 1 ?_
      refine ⟨fun h => fin k _ f H locs hh hT hst, fun h => absurd h (by show ¬ 0 < y.toInt; omega)⟩
    | succ n ih =>
      intro k f H locs hh hT hst
      refine rv_run hC.1 hC.2.1 (T := rv_t_X12_losesQueue) rv_k_X12_losesQueue 2 ?_
      refine ⟨fun h => fin k _ f H locs hh hT hst, fun h => ?_⟩
      refine rv_run hC.1 hC.2.1 (T := rv_t_X12_losesQueue) rv_k_X12_losesQueue 80 ?_
      refine w_ofEnd hC hh hT hG (by omega) (by omega) 50 (by decide +kernel) rfl rfl hs hsn 8 (by decide) (by decide) (Nat.le_of_ble_eq_true rfl) hcs (fun y H locs hh hy => ?_)
      have ey : y.toInt = ((n + 1 : Nat) : Int) := by rw [hy]; exact hst.2.2
      refine rv_run hC.1 hC.2.1 (T := rv_t_X12_losesQueue) rv_k_X12_losesQueue 1 ?_
      refine ⟨fun h => fin k _ f H locs hh hT hst, fun h => ?_⟩
      refine rv_run hC.1 hC.2.1 (T := rv_t_X12_losesQueue) rv_k_X12_losesQueue 80 ?_
      refine w_h hC hh hT hG (by omega) (by omega) 76 (by decide +kernel) rfl (h_takesQueue base l cI c1 c2 c3 c4 c5 D ad adV a0 s sn hs hsn ((n + 1 : Nat) : Int) (by omega)) ⟨hG, hst.2.2⟩ rfl rfl (Nat.le_of_ble_eq_true rfl) hcs (fun v f H locs hh hT hL hP => ?_)
      obtain ⟨⟨x, rfl, bx⟩, hP⟩ := hP
      rw [Int.add_zero] at hT
      have e8 : ((n + 1 : Nat) : Int) - 1 = (n : Int) := by omega
      rw [e8] at hP
      have hst := rm_qs_c hst hP
      refine w_k hC hh hT hG (by omega) (by omega) 79 (by decide +kernel) rfl (c_X12_isMark base l cI c1 c2 c3 c4 c5 D ad adV) (rk_all_c (rk_aM hG) (rk_all_c rk_aF rk_all_0)) rfl rfl (Nat.le_of_ble_eq_true rfl) hcs (fun v f H locs hh hT hL hA => ?_)
      obtain ⟨x2, rfl⟩ : ∃ x2 : Int32, v = some (.int x2) := by
        obtain ⟨a, ha, h1, -⟩ := hA
        rcases List.mem_cons.mp ha with rfl | ha
        · obtain ⟨w9, e9, x9, e10, -⟩ := h1
          exact ⟨x9, by rw [e9, e10]⟩
        · rw [List.mem_singleton] at ha
          subst ha
          obtain ⟨w9, e9, x9, e10, -⟩ := h1
          exact ⟨x9, by rw [e9, e10]⟩
      have hst := rm_qs_c hst (rm_qs_1 (rm_qs_rf hst.2.2) (rm_lv_up hL rfl) hG hsn)
      rw [Int.add_zero] at hT
      refine rv_run hC.1 hC.2.1 (T := rv_t_X12_losesQueue) rv_k_X12_losesQueue 1 ?_
      refine ⟨fun h => ?_, fun h => ?_⟩
      · refine rv_run hC.1 hC.2.1 (T := rv_t_X12_losesQueue) rv_k_X12_losesQueue 3 ?_
        exact ih _ f H locs hh hT hst
      · refine rv_run hC.1 hC.2.1 (T := rv_t_X12_losesQueue) rv_k_X12_losesQueue 4 ?_
        exact ih _ f H locs hh hT hst
  have hb1 := rm_ecT hT hG (w := 8) hsn (by decide) rfl
  obtain ⟨qn, hqn⟩ : ∃ n : Nat, rm_ec (rm_now G f0 a0) sn 8 = (n : Int) := ⟨(rm_ec (rm_now G f0 a0) sn 8).toNat, by omega⟩
  rw [hqn] at hst
  exact loop qn _ f0 st.heap [] hh hT hst
end RMX
