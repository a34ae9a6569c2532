section RMH
variable (base : Nat) (l : Launch) (cI c1 c2 c3 c4 c5 : ClassId) (D : va_G) (ad adV : Nat → Nat)

/-- a contract by hand: before, behind, cost, level -/
def rm_Hm (M : rk_Mt) (av : List Value) (Pre : (Nat → Option Nat) → Int → (Nat → va_E) → Prop) (Post : (Nat → Option Nat) → Int → (Nat → va_E) → Option Value → (Nat → va_E) → Prop) (C : Int) (lv : Nat) : Prop :=
  rm_Met base l rk_K (rk_E ad) (rk_tys cI c1 c2 c3 c4 c5) D (rk_NU base ad adV) M av (fun G X _ f => Pre G X f) (fun G X L f v u => rm_TY cI c1 c2 c3 c4 c5 ad G (X + C) L u ∧ rm_Lv G lv f u ∧ Post G X f v u) C
end RMH
theorem rm_ix {x s w : Int32} {k sn wn : Nat} (hx : x.toInt = (k : Int)) (hk : k ≤ 427) (hs : s.toInt = (sn : Int)) (hw : w.toInt = (wn : Int)) (h1 : sn < 40) (h2 : wn < 6466) : (x * s + w).toInt = ((k * sn + wn : Nat) : Int) := by
  have hm : k * sn ≤ 427 * 40 := Nat.mul_le_mul hk (by omega)
  have e0 : x.toInt * s.toInt = ((k * sn : Nat) : Int) := by rw [hx, hs]; exact (Int.natCast_mul k sn).symm
  have e1 : (x * s).toInt = ((k * sn : Nat) : Int) := by
    rw [rk_mul_e, e0] <;> rw [e0] <;> omega
  generalize k * sn = q at *
  have e3 := rk_add_e (x := x * s) (y := w) (by rw [e1, hw]; omega) (by rw [e1, hw]; omega)
  rw [e3, e1, hw]
  omega
theorem rm_ix2 {b x s w : Int32} {bn k sn wn : Nat} (hb : b.toInt = (bn : Int)) (hbn : bn ≤ 6466) (hx : x.toInt = (k : Int)) (hk : k ≤ 427) (hs : s.toInt = (sn : Int)) (hw : w.toInt = (wn : Int)) (h1 : sn < 40) (h2 : wn < 6466) : (b + x * s + w).toInt = ((bn + k * sn + wn : Nat) : Int) := by
  have hm : k * sn ≤ 427 * 40 := Nat.mul_le_mul hk (by omega)
  have e0 : x.toInt * s.toInt = ((k * sn : Nat) : Int) := by rw [hx, hs]; exact (Int.natCast_mul k sn).symm
  have e1 : (x * s).toInt = ((k * sn : Nat) : Int) := by
    rw [rk_mul_e, e0] <;> rw [e0] <;> omega
  generalize k * sn = q at *
  have e2 := rk_add_e (x := b) (y := x * s) (by rw [e1, hb]; omega) (by rw [e1, hb]; omega)
  rw [e1, hb] at e2
  have e3 := rk_add_e (x := b + x * s) (y := w) (by rw [e2, hw]; omega) (by rw [e2, hw]; omega)
  rw [e3, e2, hw]
  omega
theorem rm_clamp {x : Int32} {n : Nat} (h : x.toInt = (n : Int)) : x.toNatClampNeg = n := by
  obtain ⟨k, e1, e2, e3⟩ := rk_nI (x := x) (by omega)
  rw [e1, nI_clamp e3]
  omega
theorem rm_cat1 {av : List Value} (h : (av.all fun v => Nat.beq v.category 1) = true) : ∀ v ∈ av, v.category = 1 := fun v hv => Nat.eq_of_beq_eq_true (List.all_eq_true.mp h v hv)
/-- the row now, one place of it set -/
theorem rm_set {cI c1 c2 c3 c4 c5 : ClassId} {ad : Nat → Nat} {G : Nat → Option Nat} {X Y : Int} {L : List Nat} {f : Nat → va_E} {a0 aN : Nat} {fs : List Value} {g : Nat → Int32} {j lv : Nat} {x : Int32} (hXY : X ≤ Y) (hT : rm_TY cI c1 c2 c3 c4 c5 ad G X L f) (hG : G a0 = some 12) (e1 : f a0 = .inr (11, fs)) (n1 : fs[1]? = some (.ref aN)) (n2 : G aN = some 24) (eN : f aN = .inl (cI, 6466, .inl g)) (tN : ∀ i, i < 6466 → rk_has G X (rk_E ad 24 i) (.int (g i))) (hx : rk_has G Y (rm_mE j) (.int x)) (hwr : rm_wr lv 24 (j : Int) (j : Int) = true) :
    rm_TY cI c1 c2 c3 c4 c5 ad G Y L (va_up f aN (.inl (cI, 6466, .inl (upd g j x)))) ∧ rm_Lv G lv f (va_up f aN (.inl (cI, 6466, .inl (upd g j x)))) ∧ ∀ i, rm_now G (va_up f aN (.inl (cI, 6466, .inl (upd g j x)))) a0 i = if i = j then x else rm_now G f a0 i := by
  have hne : a0 ≠ aN := fun h => by rw [h, n2] at hG; cases hG
  refine ⟨rk_TY_up (rk_TY_X hXY hT) n2 ?_, (rm_LvOk G).2.2.2 lv f f aN 24 _ j j hwr n2 (Or.inr (Or.inl ⟨cI, 6466, g, upd g j x, eN, rfl, fun i hi => pk_un (by omega)⟩)) (rm_lv_rf lv), fun i => ?_⟩
  · refine ⟨cI, _, rfl, rfl, fun i hi => ?_⟩
    by_cases hij : i = j
    · subst hij
      rw [pk_us]
      exact hx
    · rw [pk_un hij]
      exact rk_has_X hXY (tN i hi)
  · have h1 : rm_now G (va_up f aN (.inl (cI, 6466, .inl (upd g j x)))) a0 = upd g j x := rm_rw_of (a := aN) (fs := fs) (by rw [va_up_ne _ _ hne]; exact e1) n1 n2 (va_up_self _ _ _)
    have h2 : rm_now G f a0 = g := rm_rw_of e1 n1 n2 eN
    rw [h1, h2]
    by_cases hij : i = j
    · subst hij
      rw [if_pos rfl, pk_us]
    · rw [if_neg hij, pk_un hij]
/-- what may be written at a place, by the place alone -/
def rm_okp (lv : Nat) (rc ho : Bool) : Bool := Nat.testBit lv 0 && ((Nat.testBit lv 1 || !rc) && ((Nat.testBit lv 2 || !rc) && ((Nat.testBit lv 3 || !rc) && (Nat.testBit lv 5 || !ho))))
theorem rm_no_1 {P : Nat → Bool} {j : Nat} (h : P j = false) : rm_no P (j : Int) (j : Int) = true := by
  unfold rm_no
  have e : ((j : Int) - (j : Int) + 1).toNat = 1 := by omega
  rw [e, Bool.and_eq_true]
  refine ⟨by simp, ?_⟩
  have e2 : (j : Int).toNat = j := by omega
  rw [e2]
  unfold rm_no1 rm_no1
  rw [h]
  rfl
theorem rm_wr_j {lv j : Nat} {rc ho : Bool} (h1 : rm_RC j = rc) (h2 : rm_HO j = ho) (h3 : rm_TI j = false) (h : rm_okp lv rc ho = true) : rm_wr lv 24 (j : Int) (j : Int) = true := by
  unfold rm_okp at h
  simp only [Bool.and_eq_true, Bool.or_eq_true, Bool.not_eq_true'] at h
  obtain ⟨b0, b1, b2, b3, b5⟩ := h
  have kRC : rc = false → rm_okr 1 24 rm_RC 24 (j : Int) (j : Int) = true := fun hr => by
    unfold rm_okr
    rw [rm_no_1 (h1.trans hr)]
    rfl
  have kHO : ho = false → rm_okr 1 24 rm_HO 24 (j : Int) (j : Int) = true := fun hr => by
    unfold rm_okr
    rw [rm_no_1 (h2.trans hr)]
    rfl
  have kTI : rm_okr 1 24 rm_TI 24 (j : Int) (j : Int) = true := by
    unfold rm_okr
    rw [rm_no_1 h3]
    rfl
  unfold rm_wr rk_wb9
  rw [List.all_eq_true]
  intro b hb
  rw [List.mem_range] at hb
  rw [Bool.or_eq_true]
  have hb11 : b = 0 ∨ b = 1 ∨ b = 2 ∨ b = 3 ∨ b = 4 ∨ b = 5 ∨ b = 6 ∨ b = 7 ∨ b = 8 ∨ b = 9 ∨ b = 10 := by omega
  rcases hb11 with rfl | rfl | rfl | rfl | rfl | rfl | rfl | rfl | rfl | rfl | rfl
  · exact Or.inl b0
  · exact b1.imp id kRC
  · exact b2.imp id (fun hr => by
      show (rm_okr 1 24 rm_RC 24 (j : Int) (j : Int) && _) = true
      rw [kRC hr]
      rfl)
  · exact b3.imp id (fun hr => by
      show (rm_okr 1 24 rm_RC 24 (j : Int) (j : Int) && _) = true
      rw [kRC hr]
      rfl)
  · exact Or.inr rfl
  · exact b5.imp id kHO
  · exact Or.inr kTI
  · exact Or.inr rfl
  · exact Or.inr rfl
  · exact Or.inr rfl
  · exact Or.inr rfl
theorem rm_wr_s {lv sn wn : Nat} (hs : sn < 40) (hw : wn < 64) (h : rm_okp lv (rm_RCw wn) false = true) : rm_wr lv 24 ((64 * sn + wn : Nat) : Int) ((64 * sn + wn : Nat) : Int) = true := by
  refine rm_wr_j (rc := rm_RCw wn) ?_ ?_ ?_ h
  · unfold rm_RC
    have e : (64 * sn + wn) % 64 = wn := by omega
    rw [if_pos (by rw [Nat.blt_eq]; omega), e]
  · unfold rm_HO
    rw [if_pos (by rw [Nat.blt_eq]; omega)]
  · unfold rm_TI
    rw [← Bool.not_eq_true, Nat.beq_eq]
    omega
theorem rm_wr_r {lv rn wn : Nat} (hs : rn < 4) (hw : wn < 75) (h : rm_okp lv false false = true) : rm_wr lv 24 ((2560 + 75 * rn + wn : Nat) : Int) ((2560 + 75 * rn + wn : Nat) : Int) = true := by
  refine rm_wr_j ?_ ?_ ?_ h
  · unfold rm_RC
    rw [if_neg (by rw [Nat.blt_eq]; omega), if_pos (by rw [Nat.blt_eq]; omega)]
  · unfold rm_HO
    rw [if_pos (by rw [Nat.blt_eq]; omega)]
  · unfold rm_TI
    rw [← Bool.not_eq_true, Nat.beq_eq]
    omega
theorem rm_wr_e {lv en wn : Nat} (hs : en < 8) (hw : wn < 427) (h : rm_okp lv (Nat.beq wn 8) (Nat.beq wn 0) = true) : rm_wr lv 24 ((2860 + 427 * en + wn : Nat) : Int) ((2860 + 427 * en + wn : Nat) : Int) = true := by
  have e : (2860 + 427 * en + wn - 2860) % 427 = wn := by omega
  refine rm_wr_j (rc := Nat.beq wn 8) (ho := Nat.beq wn 0) ?_ ?_ ?_ h
  · unfold rm_RC
    rw [if_neg (by rw [Nat.blt_eq]; omega), if_neg (by rw [Nat.blt_eq]; omega), if_pos (by rw [Nat.blt_eq]; omega), e]
  · unfold rm_HO
    rw [if_neg (by rw [Nat.blt_eq]; omega), if_pos (by rw [Nat.blt_eq]; omega), e]
  · unfold rm_TI
    rw [← Bool.not_eq_true, Nat.beq_eq]
    omega
theorem rm_mE_r {r w : Nat} (hr : r < 4) (hw : w < 75) : rm_mE (2560 + 75 * r + w) = rm_mR.getD w rk_full := by
  unfold rm_mE
  have e1 : (2560 + 75 * r + w - 2560) % 75 = w := by omega
  rw [if_neg (by rw [Nat.blt_eq]; omega), if_pos (by rw [Nat.blt_eq]; omega), e1]
def rv_t_X12_at : rv_T := (.branch 0 (.branch 0 (.branch 0 (.branch 0 (.leaf (0, .aload_n 0, 1)) (.leaf (8, .iload_n 2, 1))) (.leaf (4, .bipush (64), 2))) (.branch 0 (.leaf (10, .iaload, 1)) (.leaf (6, .iload_n 1, 1)))) (.branch 0 (.branch 0 (.branch 0 (.leaf (1, .getfield 7, 3)) (.leaf (9, .iadd, 1))) (.leaf (99999, .nop, 1))) (.branch 0 (.leaf (11, .ireturn, 1)) (.leaf (7, .imul, 1)))))
def rv_t_X12_puts : rv_T := (.branch 0 (.branch 0 (.branch 0 (.branch 0 (.leaf (0, .aload_n 0, 1)) (.leaf (8, .iload_n 2, 1))) (.branch 0 (.leaf (4, .bipush (64), 2)) (.leaf (12, .return_, 1)))) (.branch 0 (.leaf (10, .iload_n 3, 1)) (.leaf (6, .iload_n 1, 1)))) (.branch 0 (.branch 0 (.branch 0 (.leaf (1, .getfield 7, 3)) (.leaf (9, .iadd, 1))) (.leaf (99999, .nop, 1))) (.branch 0 (.leaf (11, .iastore, 1)) (.leaf (7, .imul, 1)))))
def rv_t_X12_more : rv_T := (.branch 0 (.branch 0 (.branch 0 (.branch 0 (.branch 0 (.leaf (0, .aload_n 0, 1)) (.leaf (16, .iload_n 1, 1))) (.branch 0 (.leaf (8, .iload_n 2, 1)) (.leaf (24, .return_, 1)))) (.branch 0 (.branch 0 (.leaf (4, .bipush (64), 2)) (.leaf (20, .iaload, 1))) (.leaf (99999, .nop, 1)))) (.branch 0 (.branch 0 (.leaf (18, .iload_n 2, 1)) (.leaf (10, .aload_n 0, 1))) (.branch 0 (.branch 0 (.leaf (6, .iload_n 1, 1)) (.leaf (22, .iadd, 1))) (.leaf (14, .bipush (64), 2))))) (.branch 0 (.branch 0 (.branch 0 (.branch 0 (.leaf (1, .getfield 7, 3)) (.leaf (17, .imul, 1))) (.leaf (9, .iadd, 1))) (.leaf (21, .iconst 1, 1))) (.branch 0 (.branch 0 (.leaf (19, .iadd, 1)) (.leaf (11, .getfield 7, 3))) (.branch 0 (.branch 0 (.leaf (7, .imul, 1)) (.leaf (23, .iastore, 1))) (.leaf (99999, .nop, 1))))))
def rv_t_X12_ofRouter : rv_T := (.branch 0 (.branch 0 (.branch 0 (.leaf (0, .aload_n 0, 1)) (.branch 0 (.leaf (4, .sipush (2560), 3)) (.leaf (12, .iload_n 2, 1)))) (.branch 0 (.leaf (10, .imul, 1)) (.leaf (14, .iaload, 1)))) (.branch 0 (.branch 0 (.branch 0 (.leaf (1, .getfield 7, 3)) (.leaf (9, .iload_n 1, 1))) (.leaf (13, .iadd, 1))) (.branch 0 (.leaf (11, .iadd, 1)) (.branch 0 (.leaf (7, .bipush (75), 2)) (.leaf (15, .ireturn, 1))))))
def rv_t_X12_putsRouter : rv_T := (.branch 0 (.branch 0 (.branch 0 (.branch 0 (.branch 0 (.leaf (0, .aload_n 0, 1)) (.leaf (16, .return_, 1))) (.leaf (99999, .nop, 1))) (.branch 0 (.leaf (4, .sipush (2560), 3)) (.leaf (12, .iload_n 2, 1)))) (.branch 0 (.leaf (10, .imul, 1)) (.leaf (14, .iload_n 3, 1)))) (.branch 0 (.branch 0 (.branch 0 (.leaf (1, .getfield 7, 3)) (.leaf (9, .iload_n 1, 1))) (.leaf (13, .iadd, 1))) (.branch 0 (.leaf (11, .iadd, 1)) (.branch 0 (.leaf (7, .bipush (75), 2)) (.leaf (15, .iastore, 1))))))
def rv_t_X12_moreRouter : rv_T := (.branch 0 (.branch 0 (.branch 0 (.branch 0 (.branch 0 (.branch 0 (.leaf (0, .aload_n 0, 1)) (.leaf (32, .return_, 1))) (.leaf (99999, .nop, 1))) (.leaf (24, .imul, 1))) (.branch 0 (.leaf (4, .sipush (2560), 3)) (.branch 0 (.leaf (12, .iload_n 2, 1)) (.leaf (28, .iaload, 1))))) (.branch 0 (.branch 0 (.leaf (18, .sipush (2560), 3)) (.branch 0 (.leaf (10, .imul, 1)) (.leaf (26, .iload_n 2, 1)))) (.branch 0 (.leaf (99999, .nop, 1)) (.branch 0 (.leaf (14, .aload_n 0, 1)) (.leaf (30, .iadd, 1)))))) (.branch 0 (.branch 0 (.branch 0 (.leaf (1, .getfield 7, 3)) (.branch 0 (.leaf (9, .iload_n 1, 1)) (.leaf (25, .iadd, 1)))) (.branch 0 (.leaf (21, .bipush (75), 2)) (.branch 0 (.leaf (13, .iadd, 1)) (.leaf (29, .iconst 1, 1))))) (.branch 0 (.branch 0 (.leaf (99999, .nop, 1)) (.branch 0 (.leaf (11, .iadd, 1)) (.leaf (27, .iadd, 1)))) (.branch 0 (.branch 0 (.leaf (7, .bipush (75), 2)) (.leaf (23, .iload_n 1, 1))) (.branch 0 (.leaf (15, .getfield 7, 3)) (.leaf (31, .iastore, 1)))))))
def rv_t_X12_ofEnd : rv_T := (.branch 0 (.branch 0 (.branch 0 (.branch 0 (.branch 0 (.leaf (0, .aload_n 0, 1)) (.leaf (16, .ireturn, 1))) (.leaf (99999, .nop, 1))) (.branch 0 (.leaf (4, .sipush (2860), 3)) (.leaf (12, .iadd, 1)))) (.branch 0 (.leaf (10, .iload_n 1, 1)) (.leaf (14, .iadd, 1)))) (.branch 0 (.branch 0 (.leaf (1, .getfield 7, 3)) (.leaf (13, .iload_n 2, 1))) (.branch 0 (.leaf (11, .imul, 1)) (.branch 0 (.leaf (7, .sipush (427), 3)) (.leaf (15, .iaload, 1))))))
def rv_t_X12_putsEnd : rv_T := (.branch 0 (.branch 0 (.branch 0 (.branch 0 (.branch 0 (.leaf (0, .aload_n 0, 1)) (.leaf (16, .iastore, 1))) (.leaf (99999, .nop, 1))) (.branch 0 (.leaf (4, .sipush (2860), 3)) (.leaf (12, .iadd, 1)))) (.branch 0 (.leaf (10, .iload_n 1, 1)) (.leaf (14, .iadd, 1)))) (.branch 0 (.branch 0 (.branch 0 (.branch 0 (.leaf (1, .getfield 7, 3)) (.leaf (17, .return_, 1))) (.leaf (99999, .nop, 1))) (.leaf (13, .iload_n 2, 1))) (.branch 0 (.leaf (11, .imul, 1)) (.branch 0 (.leaf (7, .sipush (427), 3)) (.leaf (15, .iload_n 3, 1))))))
def rv_t_X12_moreEnd : rv_T := (.branch 0 (.branch 0 (.branch 0 (.branch 0 (.branch 0 (.branch 0 (.leaf (0, .aload_n 0, 1)) (.leaf (32, .iadd, 1))) (.leaf (16, .getfield 7, 3))) (.leaf (99999, .nop, 1))) (.branch 0 (.leaf (4, .sipush (2860), 3)) (.branch 0 (.leaf (12, .iadd, 1)) (.leaf (28, .iload_n 2, 1))))) (.branch 0 (.branch 0 (.leaf (34, .return_, 1)) (.branch 0 (.leaf (10, .iload_n 1, 1)) (.leaf (26, .imul, 1)))) (.branch 0 (.leaf (22, .sipush (427), 3)) (.branch 0 (.leaf (14, .iadd, 1)) (.leaf (30, .iaload, 1)))))) (.branch 0 (.branch 0 (.branch 0 (.branch 0 (.branch 0 (.leaf (1, .getfield 7, 3)) (.leaf (33, .iastore, 1))) (.leaf (99999, .nop, 1))) (.leaf (25, .iload_n 1, 1))) (.branch 0 (.leaf (99999, .nop, 1)) (.branch 0 (.leaf (13, .iload_n 2, 1)) (.leaf (29, .iadd, 1))))) (.branch 0 (.branch 0 (.leaf (19, .sipush (2860), 3)) (.branch 0 (.leaf (11, .imul, 1)) (.leaf (27, .iadd, 1)))) (.branch 0 (.leaf (7, .sipush (427), 3)) (.branch 0 (.leaf (15, .aload_n 0, 1)) (.leaf (31, .iconst 1, 1)))))))
section RMX
variable (base : Nat) (l : Launch) (cI c1 c2 c3 c4 c5 : ClassId) (D : va_G) (ad adV : Nat → Nat)
theorem h_at (a0 : Nat) (s w : Int32) {sn wn : Nat} (hs : s.toInt = (sn : Int)) (hw : w.toInt = (wn : Int)) (hsn : sn < 40) (hwn : wn < 64) : rm_Hm base l cI c1 c2 c3 c4 c5 D ad adV rk_q_X12_at [.ref a0, .int s, .int w] (fun G _ _ => G a0 = some 12) (fun G _ f v u => v = some (.int (rm_now G f a0 (64 * sn + wn))) ∧ u = f) 0 0 := by
  unfold rm_Hm
  refine rm_start (M := rk_q_X12_at) (rk_hNw base ad adV) (rk_hNc base ad adV) (by decide +kernel) (mt := rk_mt []) (ml := rk_mlf []) (fl := rk_flf rk_ftX12) (fun s args h hN => rk_MlOk_of (fun _ h => absurd h List.not_mem_nil) (by decide +kernel)) (fun s args h hN => rk_flX12 (fun w hw => List.mem_cons_of_mem _ hw) h hN) (rm_cat1 rfl) (Nat.le_of_ble_eq_true rfl) ?_
  intro p e st m below meth c G X L f A hC hh hX0 hXC hT hpre
  have hG : G a0 = some 12 := hpre
  obtain ⟨hL0, fs, aN, aA, aT, aH, aI, e1, e2, ⟨n1, n2⟩, -⟩ := rm_me hT hG
  obtain ⟨hLN, g, eN, tN⟩ := rm_ro hT n2 rfl
  have ei := rm_ix (x := (Int8.ofInt 64).toInt32) (k := 64) rfl (by decide) hs hw (by omega) (by omega)
  refine rv_run hC.1 hC.2.1 (T := rv_t_X12_at) (by decide +kernel) 20 ?_
  refine rm_get (idx := 7) hC hh (by decide +kernel) rfl hL0 e1 n1 ?_
  refine rv_run hC.1 hC.2.1 (T := rv_t_X12_at) (by decide +kernel) 20 ?_
  refine rm_iald hC hh (by decide +kernel) hLN eN rfl (by rw [ei]; omega) (by rw [ei]; omega) ?_
  refine rm_iret hC hh (by decide +kernel) rfl ⟨by rw [Int.add_zero]; exact hT, rm_lv_rf 0, ?_, rfl⟩
  unfold rm_now
  rw [rm_rw_of e1 n1 n2 eN, rm_clamp ei]
theorem h_puts (lv a0 : Nat) (s w x : Int32) {sn wn : Nat} (hs : s.toInt = (sn : Int)) (hw : w.toInt = (wn : Int)) (hsn : sn < 40) (hwn : wn < 64) (hlv : rm_wr lv 24 ((64 * sn + wn : Nat) : Int) ((64 * sn + wn : Nat) : Int) = true) : rm_Hm base l cI c1 c2 c3 c4 c5 D ad adV rk_q_X12_puts [.ref a0, .int s, .int w, .int x] (fun G X _ => G a0 = some 12 ∧ rk_has G X (rm_mE (64 * sn + wn)) (.int x)) (fun G _ f v u => v = none ∧ ∀ i, rm_now G u a0 i = if i = 64 * sn + wn then x else rm_now G f a0 i) 0 lv := by
  unfold rm_Hm
  refine rm_start (M := rk_q_X12_puts) (rk_hNw base ad adV) (rk_hNc base ad adV) (by decide +kernel) (mt := rk_mt []) (ml := rk_mlf []) (fl := rk_flf rk_ftX12) (fun s args h hN => rk_MlOk_of (fun _ h => absurd h List.not_mem_nil) (by decide +kernel)) (fun s args h hN => rk_flX12 (fun w hw => List.mem_cons_of_mem _ hw) h hN) (rm_cat1 rfl) (Nat.le_of_ble_eq_true rfl) ?_
  intro p e st m below meth c G X L f A hC hh hX0 hXC hT hpre
  obtain ⟨hG, hx⟩ := hpre
  obtain ⟨hL0, fs, aN, aA, aT, aH, aI, e1, e2, ⟨n1, n2⟩, -⟩ := rm_me hT hG
  obtain ⟨hLN, g, eN, tN⟩ := rm_ro hT n2 rfl
  have ei := rm_ix (x := (Int8.ofInt 64).toInt32) (k := 64) rfl (by decide) hs hw (by omega) (by omega)
  refine rv_run hC.1 hC.2.1 (T := rv_t_X12_puts) (by decide +kernel) 20 ?_
  refine rm_get (idx := 7) hC hh (by decide +kernel) rfl hL0 e1 n1 ?_
  refine rv_run hC.1 hC.2.1 (T := rv_t_X12_puts) (by decide +kernel) 20 ?_
  refine rm_iast hC hh (by decide +kernel) hLN eN rfl (by rw [ei]; omega) (by rw [ei]; omega) (fun H1 locs1 hh1 => ?_)
  have hS := rm_set (lv := lv) (Int.le_refl X) hT hG e1 n1 n2 eN tN hx hlv
  rw [rm_clamp ei] at hh1
  refine rm_vret hC hh1 (by decide +kernel) rfl ⟨by rw [Int.add_zero]; exact hS.1, hS.2.1, rfl, hS.2.2⟩
theorem h_more (lv a0 : Nat) (C : Int) (hC0 : 0 ≤ C) (s w : Int32) {sn wn : Nat} (hs : s.toInt = (sn : Int)) (hw : w.toInt = (wn : Int)) (hsn : sn < 40) (hwn : wn < 64) (hlv : rm_wr lv 24 ((64 * sn + wn : Nat) : Int) ((64 * sn + wn : Nat) : Int) = true) : rm_Hm base l cI c1 c2 c3 c4 c5 D ad adV rk_q_X12_more [.ref a0, .int s, .int w] (fun G X f => G a0 = some 12 ∧ rk_has G (X + C) (rm_mE (64 * sn + wn)) (.int (rm_now G f a0 (64 * sn + wn) + Int32.ofInt 1))) (fun G _ f v u => v = none ∧ ∀ i, rm_now G u a0 i = if i = 64 * sn + wn then rm_now G f a0 (64 * sn + wn) + Int32.ofInt 1 else rm_now G f a0 i) C lv := by
  unfold rm_Hm
  refine rm_start (M := rk_q_X12_more) (rk_hNw base ad adV) (rk_hNc base ad adV) (by decide +kernel) (mt := rk_mt []) (ml := rk_mlf []) (fl := rk_flf rk_ftX12) (fun s args h hN => rk_MlOk_of (fun _ h => absurd h List.not_mem_nil) (by decide +kernel)) (fun s args h hN => rk_flX12 (fun w hw => List.mem_cons_of_mem _ hw) h hN) (rm_cat1 rfl) (Nat.le_of_ble_eq_true rfl) ?_
  intro p e st m below meth c G X L f A hC hh hX0 hXC hT hpre
  obtain ⟨hG, hx⟩ := hpre
  obtain ⟨hL0, fs, aN, aA, aT, aH, aI, e1, e2, ⟨n1, n2⟩, -⟩ := rm_me hT hG
  obtain ⟨hLN, g, eN, tN⟩ := rm_ro hT n2 rfl
  have ei := rm_ix (x := (Int8.ofInt 64).toInt32) (k := 64) rfl (by decide) hs hw (by omega) (by omega)
  refine rv_run hC.1 hC.2.1 (T := rv_t_X12_more) (by decide +kernel) 20 ?_
  refine rm_get (idx := 7) hC hh (by decide +kernel) rfl hL0 e1 n1 ?_
  refine rv_run hC.1 hC.2.1 (T := rv_t_X12_more) (by decide +kernel) 20 ?_
  refine rm_get (idx := 7) hC hh (by decide +kernel) rfl hL0 e1 n1 ?_
  refine rv_run hC.1 hC.2.1 (T := rv_t_X12_more) (by decide +kernel) 20 ?_
  refine rm_iald hC hh (by decide +kernel) hLN eN rfl (by rw [ei]; omega) (by rw [ei]; omega) ?_
  refine rv_run hC.1 hC.2.1 (T := rv_t_X12_more) (by decide +kernel) 20 ?_
  refine rm_iast hC hh (by decide +kernel) hLN eN rfl (by rw [ei]; omega) (by rw [ei]; omega) (fun H1 locs1 hh1 => ?_)
  have hS := rm_set (lv := lv) (Y := X + C) (by omega) hT hG e1 n1 n2 eN tN hx hlv
  have eg : rm_now G f a0 = g := rm_rw_of e1 n1 n2 eN
  rw [rm_clamp ei, ← eg] at hh1
  rw [eg] at hS
  rw [eg] at hh1
  refine rm_vret hC hh1 (by decide +kernel) rfl ⟨hS.1, hS.2.1, rfl, ?_⟩
  intro i
  rw [hS.2.2 i, eg]
theorem h_ofRouter (a0 : Nat) (s w : Int32) {sn wn : Nat} (hs : s.toInt = (sn : Int)) (hw : w.toInt = (wn : Int)) (hsn : sn < 4) (hwn : wn < 75) : rm_Hm base l cI c1 c2 c3 c4 c5 D ad adV rk_q_X12_ofRouter [.ref a0, .int s, .int w] (fun G _ _ => G a0 = some 12) (fun G _ f v u => v = some (.int (rm_now G f a0 (2560 + 75 * sn + wn))) ∧ u = f) 0 0 := by
  unfold rm_Hm
  refine rm_start (M := rk_q_X12_ofRouter) (rk_hNw base ad adV) (rk_hNc base ad adV) (by decide +kernel) (mt := rk_mt []) (ml := rk_mlf []) (fl := rk_flf rk_ftX12) (fun s args h hN => rk_MlOk_of (fun _ h => absurd h List.not_mem_nil) (by decide +kernel)) (fun s args h hN => rk_flX12 (fun w hw => List.mem_cons_of_mem _ hw) h hN) (rm_cat1 rfl) (Nat.le_of_ble_eq_true rfl) ?_
  intro p e st m below meth c G X L f A hC hh hX0 hXC hT hpre
  have hG : G a0 = some 12 := hpre
  obtain ⟨hL0, fs, aN, aA, aT, aH, aI, e1, e2, ⟨n1, n2⟩, -⟩ := rm_me hT hG
  obtain ⟨hLN, g, eN, tN⟩ := rm_ro hT n2 rfl
  have ei := rm_ix2 (b := (Int16.ofInt 2560).toInt32) (bn := 2560) (x := (Int8.ofInt 75).toInt32) (k := 75) rfl (by decide) rfl (by decide) hs hw (by omega) (by omega)
  refine rv_run hC.1 hC.2.1 (T := rv_t_X12_ofRouter) (by decide +kernel) 20 ?_
  refine rm_get (idx := 7) hC hh (by decide +kernel) rfl hL0 e1 n1 ?_
  refine rv_run hC.1 hC.2.1 (T := rv_t_X12_ofRouter) (by decide +kernel) 20 ?_
  refine rm_iald hC hh (by decide +kernel) hLN eN rfl (by rw [ei]; omega) (by rw [ei]; omega) ?_
  refine rm_iret hC hh (by decide +kernel) rfl ⟨by rw [Int.add_zero]; exact hT, rm_lv_rf 0, ?_, rfl⟩
  unfold rm_now
  rw [rm_rw_of e1 n1 n2 eN, rm_clamp ei]
theorem h_putsRouter (lv a0 : Nat) (s w x : Int32) {sn wn : Nat} (hs : s.toInt = (sn : Int)) (hw : w.toInt = (wn : Int)) (hsn : sn < 4) (hwn : wn < 75) (hlv : rm_wr lv 24 ((2560 + 75 * sn + wn : Nat) : Int) ((2560 + 75 * sn + wn : Nat) : Int) = true) : rm_Hm base l cI c1 c2 c3 c4 c5 D ad adV rk_q_X12_putsRouter [.ref a0, .int s, .int w, .int x] (fun G X _ => G a0 = some 12 ∧ rk_has G X (rm_mE (2560 + 75 * sn + wn)) (.int x)) (fun G _ f v u => v = none ∧ ∀ i, rm_now G u a0 i = if i = 2560 + 75 * sn + wn then x else rm_now G f a0 i) 0 lv := by
  unfold rm_Hm
  refine rm_start (M := rk_q_X12_putsRouter) (rk_hNw base ad adV) (rk_hNc base ad adV) (by decide +kernel) (mt := rk_mt []) (ml := rk_mlf []) (fl := rk_flf rk_ftX12) (fun s args h hN => rk_MlOk_of (fun _ h => absurd h List.not_mem_nil) (by decide +kernel)) (fun s args h hN => rk_flX12 (fun w hw => List.mem_cons_of_mem _ hw) h hN) (rm_cat1 rfl) (Nat.le_of_ble_eq_true rfl) ?_
  intro p e st m below meth c G X L f A hC hh hX0 hXC hT hpre
  obtain ⟨hG, hx⟩ := hpre
  obtain ⟨hL0, fs, aN, aA, aT, aH, aI, e1, e2, ⟨n1, n2⟩, -⟩ := rm_me hT hG
  obtain ⟨hLN, g, eN, tN⟩ := rm_ro hT n2 rfl
  have ei := rm_ix2 (b := (Int16.ofInt 2560).toInt32) (bn := 2560) (x := (Int8.ofInt 75).toInt32) (k := 75) rfl (by decide) rfl (by decide) hs hw (by omega) (by omega)
  refine rv_run hC.1 hC.2.1 (T := rv_t_X12_putsRouter) (by decide +kernel) 20 ?_
  refine rm_get (idx := 7) hC hh (by decide +kernel) rfl hL0 e1 n1 ?_
  refine rv_run hC.1 hC.2.1 (T := rv_t_X12_putsRouter) (by decide +kernel) 20 ?_
  refine rm_iast hC hh (by decide +kernel) hLN eN rfl (by rw [ei]; omega) (by rw [ei]; omega) (fun H1 locs1 hh1 => ?_)
  have hS := rm_set (lv := lv) (Int.le_refl X) hT hG e1 n1 n2 eN tN hx hlv
  rw [rm_clamp ei] at hh1
  refine rm_vret hC hh1 (by decide +kernel) rfl ⟨by rw [Int.add_zero]; exact hS.1, hS.2.1, rfl, hS.2.2⟩
theorem h_moreRouter (lv a0 : Nat) (C : Int) (hC0 : 0 ≤ C) (s w : Int32) {sn wn : Nat} (hs : s.toInt = (sn : Int)) (hw : w.toInt = (wn : Int)) (hsn : sn < 4) (hwn : wn < 75) (hlv : rm_wr lv 24 ((2560 + 75 * sn + wn : Nat) : Int) ((2560 + 75 * sn + wn : Nat) : Int) = true) : rm_Hm base l cI c1 c2 c3 c4 c5 D ad adV rk_q_X12_moreRouter [.ref a0, .int s, .int w] (fun G X f => G a0 = some 12 ∧ rk_has G (X + C) (rm_mE (2560 + 75 * sn + wn)) (.int (rm_now G f a0 (2560 + 75 * sn + wn) + Int32.ofInt 1))) (fun G _ f v u => v = none ∧ ∀ i, rm_now G u a0 i = if i = 2560 + 75 * sn + wn then rm_now G f a0 (2560 + 75 * sn + wn) + Int32.ofInt 1 else rm_now G f a0 i) C lv := by
  unfold rm_Hm
  refine rm_start (M := rk_q_X12_moreRouter) (rk_hNw base ad adV) (rk_hNc base ad adV) (by decide +kernel) (mt := rk_mt []) (ml := rk_mlf []) (fl := rk_flf rk_ftX12) (fun s args h hN => rk_MlOk_of (fun _ h => absurd h List.not_mem_nil) (by decide +kernel)) (fun s args h hN => rk_flX12 (fun w hw => List.mem_cons_of_mem _ hw) h hN) (rm_cat1 rfl) (Nat.le_of_ble_eq_true rfl) ?_
  intro p e st m below meth c G X L f A hC hh hX0 hXC hT hpre
  obtain ⟨hG, hx⟩ := hpre
  obtain ⟨hL0, fs, aN, aA, aT, aH, aI, e1, e2, ⟨n1, n2⟩, -⟩ := rm_me hT hG
  obtain ⟨hLN, g, eN, tN⟩ := rm_ro hT n2 rfl
  have ei := rm_ix2 (b := (Int16.ofInt 2560).toInt32) (bn := 2560) (x := (Int8.ofInt 75).toInt32) (k := 75) rfl (by decide) rfl (by decide) hs hw (by omega) (by omega)
  refine rv_run hC.1 hC.2.1 (T := rv_t_X12_moreRouter) (by decide +kernel) 20 ?_
  refine rm_get (idx := 7) hC hh (by decide +kernel) rfl hL0 e1 n1 ?_
  refine rv_run hC.1 hC.2.1 (T := rv_t_X12_moreRouter) (by decide +kernel) 20 ?_
  refine rm_get (idx := 7) hC hh (by decide +kernel) rfl hL0 e1 n1 ?_
  refine rv_run hC.1 hC.2.1 (T := rv_t_X12_moreRouter) (by decide +kernel) 20 ?_
  refine rm_iald hC hh (by decide +kernel) hLN eN rfl (by rw [ei]; omega) (by rw [ei]; omega) ?_
  refine rv_run hC.1 hC.2.1 (T := rv_t_X12_moreRouter) (by decide +kernel) 20 ?_
  refine rm_iast hC hh (by decide +kernel) hLN eN rfl (by rw [ei]; omega) (by rw [ei]; omega) (fun H1 locs1 hh1 => ?_)
  have hS := rm_set (lv := lv) (Y := X + C) (by omega) hT hG e1 n1 n2 eN tN hx hlv
  have eg : rm_now G f a0 = g := rm_rw_of e1 n1 n2 eN
  rw [rm_clamp ei, ← eg] at hh1
  rw [eg] at hS
  rw [eg] at hh1
  refine rm_vret hC hh1 (by decide +kernel) rfl ⟨hS.1, hS.2.1, rfl, ?_⟩
  intro i
  rw [hS.2.2 i, eg]
theorem h_ofEnd (a0 : Nat) (s w : Int32) {sn wn : Nat} (hs : s.toInt = (sn : Int)) (hw : w.toInt = (wn : Int)) (hsn : sn < 8) (hwn : wn < 427) : rm_Hm base l cI c1 c2 c3 c4 c5 D ad adV rk_q_X12_ofEnd [.ref a0, .int s, .int w] (fun G _ _ => G a0 = some 12) (fun G _ f v u => v = some (.int (rm_now G f a0 (2860 + 427 * sn + wn))) ∧ u = f) 0 0 := by
  unfold rm_Hm
  refine rm_start (M := rk_q_X12_ofEnd) (rk_hNw base ad adV) (rk_hNc base ad adV) (by decide +kernel) (mt := rk_mt []) (ml := rk_mlf []) (fl := rk_flf rk_ftX12) (fun s args h hN => rk_MlOk_of (fun _ h => absurd h List.not_mem_nil) (by decide +kernel)) (fun s args h hN => rk_flX12 (fun w hw => List.mem_cons_of_mem _ hw) h hN) (rm_cat1 rfl) (Nat.le_of_ble_eq_true rfl) ?_
  intro p e st m below meth c G X L f A hC hh hX0 hXC hT hpre
  have hG : G a0 = some 12 := hpre
  obtain ⟨hL0, fs, aN, aA, aT, aH, aI, e1, e2, ⟨n1, n2⟩, -⟩ := rm_me hT hG
  obtain ⟨hLN, g, eN, tN⟩ := rm_ro hT n2 rfl
  have ei := rm_ix2 (b := (Int16.ofInt 2860).toInt32) (bn := 2860) (x := (Int16.ofInt 427).toInt32) (k := 427) rfl (by decide) rfl (by decide) hs hw (by omega) (by omega)
  refine rv_run hC.1 hC.2.1 (T := rv_t_X12_ofEnd) (by decide +kernel) 20 ?_
  refine rm_get (idx := 7) hC hh (by decide +kernel) rfl hL0 e1 n1 ?_
  refine rv_run hC.1 hC.2.1 (T := rv_t_X12_ofEnd) (by decide +kernel) 20 ?_
  refine rm_iald hC hh (by decide +kernel) hLN eN rfl (by rw [ei]; omega) (by rw [ei]; omega) ?_
  refine rm_iret hC hh (by decide +kernel) rfl ⟨by rw [Int.add_zero]; exact hT, rm_lv_rf 0, ?_, rfl⟩
  unfold rm_now
  rw [rm_rw_of e1 n1 n2 eN, rm_clamp ei]
theorem h_putsEnd (lv a0 : Nat) (s w x : Int32) {sn wn : Nat} (hs : s.toInt = (sn : Int)) (hw : w.toInt = (wn : Int)) (hsn : sn < 8) (hwn : wn < 427) (hlv : rm_wr lv 24 ((2860 + 427 * sn + wn : Nat) : Int) ((2860 + 427 * sn + wn : Nat) : Int) = true) : rm_Hm base l cI c1 c2 c3 c4 c5 D ad adV rk_q_X12_putsEnd [.ref a0, .int s, .int w, .int x] (fun G X _ => G a0 = some 12 ∧ rk_has G X (rm_mE (2860 + 427 * sn + wn)) (.int x)) (fun G _ f v u => v = none ∧ ∀ i, rm_now G u a0 i = if i = 2860 + 427 * sn + wn then x else rm_now G f a0 i) 0 lv := by
  unfold rm_Hm
  refine rm_start (M := rk_q_X12_putsEnd) (rk_hNw base ad adV) (rk_hNc base ad adV) (by decide +kernel) (mt := rk_mt []) (ml := rk_mlf []) (fl := rk_flf rk_ftX12) (fun s args h hN => rk_MlOk_of (fun _ h => absurd h List.not_mem_nil) (by decide +kernel)) (fun s args h hN => rk_flX12 (fun w hw => List.mem_cons_of_mem _ hw) h hN) (rm_cat1 rfl) (Nat.le_of_ble_eq_true rfl) ?_
  intro p e st m below meth c G X L f A hC hh hX0 hXC hT hpre
  obtain ⟨hG, hx⟩ := hpre
  obtain ⟨hL0, fs, aN, aA, aT, aH, aI, e1, e2, ⟨n1, n2⟩, -⟩ := rm_me hT hG
  obtain ⟨hLN, g, eN, tN⟩ := rm_ro hT n2 rfl
  have ei := rm_ix2 (b := (Int16.ofInt 2860).toInt32) (bn := 2860) (x := (Int16.ofInt 427).toInt32) (k := 427) rfl (by decide) rfl (by decide) hs hw (by omega) (by omega)
  refine rv_run hC.1 hC.2.1 (T := rv_t_X12_putsEnd) (by decide +kernel) 20 ?_
  refine rm_get (idx := 7) hC hh (by decide +kernel) rfl hL0 e1 n1 ?_
  refine rv_run hC.1 hC.2.1 (T := rv_t_X12_putsEnd) (by decide +kernel) 20 ?_
  refine rm_iast hC hh (by decide +kernel) hLN eN rfl (by rw [ei]; omega) (by rw [ei]; omega) (fun H1 locs1 hh1 => ?_)
  have hS := rm_set (lv := lv) (Int.le_refl X) hT hG e1 n1 n2 eN tN hx hlv
  rw [rm_clamp ei] at hh1
  refine rm_vret hC hh1 (by decide +kernel) rfl ⟨by rw [Int.add_zero]; exact hS.1, hS.2.1, rfl, hS.2.2⟩
theorem h_moreEnd (lv a0 : Nat) (C : Int) (hC0 : 0 ≤ C) (s w : Int32) {sn wn : Nat} (hs : s.toInt = (sn : Int)) (hw : w.toInt = (wn : Int)) (hsn : sn < 8) (hwn : wn < 427) (hlv : rm_wr lv 24 ((2860 + 427 * sn + wn : Nat) : Int) ((2860 + 427 * sn + wn : Nat) : Int) = true) : rm_Hm base l cI c1 c2 c3 c4 c5 D ad adV rk_q_X12_moreEnd [.ref a0, .int s, .int w] (fun G X f => G a0 = some 12 ∧ rk_has G (X + C) (rm_mE (2860 + 427 * sn + wn)) (.int (rm_now G f a0 (2860 + 427 * sn + wn) + Int32.ofInt 1))) (fun G _ f v u => v = none ∧ ∀ i, rm_now G u a0 i = if i = 2860 + 427 * sn + wn then rm_now G f a0 (2860 + 427 * sn + wn) + Int32.ofInt 1 else rm_now G f a0 i) C lv := by
  unfold rm_Hm
  refine rm_start (M := rk_q_X12_moreEnd) (rk_hNw base ad adV) (rk_hNc base ad adV) (by decide +kernel) (mt := rk_mt []) (ml := rk_mlf []) (fl := rk_flf rk_ftX12) (fun s args h hN => rk_MlOk_of (fun _ h => absurd h List.not_mem_nil) (by decide +kernel)) (fun s args h hN => rk_flX12 (fun w hw => List.mem_cons_of_mem _ hw) h hN) (rm_cat1 rfl) (Nat.le_of_ble_eq_true rfl) ?_
  intro p e st m below meth c G X L f A hC hh hX0 hXC hT hpre
  obtain ⟨hG, hx⟩ := hpre
  obtain ⟨hL0, fs, aN, aA, aT, aH, aI, e1, e2, ⟨n1, n2⟩, -⟩ := rm_me hT hG
  obtain ⟨hLN, g, eN, tN⟩ := rm_ro hT n2 rfl
  have ei := rm_ix2 (b := (Int16.ofInt 2860).toInt32) (bn := 2860) (x := (Int16.ofInt 427).toInt32) (k := 427) rfl (by decide) rfl (by decide) hs hw (by omega) (by omega)
  refine rv_run hC.1 hC.2.1 (T := rv_t_X12_moreEnd) (by decide +kernel) 20 ?_
  refine rm_get (idx := 7) hC hh (by decide +kernel) rfl hL0 e1 n1 ?_
  refine rv_run hC.1 hC.2.1 (T := rv_t_X12_moreEnd) (by decide +kernel) 20 ?_
  refine rm_get (idx := 7) hC hh (by decide +kernel) rfl hL0 e1 n1 ?_
  refine rv_run hC.1 hC.2.1 (T := rv_t_X12_moreEnd) (by decide +kernel) 20 ?_
  refine rm_iald hC hh (by decide +kernel) hLN eN rfl (by rw [ei]; omega) (by rw [ei]; omega) ?_
  refine rv_run hC.1 hC.2.1 (T := rv_t_X12_moreEnd) (by decide +kernel) 20 ?_
  refine rm_iast hC hh (by decide +kernel) hLN eN rfl (by rw [ei]; omega) (by rw [ei]; omega) (fun H1 locs1 hh1 => ?_)
  have hS := rm_set (lv := lv) (Y := X + C) (by omega) hT hG e1 n1 n2 eN tN hx hlv
  have eg : rm_now G f a0 = g := rm_rw_of e1 n1 n2 eN
  rw [rm_clamp ei, ← eg] at hh1
  rw [eg] at hS
  rw [eg] at hh1
  refine rm_vret hC hh1 (by decide +kernel) rfl ⟨hS.1, hS.2.1, rfl, ?_⟩
  intro i
  rw [hS.2.2 i, eg]
end RMX
