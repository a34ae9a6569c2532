section RMK
variable {cI c1 c2 c3 c4 c5 : ClassId} {ad : Nat → Nat} {G : Nat → Option Nat} {L : List Nat} {X : Int} {f u : Nat → va_E} {a0 aF aO : Nat} {gF g : Nat → Int32}
theorem rm_inv_e {g h : Nat → Int32} (e : ∀ j, j < 6466 → g j = h j) (hi : rm_inv h) : rm_inv g := by
  intro s hs
  refine rm_iS_eq (fun w hw => ?_) (hi s hs)
  have hw64 : w < 64 := by
    unfold rm_RCw at hw
    simp only [Bool.or_eq_true, Nat.beq_eq] at hw
    omega
  unfold rm_sc
  rw [e _ (by omega)]
theorem rm_rw_ne {i k : Nat} (hT : rm_TY cI c1 c2 c3 c4 c5 ad G X L f) (hfb : ∀ b, b ≠ aO → u b = f b) {b aR : Nat} (hb : b ≠ aO) (hR : aR ≠ aO) {fs : List Value} {ci : Nat} (e1 : f b = .inr (ci, fs)) (n1 : fs[i]? = some (.ref aR)) (n2 : G aR = some k) {n : Nat} {gR : Nat → Int32} (eR : f aR = .inl (cI, n, .inl gR)) : rm_rw G u b i k = rm_rw G f b i k := by
  rw [rm_rw_of (a0 := b) e1 n1 n2 eR]
  exact rm_rw_of (a0 := b) (by rw [hfb b hb]; exact e1) n1 n2 (by rw [hfb aR hR]; exact eR)
theorem rm_cp_0 (hT : rm_TY cI c1 c2 c3 c4 c5 ad G X L f) (hG : G a0 = some 12) (hF : G aF = some 24) (hO : G aO = some 30) (hfb : ∀ b, b ≠ aO → u b = f b) (eF : f aF = .inl (cI, 6466, .inl gF)) (eO : u aO = .inl (cI, 6466, .inl g)) (hg : ∀ j, j < 6466 → g j = gF j) : rm_Lv G 259 f u := by
  have hb12 : ∀ b, G b = some 12 → u b = f b := fun b hb => hfb b (fun h => by rw [h, hO] at hb; cases hb)
  have key : ∀ b, G b = some 12 → rm_now G u b = rm_now G f b ∧ rm_img G u b = rm_img G f b ∧ (rm_one G → rm_asd G u b = g ∧ rm_now G f b = gF) := by
    intro b hb
    have hbO : b ≠ aO := fun h => by rw [h, hO] at hb; cases hb
    obtain ⟨hL0, fs, aN, aA, aT, aH, aI, e1, e2, ⟨n1, n2⟩, ⟨m1, m2⟩, -, -, ⟨i1, i2⟩, -⟩ := rm_me hT hb
    obtain ⟨-, gN, eN, -⟩ := rm_ro hT n2 rfl
    obtain ⟨-, gA, eA, -⟩ := rm_ro hT m2 rfl
    obtain ⟨-, gI, eI, -⟩ := rm_ro hT i2 rfl
    refine ⟨rm_rw_ne hT hfb hbO (fun h => by rw [h, hO] at n2; cases n2) e1 n1 n2 eN, rm_rw_ne hT hfb hbO (fun h => by rw [h, hO] at i2; cases i2) e1 i1 i2 eI, fun h9 => ⟨?_, ?_⟩⟩
    · have e9 : aA = aO := h9.2.2.1 _ _ m2 hO
      rw [e9] at m1
      exact rm_rw_of (a0 := b) (by rw [hb12 b hb]; exact e1) m1 hO eO
    · have e9 : aN = aF := h9.2.1 _ _ n2 hF
      rw [e9] at n1
      exact rm_rw_of (a0 := b) e1 n1 hF eF
  have inv : rm_one G → ∀ b, G b = some 12 → rm_INV G f b → rm_INV G u b := by
    intro h9 b hb hi
    obtain ⟨k1, k2, k3⟩ := key b hb
    obtain ⟨k4, k5⟩ := k3 h9
    obtain ⟨p1, p2, p3⟩ := hi
    refine ⟨?_, ?_, ?_⟩
    · rw [k1]
      exact p1
    · rw [k4]
      exact rm_inv_e hg (by rw [← k5]; exact p1)
    · rw [k2]
      exact p3
  intro b9 hb9 ht
  have hb11 : b9 = 0 ∨ b9 = 1 ∨ b9 = 2 ∨ b9 = 3 ∨ b9 = 4 ∨ b9 = 5 ∨ b9 = 6 ∨ b9 = 7 ∨ b9 = 8 ∨ b9 = 9 ∨ b9 = 10 := by omega
  rcases hb11 with rfl | rfl | rfl | rfl | rfl | rfl | rfl | rfl | rfl | rfl | rfl
  · exact absurd ht (by decide)
  · exact absurd ht (by decide)
  · exact fun h9 b hb hi => ⟨inv h9 b hb hi, fun s hs => by rw [(key b hb).1]; exact Int.le_refl _⟩
  · exact inv
  · exact fun b hb => by rw [hb12 b hb]
  · exact fun b hb j _ => by show rm_now G f b j = rm_now G u b j; rw [(key b hb).1]
  · exact fun b hb j _ => by show rm_now G f b j = rm_now G u b j; rw [(key b hb).1]
  · exact fun b hb => by rw [hb12 b hb]
  · exact absurd ht (by decide)
  · exact fun b hb => by unfold rm_fi; rw [hb12 b hb]; exact ⟨rfl, Int.le_refl _⟩
  · exact fun b hb => by unfold rm_fi; rw [hb12 b hb]; exact Int.le_refl _
theorem rm_cp_1 (hT : rm_TY cI c1 c2 c3 c4 c5 ad G X L f) (hG : G a0 = some 12) (hF : G aF = some 30) (hO : G aO = some 24) (hfb : ∀ b, b ≠ aO → u b = f b) (eF : f aF = .inl (cI, 6466, .inl gF)) (eO : u aO = .inl (cI, 6466, .inl g)) (hg : ∀ j, j < 6466 → g j = gF j) : rm_Lv G 103 f u := by
  have hb12 : ∀ b, G b = some 12 → u b = f b := fun b hb => hfb b (fun h => by rw [h, hO] at hb; cases hb)
  have key : ∀ b, G b = some 12 → rm_asd G u b = rm_asd G f b ∧ rm_img G u b = rm_img G f b ∧ (rm_one G → rm_now G u b = g ∧ rm_asd G f b = gF) := by
    intro b hb
    have hbO : b ≠ aO := fun h => by rw [h, hO] at hb; cases hb
    obtain ⟨hL0, fs, aN, aA, aT, aH, aI, e1, e2, ⟨n1, n2⟩, ⟨m1, m2⟩, -, -, ⟨i1, i2⟩, -⟩ := rm_me hT hb
    obtain ⟨-, gN, eN, -⟩ := rm_ro hT n2 rfl
    obtain ⟨-, gA, eA, -⟩ := rm_ro hT m2 rfl
    obtain ⟨-, gI, eI, -⟩ := rm_ro hT i2 rfl
    refine ⟨rm_rw_ne hT hfb hbO (fun h => by rw [h, hO] at m2; cases m2) e1 m1 m2 eA, rm_rw_ne hT hfb hbO (fun h => by rw [h, hO] at i2; cases i2) e1 i1 i2 eI, fun h9 => ⟨?_, ?_⟩⟩
    · have e9 : aN = aO := h9.2.1 _ _ n2 hO
      rw [e9] at n1
      exact rm_rw_of (a0 := b) (by rw [hb12 b hb]; exact e1) n1 hO eO
    · have e9 : aA = aF := h9.2.2.1 _ _ m2 hF
      rw [e9] at m1
      exact rm_rw_of (a0 := b) e1 m1 hF eF
  have inv : rm_one G → ∀ b, G b = some 12 → rm_INV G f b → rm_INV G u b := by
    intro h9 b hb hi
    obtain ⟨k1, k2, k3⟩ := key b hb
    obtain ⟨k4, k5⟩ := k3 h9
    obtain ⟨p1, p2, p3⟩ := hi
    refine ⟨?_, ?_, ?_⟩
    · rw [k4]
      exact rm_inv_e hg (by rw [← k5]; exact p2)
    · rw [k1]
      exact p2
    · rw [k2]
      exact p3
  intro b9 hb9 ht
  have hb11 : b9 = 0 ∨ b9 = 1 ∨ b9 = 2 ∨ b9 = 3 ∨ b9 = 4 ∨ b9 = 5 ∨ b9 = 6 ∨ b9 = 7 ∨ b9 = 8 ∨ b9 = 9 ∨ b9 = 10 := by omega
  rcases hb11 with rfl | rfl | rfl | rfl | rfl | rfl | rfl | rfl | rfl | rfl | rfl
  · exact absurd ht (by decide)
  · exact absurd ht (by decide)
  · exact absurd ht (by decide)
  · exact inv
  · exact fun b hb => by rw [hb12 b hb]
  · exact absurd ht (by decide)
  · exact absurd ht (by decide)
  · exact fun b hb => by rw [hb12 b hb]
  · exact ⟨fun b hb j _ => by show rm_asd G f b j = rm_asd G u b j; rw [(key b hb).1], fun b hb j _ => by show rm_img G f b j = rm_img G u b j; rw [(key b hb).2.1]⟩
  · exact fun b hb => by unfold rm_fi; rw [hb12 b hb]; exact ⟨rfl, Int.le_refl _⟩
  · exact fun b hb => by unfold rm_fi; rw [hb12 b hb]; exact Int.le_refl _
theorem rm_cp_2 (hT : rm_TY cI c1 c2 c3 c4 c5 ad G X L f) (hG : G a0 = some 12) (hF : G aF = some 24) (hO : G aO = some 31) (hfb : ∀ b, b ≠ aO → u b = f b) (eF : f aF = .inl (cI, 6466, .inl gF)) (eO : u aO = .inl (cI, 6466, .inl g)) (hg : ∀ j, j < 6466 → g j = gF j) : rm_Lv G 259 f u := by
  have hb12 : ∀ b, G b = some 12 → u b = f b := fun b hb => hfb b (fun h => by rw [h, hO] at hb; cases hb)
  have key : ∀ b, G b = some 12 → rm_now G u b = rm_now G f b ∧ rm_asd G u b = rm_asd G f b ∧ (rm_one G → rm_img G u b = g ∧ rm_now G f b = gF) := by
    intro b hb
    have hbO : b ≠ aO := fun h => by rw [h, hO] at hb; cases hb
    obtain ⟨hL0, fs, aN, aA, aT, aH, aI, e1, e2, ⟨n1, n2⟩, ⟨m1, m2⟩, -, -, ⟨i1, i2⟩, -⟩ := rm_me hT hb
    obtain ⟨-, gN, eN, -⟩ := rm_ro hT n2 rfl
    obtain ⟨-, gA, eA, -⟩ := rm_ro hT m2 rfl
    obtain ⟨-, gI, eI, -⟩ := rm_ro hT i2 rfl
    refine ⟨rm_rw_ne hT hfb hbO (fun h => by rw [h, hO] at n2; cases n2) e1 n1 n2 eN, rm_rw_ne hT hfb hbO (fun h => by rw [h, hO] at m2; cases m2) e1 m1 m2 eA, fun h9 => ⟨?_, ?_⟩⟩
    · have e9 : aI = aO := h9.2.2.2 _ _ i2 hO
      rw [e9] at i1
      exact rm_rw_of (a0 := b) (by rw [hb12 b hb]; exact e1) i1 hO eO
    · have e9 : aN = aF := h9.2.1 _ _ n2 hF
      rw [e9] at n1
      exact rm_rw_of (a0 := b) e1 n1 hF eF
  have inv : rm_one G → ∀ b, G b = some 12 → rm_INV G f b → rm_INV G u b := by
    intro h9 b hb hi
    obtain ⟨k1, k2, k3⟩ := key b hb
    obtain ⟨k4, k5⟩ := k3 h9
    obtain ⟨p1, p2, p3⟩ := hi
    refine ⟨?_, ?_, ?_⟩
    · rw [k1]
      exact p1
    · rw [k2]
      exact p2
    · rw [k4]
      exact rm_inv_e hg (by rw [← k5]; exact p1)
  intro b9 hb9 ht
  have hb11 : b9 = 0 ∨ b9 = 1 ∨ b9 = 2 ∨ b9 = 3 ∨ b9 = 4 ∨ b9 = 5 ∨ b9 = 6 ∨ b9 = 7 ∨ b9 = 8 ∨ b9 = 9 ∨ b9 = 10 := by omega
  rcases hb11 with rfl | rfl | rfl | rfl | rfl | rfl | rfl | rfl | rfl | rfl | rfl
  · exact absurd ht (by decide)
  · exact absurd ht (by decide)
  · exact fun h9 b hb hi => ⟨inv h9 b hb hi, fun s hs => by rw [(key b hb).1]; exact Int.le_refl _⟩
  · exact inv
  · exact fun b hb => by rw [hb12 b hb]
  · exact fun b hb j _ => by show rm_now G f b j = rm_now G u b j; rw [(key b hb).1]
  · exact fun b hb j _ => by show rm_now G f b j = rm_now G u b j; rw [(key b hb).1]
  · exact fun b hb => by rw [hb12 b hb]
  · exact absurd ht (by decide)
  · exact fun b hb => by unfold rm_fi; rw [hb12 b hb]; exact ⟨rfl, Int.le_refl _⟩
  · exact fun b hb => by unfold rm_fi; rw [hb12 b hb]; exact Int.le_refl _
theorem rm_cp_3 (hT : rm_TY cI c1 c2 c3 c4 c5 ad G X L f) (hG : G a0 = some 12) (hF : G aF = some 31) (hO : G aO = some 24) (hfb : ∀ b, b ≠ aO → u b = f b) (eF : f aF = .inl (cI, 6466, .inl gF)) (eO : u aO = .inl (cI, 6466, .inl g)) (hg : ∀ j, j < 6466 → g j = gF j) : rm_Lv G 103 f u := by
  have hb12 : ∀ b, G b = some 12 → u b = f b := fun b hb => hfb b (fun h => by rw [h, hO] at hb; cases hb)
  have key : ∀ b, G b = some 12 → rm_asd G u b = rm_asd G f b ∧ rm_img G u b = rm_img G f b ∧ (rm_one G → rm_now G u b = g ∧ rm_img G f b = gF) := by
    intro b hb
    have hbO : b ≠ aO := fun h => by rw [h, hO] at hb; cases hb
    obtain ⟨hL0, fs, aN, aA, aT, aH, aI, e1, e2, ⟨n1, n2⟩, ⟨m1, m2⟩, -, -, ⟨i1, i2⟩, -⟩ := rm_me hT hb
    obtain ⟨-, gN, eN, -⟩ := rm_ro hT n2 rfl
    obtain ⟨-, gA, eA, -⟩ := rm_ro hT m2 rfl
    obtain ⟨-, gI, eI, -⟩ := rm_ro hT i2 rfl
    refine ⟨rm_rw_ne hT hfb hbO (fun h => by rw [h, hO] at m2; cases m2) e1 m1 m2 eA, rm_rw_ne hT hfb hbO (fun h => by rw [h, hO] at i2; cases i2) e1 i1 i2 eI, fun h9 => ⟨?_, ?_⟩⟩
    · have e9 : aN = aO := h9.2.1 _ _ n2 hO
      rw [e9] at n1
      exact rm_rw_of (a0 := b) (by rw [hb12 b hb]; exact e1) n1 hO eO
    · have e9 : aI = aF := h9.2.2.2 _ _ i2 hF
      rw [e9] at i1
      exact rm_rw_of (a0 := b) e1 i1 hF eF
  have inv : rm_one G → ∀ b, G b = some 12 → rm_INV G f b → rm_INV G u b := by
    intro h9 b hb hi
    obtain ⟨k1, k2, k3⟩ := key b hb
    obtain ⟨k4, k5⟩ := k3 h9
    obtain ⟨p1, p2, p3⟩ := hi
    refine ⟨?_, ?_, ?_⟩
    · rw [k4]
      exact rm_inv_e hg (by rw [← k5]; exact p3)
    · rw [k1]
      exact p2
    · rw [k2]
      exact p3
  intro b9 hb9 ht
  have hb11 : b9 = 0 ∨ b9 = 1 ∨ b9 = 2 ∨ b9 = 3 ∨ b9 = 4 ∨ b9 = 5 ∨ b9 = 6 ∨ b9 = 7 ∨ b9 = 8 ∨ b9 = 9 ∨ b9 = 10 := by omega
  rcases hb11 with rfl | rfl | rfl | rfl | rfl | rfl | rfl | rfl | rfl | rfl | rfl
  · exact absurd ht (by decide)
  · exact absurd ht (by decide)
  · exact absurd ht (by decide)
  · exact inv
  · exact fun b hb => by rw [hb12 b hb]
  · exact absurd ht (by decide)
  · exact absurd ht (by decide)
  · exact fun b hb => by rw [hb12 b hb]
  · exact ⟨fun b hb j _ => by show rm_asd G f b j = rm_asd G u b j; rw [(key b hb).1], fun b hb j _ => by show rm_img G f b j = rm_img G u b j; rw [(key b hb).2.1]⟩
  · exact fun b hb => by unfold rm_fi; rw [hb12 b hb]; exact ⟨rfl, Int.le_refl _⟩
  · exact fun b hb => by unfold rm_fi; rw [hb12 b hb]; exact Int.le_refl _
end RMK
def rv_t_X12_copies : rv_T := (.branch 0 (.branch 0 (.branch 0 (.leaf (0, .iconst 0, 1)) (.leaf (12, .iload_n 3, 1))) (.branch 0 (.branch 0 (.branch 0 (.leaf (2, .iload_n 3, 1)) (.leaf (18, .goto (-16), 3))) (.leaf (10, .iload_n 3, 1))) (.branch 0 (.leaf (6, .if_icmp .ge (15), 3)) (.leaf (14, .iastore, 1))))) (.branch 0 (.branch 0 (.branch 0 (.leaf (1, .istore_n 3, 1)) (.leaf (9, .aload_n 2, 1))) (.branch 0 (.leaf (21, .return_, 1)) (.leaf (13, .iaload, 1)))) (.branch 0 (.branch 0 (.leaf (3, .sipush (6466), 3)) (.leaf (11, .aload_n 1, 1))) (.leaf (15, .iinc 3 (1), 3)))))
theorem rv_k_X12_copies : rv_tok cX12_copies rv_t_X12_copies = true := by decide +kernel
section RMX
variable (base : Nat) (l : Launch) (cI c1 c2 c3 c4 c5 : ClassId) (D : va_G) (ad adV : Nat → Nat)
theorem h_copies_0 (a0 aF aO : Nat) : rm_Hm base l cI c1 c2 c3 c4 c5 D ad adV rk_q_X12_copies [.ref a0, .ref aF, .ref aO] (fun G _ f => G a0 = some 12 ∧ G aF = some 24 ∧ G aO = some 30) (fun G _ f v u => v = none) 0 259 := by
  unfold rm_Hm
  refine rm_start (M := rk_q_X12_copies) (rk_hNw base ad adV) (rk_hNc base ad adV) (by decide +kernel) (mt := rk_mt []) (ml := rk_mlf []) (fl := rk_flf rk_ftX12) (fun s args h hN => rk_MlOk_of (fun _ h => absurd h List.not_mem_nil) (by decide +kernel)) (fun s args h hN => rk_flX12 (fun w hw => List.mem_cons_of_mem _ hw) h hN) (rm_cat1 rfl) (Nat.le_of_ble_eq_true rfl) ?_
  intro p e st m below meth c G X L f0 A hC hh hX0 hXC hT hpre
  have hcs : 0 ≤ 0 ∧ 0 ≤ 0 := ⟨Nat.le_refl 0, Nat.le_refl 0⟩
  obtain ⟨hG, hF, hO⟩ := hpre
  have hne : aF ≠ aO := fun h => by rw [h, hO] at hF; cases hF
  have hT0 := hT
  obtain ⟨hLF, gF, eF, tF⟩ := rm_ro hT hF rfl
  have loop : ∀ (d : Nat) (k : Int32) (kn : Nat) (g : Nat → Int32) (f : Nat → va_E) (H : Heap) (locs : List Loc), rm_h D A st L f H locs → rm_TY cI c1 c2 c3 c4 c5 ad G X L f → (∀ b, b ≠ aO → f b = f0 b) → f aO = .inl (cI, 6466, .inl g) → (∀ j, j < kn → g j = gF j) → k.toInt = (kn : Int) → kn + d = 6466 → rv_G p l e { frames := rk_q_X12_copies.2.2.2.2.1, cells := 0, slots := 0, locals := rk_q_X12_copies.2.2.2.2.2 } st m ([.ref a0, .ref aF, .ref aO] : List Value).toArray below meth c (MQ below (rk_Q (fun v u => rm_TY cI c1 c2 c3 c4 c5 ad G (X + 0) L u ∧ rm_Lv G 259 f0 u ∧ (fun G _ f v u => v = none) G X f0 v u) (rk_B D (rk_tys cI c1 c2 c3 c4 c5) L A) A) ([.ref a0, .ref aF, .ref aO] : List Value).toArray st 0 0 A) rk_q_X12_copies.2.2.1 0 0 H locs 2 [] [(0, .ref a0), (1, .ref aF), (2, .ref aO), (3, .int k)] := by
    intro d
    induction d with
    | zero =>
      intro k kn g f H locs hh hT hfb hfO hg hk hd
      refine rv_run hC.1 hC.2.1 (T := rv_t_X12_copies) rv_k_X12_copies 3 ?_
      refine ⟨fun _ => ?_, fun h => absurd h (by show ¬ k.toInt < 6466; omega)⟩
      have hL : rm_Lv G 259 f0 f := rm_cp_0 hT0 hG hF hO hfb eF hfO (fun j hj => hg j (by omega))
      refine rm_vret hC hh (by decide +kernel) rfl ⟨by rw [Int.add_zero]; exact hT, hL, rfl⟩
    | succ d ih =>
      intro k kn g f H locs hh hT hfb hfO hg hk hd
      have e7 := rm_ad (x := k) hk rm_e1 (by omega) (by decide)
      refine rv_run hC.1 hC.2.1 (T := rv_t_X12_copies) rv_k_X12_copies 3 ?_
      refine ⟨fun h => absurd h (by show ¬ 6466 ≤ k.toInt; omega), fun _ => ?_⟩
      obtain ⟨hLO, -⟩ := rm_ro hT hO rfl
      obtain ⟨-, g2, e2, tO⟩ := rm_ro hT hO rfl
      rw [hfO] at e2
      cases e2
      refine rv_run hC.1 hC.2.1 (T := rv_t_X12_copies) rv_k_X12_copies 80 ?_
      refine rm_iald hC hh (by decide +kernel) hLF (by rw [hfb aF hne]; exact eF) rfl (by omega) (by omega) ?_
      refine rm_iast hC hh (by decide +kernel) hLO hfO rfl (by omega) (by omega) (fun H locs hh => ?_)
      rw [rm_clamp hk] at hh
      refine rv_run hC.1 hC.2.1 (T := rv_t_X12_copies) rv_k_X12_copies 2 ?_
      refine ih (k + Int32.ofInt 1) (kn + 1) (upd g kn (gF kn)) _ H locs hh (rk_TY_up hT hO ⟨cI, _, rfl, rfl, fun i hi => ?_⟩) (fun b hb => by rw [va_up_ne _ _ hb]; exact hfb b hb) (va_up_self _ _ _) (fun j hj => ?_) (by rw [e7]; omega) (by omega)
      · by_cases hij : i = kn
        · subst hij
          rw [pk_us]
          exact tF i hi
        · rw [pk_un hij]
          exact tO i hi
      · by_cases hij : j = kn
        · subst hij
          rw [pk_us]
        · rw [pk_un hij]
          exact hg j (by omega)
  obtain ⟨-, gO, eO, tO⟩ := rm_ro hT hO rfl
  refine rv_run hC.1 hC.2.1 (T := rv_t_X12_copies) rv_k_X12_copies 2 ?_
  exact loop 6466 _ 0 gO f0 _ _ hh hT (fun _ _ => rfl) eO (fun j hj => absurd hj (Nat.not_lt_zero _)) rfl rfl
theorem h_copies_1 (a0 aF aO : Nat) : rm_Hm base l cI c1 c2 c3 c4 c5 D ad adV rk_q_X12_copies [.ref a0, .ref aF, .ref aO] (fun G _ f => G a0 = some 12 ∧ G aF = some 30 ∧ G aO = some 24) (fun G _ f v u => v = none) 0 103 := by
  unfold rm_Hm
  refine rm_start (M := rk_q_X12_copies) (rk_hNw base ad adV) (rk_hNc base ad adV) (by decide +kernel) (mt := rk_mt []) (ml := rk_mlf []) (fl := rk_flf rk_ftX12) (fun s args h hN => rk_MlOk_of (fun _ h => absurd h List.not_mem_nil) (by decide +kernel)) (fun s args h hN => rk_flX12 (fun w hw => List.mem_cons_of_mem _ hw) h hN) (rm_cat1 rfl) (Nat.le_of_ble_eq_true rfl) ?_
  intro p e st m below meth c G X L f0 A hC hh hX0 hXC hT hpre
  have hcs : 0 ≤ 0 ∧ 0 ≤ 0 := ⟨Nat.le_refl 0, Nat.le_refl 0⟩
  obtain ⟨hG, hF, hO⟩ := hpre
  have hne : aF ≠ aO := fun h => by rw [h, hO] at hF; cases hF
  have hT0 := hT
  obtain ⟨hLF, gF, eF, tF⟩ := rm_ro hT hF rfl
  have loop : ∀ (d : Nat) (k : Int32) (kn : Nat) (g : Nat → Int32) (f : Nat → va_E) (H : Heap) (locs : List Loc), rm_h D A st L f H locs → rm_TY cI c1 c2 c3 c4 c5 ad G X L f → (∀ b, b ≠ aO → f b = f0 b) → f aO = .inl (cI, 6466, .inl g) → (∀ j, j < kn → g j = gF j) → k.toInt = (kn : Int) → kn + d = 6466 → rv_G p l e { frames := rk_q_X12_copies.2.2.2.2.1, cells := 0, slots := 0, locals := rk_q_X12_copies.2.2.2.2.2 } st m ([.ref a0, .ref aF, .ref aO] : List Value).toArray below meth c (MQ below (rk_Q (fun v u => rm_TY cI c1 c2 c3 c4 c5 ad G (X + 0) L u ∧ rm_Lv G 103 f0 u ∧ (fun G _ f v u => v = none) G X f0 v u) (rk_B D (rk_tys cI c1 c2 c3 c4 c5) L A) A) ([.ref a0, .ref aF, .ref aO] : List Value).toArray st 0 0 A) rk_q_X12_copies.2.2.1 0 0 H locs 2 [] [(0, .ref a0), (1, .ref aF), (2, .ref aO), (3, .int k)] := by
    intro d
    induction d with
    | zero =>
      intro k kn g f H locs hh hT hfb hfO hg hk hd
      refine rv_run hC.1 hC.2.1 (T := rv_t_X12_copies) rv_k_X12_copies 3 ?_
      refine ⟨fun _ => ?_, fun h => absurd h (by show ¬ k.toInt < 6466; omega)⟩
      have hL : rm_Lv G 103 f0 f := rm_cp_1 hT0 hG hF hO hfb eF hfO (fun j hj => hg j (by omega))
      refine rm_vret hC hh (by decide +kernel) rfl ⟨by rw [Int.add_zero]; exact hT, hL, rfl⟩
    | succ d ih =>
      intro k kn g f H locs hh hT hfb hfO hg hk hd
      have e7 := rm_ad (x := k) hk rm_e1 (by omega) (by decide)
      refine rv_run hC.1 hC.2.1 (T := rv_t_X12_copies) rv_k_X12_copies 3 ?_
      refine ⟨fun h => absurd h (by show ¬ 6466 ≤ k.toInt; omega), fun _ => ?_⟩
      obtain ⟨hLO, -⟩ := rm_ro hT hO rfl
      obtain ⟨-, g2, e2, tO⟩ := rm_ro hT hO rfl
      rw [hfO] at e2
      cases e2
      refine rv_run hC.1 hC.2.1 (T := rv_t_X12_copies) rv_k_X12_copies 80 ?_
      refine rm_iald hC hh (by decide +kernel) hLF (by rw [hfb aF hne]; exact eF) rfl (by omega) (by omega) ?_
      refine rm_iast hC hh (by decide +kernel) hLO hfO rfl (by omega) (by omega) (fun H locs hh => ?_)
      rw [rm_clamp hk] at hh
      refine rv_run hC.1 hC.2.1 (T := rv_t_X12_copies) rv_k_X12_copies 2 ?_
      refine ih (k + Int32.ofInt 1) (kn + 1) (upd g kn (gF kn)) _ H locs hh (rk_TY_up hT hO ⟨cI, _, rfl, rfl, fun i hi => ?_⟩) (fun b hb => by rw [va_up_ne _ _ hb]; exact hfb b hb) (va_up_self _ _ _) (fun j hj => ?_) (by rw [e7]; omega) (by omega)
      · by_cases hij : i = kn
        · subst hij
          rw [pk_us]
          exact tF i hi
        · rw [pk_un hij]
          exact tO i hi
      · by_cases hij : j = kn
        · subst hij
          rw [pk_us]
        · rw [pk_un hij]
          exact hg j (by omega)
  obtain ⟨-, gO, eO, tO⟩ := rm_ro hT hO rfl
  refine rv_run hC.1 hC.2.1 (T := rv_t_X12_copies) rv_k_X12_copies 2 ?_
  exact loop 6466 _ 0 gO f0 _ _ hh hT (fun _ _ => rfl) eO (fun j hj => absurd hj (Nat.not_lt_zero _)) rfl rfl
theorem h_copies_2 (a0 aF aO : Nat) : rm_Hm base l cI c1 c2 c3 c4 c5 D ad adV rk_q_X12_copies [.ref a0, .ref aF, .ref aO] (fun G _ f => G a0 = some 12 ∧ G aF = some 24 ∧ G aO = some 31) (fun G _ f v u => v = none) 0 259 := by
  unfold rm_Hm
  refine rm_start (M := rk_q_X12_copies) (rk_hNw base ad adV) (rk_hNc base ad adV) (by decide +kernel) (mt := rk_mt []) (ml := rk_mlf []) (fl := rk_flf rk_ftX12) (fun s args h hN => rk_MlOk_of (fun _ h => absurd h List.not_mem_nil) (by decide +kernel)) (fun s args h hN => rk_flX12 (fun w hw => List.mem_cons_of_mem _ hw) h hN) (rm_cat1 rfl) (Nat.le_of_ble_eq_true rfl) ?_
  intro p e st m below meth c G X L f0 A hC hh hX0 hXC hT hpre
  have hcs : 0 ≤ 0 ∧ 0 ≤ 0 := ⟨Nat.le_refl 0, Nat.le_refl 0⟩
  obtain ⟨hG, hF, hO⟩ := hpre
  have hne : aF ≠ aO := fun h => by rw [h, hO] at hF; cases hF
  have hT0 := hT
  obtain ⟨hLF, gF, eF, tF⟩ := rm_ro hT hF rfl
  have loop : ∀ (d : Nat) (k : Int32) (kn : Nat) (g : Nat → Int32) (f : Nat → va_E) (H : Heap) (locs : List Loc), rm_h D A st L f H locs → rm_TY cI c1 c2 c3 c4 c5 ad G X L f → (∀ b, b ≠ aO → f b = f0 b) → f aO = .inl (cI, 6466, .inl g) → (∀ j, j < kn → g j = gF j) → k.toInt = (kn : Int) → kn + d = 6466 → rv_G p l e { frames := rk_q_X12_copies.2.2.2.2.1, cells := 0, slots := 0, locals := rk_q_X12_copies.2.2.2.2.2 } st m ([.ref a0, .ref aF, .ref aO] : List Value).toArray below meth c (MQ below (rk_Q (fun v u => rm_TY cI c1 c2 c3 c4 c5 ad G (X + 0) L u ∧ rm_Lv G 259 f0 u ∧ (fun G _ f v u => v = none) G X f0 v u) (rk_B D (rk_tys cI c1 c2 c3 c4 c5) L A) A) ([.ref a0, .ref aF, .ref aO] : List Value).toArray st 0 0 A) rk_q_X12_copies.2.2.1 0 0 H locs 2 [] [(0, .ref a0), (1, .ref aF), (2, .ref aO), (3, .int k)] := by
    intro d
    induction d with
    | zero =>
      intro k kn g f H locs hh hT hfb hfO hg hk hd
      refine rv_run hC.1 hC.2.1 (T := rv_t_X12_copies) rv_k_X12_copies 3 ?_
      refine ⟨fun _ => ?_, fun h => absurd h (by show ¬ k.toInt < 6466; omega)⟩
      have hL : rm_Lv G 259 f0 f := rm_cp_2 hT0 hG hF hO hfb eF hfO (fun j hj => hg j (by omega))
      refine rm_vret hC hh (by decide +kernel) rfl ⟨by rw [Int.add_zero]; exact hT, hL, rfl⟩
    | succ d ih =>
      intro k kn g f H locs hh hT hfb hfO hg hk hd
      have e7 := rm_ad (x := k) hk rm_e1 (by omega) (by decide)
      refine rv_run hC.1 hC.2.1 (T := rv_t_X12_copies) rv_k_X12_copies 3 ?_
      refine ⟨fun h => absurd h (by show ¬ 6466 ≤ k.toInt; omega), fun _ => ?_⟩
      obtain ⟨hLO, -⟩ := rm_ro hT hO rfl
      obtain ⟨-, g2, e2, tO⟩ := rm_ro hT hO rfl
      rw [hfO] at e2
      cases e2
      refine rv_run hC.1 hC.2.1 (T := rv_t_X12_copies) rv_k_X12_copies 80 ?_
      refine rm_iald hC hh (by decide +kernel) hLF (by rw [hfb aF hne]; exact eF) rfl (by omega) (by omega) ?_
      refine rm_iast hC hh (by decide +kernel) hLO hfO rfl (by omega) (by omega) (fun H locs hh => ?_)
      rw [rm_clamp hk] at hh
      refine rv_run hC.1 hC.2.1 (T := rv_t_X12_copies) rv_k_X12_copies 2 ?_
      refine ih (k + Int32.ofInt 1) (kn + 1) (upd g kn (gF kn)) _ H locs hh (rk_TY_up hT hO ⟨cI, _, rfl, rfl, fun i hi => ?_⟩) (fun b hb => by rw [va_up_ne _ _ hb]; exact hfb b hb) (va_up_self _ _ _) (fun j hj => ?_) (by rw [e7]; omega) (by omega)
      · by_cases hij : i = kn
        · subst hij
          rw [pk_us]
          exact tF i hi
        · rw [pk_un hij]
          exact tO i hi
      · by_cases hij : j = kn
        · subst hij
          rw [pk_us]
        · rw [pk_un hij]
          exact hg j (by omega)
  obtain ⟨-, gO, eO, tO⟩ := rm_ro hT hO rfl
  refine rv_run hC.1 hC.2.1 (T := rv_t_X12_copies) rv_k_X12_copies 2 ?_
  exact loop 6466 _ 0 gO f0 _ _ hh hT (fun _ _ => rfl) eO (fun j hj => absurd hj (Nat.not_lt_zero _)) rfl rfl
theorem h_copies_3 (a0 aF aO : Nat) : rm_Hm base l cI c1 c2 c3 c4 c5 D ad adV rk_q_X12_copies [.ref a0, .ref aF, .ref aO] (fun G _ f => G a0 = some 12 ∧ G aF = some 31 ∧ G aO = some 24) (fun G _ f v u => v = none) 0 103 := by
  unfold rm_Hm
  refine rm_start (M := rk_q_X12_copies) (rk_hNw base ad adV) (rk_hNc base ad adV) (by decide +kernel) (mt := rk_mt []) (ml := rk_mlf []) (fl := rk_flf rk_ftX12) (fun s args h hN => rk_MlOk_of (fun _ h => absurd h List.not_mem_nil) (by decide +kernel)) (fun s args h hN => rk_flX12 (fun w hw => List.mem_cons_of_mem _ hw) h hN) (rm_cat1 rfl) (Nat.le_of_ble_eq_true rfl) ?_
  intro p e st m below meth c G X L f0 A hC hh hX0 hXC hT hpre
  have hcs : 0 ≤ 0 ∧ 0 ≤ 0 := ⟨Nat.le_refl 0, Nat.le_refl 0⟩
  obtain ⟨hG, hF, hO⟩ := hpre
  have hne : aF ≠ aO := fun h => by rw [h, hO] at hF; cases hF
  have hT0 := hT
  obtain ⟨hLF, gF, eF, tF⟩ := rm_ro hT hF rfl
  have loop : ∀ (d : Nat) (k : Int32) (kn : Nat) (g : Nat → Int32) (f : Nat → va_E) (H : Heap) (locs : List Loc), rm_h D A st L f H locs → rm_TY cI c1 c2 c3 c4 c5 ad G X L f → (∀ b, b ≠ aO → f b = f0 b) → f aO = .inl (cI, 6466, .inl g) → (∀ j, j < kn → g j = gF j) → k.toInt = (kn : Int) → kn + d = 6466 → rv_G p l e { frames := rk_q_X12_copies.2.2.2.2.1, cells := 0, slots := 0, locals := rk_q_X12_copies.2.2.2.2.2 } st m ([.ref a0, .ref aF, .ref aO] : List Value).toArray below meth c (MQ below (rk_Q (fun v u => rm_TY cI c1 c2 c3 c4 c5 ad G (X + 0) L u ∧ rm_Lv G 103 f0 u ∧ (fun G _ f v u => v = none) G X f0 v u) (rk_B D (rk_tys cI c1 c2 c3 c4 c5) L A) A) ([.ref a0, .ref aF, .ref aO] : List Value).toArray st 0 0 A) rk_q_X12_copies.2.2.1 0 0 H locs 2 [] [(0, .ref a0), (1, .ref aF), (2, .ref aO), (3, .int k)] := by
    intro d
    induction d with
    | zero =>
      intro k kn g f H locs hh hT hfb hfO hg hk hd
      refine rv_run hC.1 hC.2.1 (T := rv_t_X12_copies) rv_k_X12_copies 3 ?_
      refine ⟨fun _ => ?_, fun h => absurd h (by show ¬ k.toInt < 6466; omega)⟩
      have hL : rm_Lv G 103 f0 f := rm_cp_3 hT0 hG hF hO hfb eF hfO (fun j hj => hg j (by omega))
      refine rm_vret hC hh (by decide +kernel) rfl ⟨by rw [Int.add_zero]; exact hT, hL, rfl⟩
    | succ d ih =>
      intro k kn g f H locs hh hT hfb hfO hg hk hd
      have e7 := rm_ad (x := k) hk rm_e1 (by omega) (by decide)
      refine rv_run hC.1 hC.2.1 (T := rv_t_X12_copies) rv_k_X12_copies 3 ?_
      refine ⟨fun h => absurd h (by show ¬ 6466 ≤ k.toInt; omega), fun _ => ?_⟩
      obtain ⟨hLO, -⟩ := rm_ro hT hO rfl
      obtain ⟨-, g2, e2, tO⟩ := rm_ro hT hO rfl
      rw [hfO] at e2
      cases e2
      refine rv_run hC.1 hC.2.1 (T := rv_t_X12_copies) rv_k_X12_copies 80 ?_
      refine rm_iald hC hh (by decide +kernel) hLF (by rw [hfb aF hne]; exact eF) rfl (by omega) (by omega) ?_
      refine rm_iast hC hh (by decide +kernel) hLO hfO rfl (by omega) (by omega) (fun H locs hh => ?_)
      rw [rm_clamp hk] at hh
      refine rv_run hC.1 hC.2.1 (T := rv_t_X12_copies) rv_k_X12_copies 2 ?_
      refine ih (k + Int32.ofInt 1) (kn + 1) (upd g kn (gF kn)) _ H locs hh (rk_TY_up hT hO ⟨cI, _, rfl, rfl, fun i hi => ?_⟩) (fun b hb => by rw [va_up_ne _ _ hb]; exact hfb b hb) (va_up_self _ _ _) (fun j hj => ?_) (by rw [e7]; omega) (by omega)
      · by_cases hij : i = kn
        · subst hij
          rw [pk_us]
          exact tF i hi
        · rw [pk_un hij]
          exact tO i hi
      · by_cases hij : j = kn
        · subst hij
          rw [pk_us]
        · rw [pk_un hij]
          exact hg j (by omega)
  obtain ⟨-, gO, eO, tO⟩ := rm_ro hT hO rfl
  refine rv_run hC.1 hC.2.1 (T := rv_t_X12_copies) rv_k_X12_copies 2 ?_
  exact loop 6466 _ 0 gO f0 _ _ hh hT (fun _ _ => rfl) eO (fun j hj => absurd hj (Nat.not_lt_zero _)) rfl rfl
end RMX
