theorem rm_mono {l : Launch} {y : MethodName} {ws : List Jvm.Cond} {rm : Room} {Pc : Array Value → State → Prop} {Qc Qc' : Array Value → State → Outcome → State → Prop} {mc ms : Nat} {free : Addr → Prop} (h : Met l y ws rm Pc Qc mc ms free) (hQ : ∀ a s o t, Qc a s o t → Qc' a s o t) : Met l y ws rm Pc Qc' mc ms free := MetFree.mono h (fun _ _ h => h) (fun _ _ _ _ _ h => h) (fun a s o t _ hq => ⟨hQ a s o t hq.1, hq.2⟩)
theorem rk_all_cons {G : Nat → Option Nat} {X : Int} {t : rk_AV} {ts : List rk_AV} {av : List Value} (h : rk_all G X (t :: ts) av) : ∃ (v : Value) (vs : List Value), av = v :: vs ∧ rk_has G X t v ∧ rk_all G X ts vs := by
  cases av with
  | nil => exact absurd h.1 (by simp)
  | cons v vs => exact ⟨v, vs, rfl, h.2 0 t v rfl rfl, by have := h.1; simpa using this, fun i u w hu hw => h.2 (i + 1) u w (by rw [List.getElem?_cons_succ]; exact hu) (by rw [List.getElem?_cons_succ]; exact hw)⟩
theorem rk_all_nil {G : Nat → Option Nat} {X : Int} {av : List Value} (h : rk_all G X [] av) : av = [] := by
  cases av with
  | nil => rfl
  | cons v vs => exact absurd h.1 (by simp)
theorem rk_alt_1 {G : Nat → Option Nat} {X : Int} {av : List Value} {t : rk_AV} {w : Value} (h : rk_has G X t w) (h9 : t.1 ≠ 9) : rk_alt G X av [(t, [])] (some w) := ⟨_, List.mem_singleton.mpr rfl, by rw [if_neg h9]; exact ⟨w, rfl, h⟩, fun q hq => absurd hq List.not_mem_nil⟩
theorem rk_alt_0 {G : Nat → Option Nat} {X : Int} {av : List Value} : rk_alt G X av [((9, 0, 0), [])] none := ⟨_, List.mem_singleton.mpr rfl, rfl, fun q hq => absurd hq List.not_mem_nil⟩
/-- all places from c to d -/
def rm_al (n : Nat) (c d : Int) (F : Nat → Bool) : Bool := (List.range n).all (fun w => !(decide (c ≤ (w : Int)) && decide ((w : Int) ≤ d)) || F w)
theorem rm_al_ok {n : Nat} {c d : Int} {F : Nat → Bool} (h : rm_al n c d F = true) {w : Nat} (hw : w < n) (h1 : c ≤ (w : Int)) (h2 : (w : Int) ≤ d) : F w = true := by
  have := List.all_eq_true.mp h w (List.mem_range.mpr hw)
  simp only [Bool.or_eq_true, Bool.not_eq_true', Bool.and_eq_false_imp, decide_eq_true_eq, decide_eq_false_iff_not] at this
  rcases this with h3 | h3
  · exact absurd h2 (h3 h1)
  · exact h3
section RMX
variable (base : Nat) (l : Launch) (cI c1 c2 c3 c4 c5 : ClassId) (D : va_G) (ad adV : Nat → Nat)
theorem rm_tok {M : rk_Mt} {avs : List rk_AV} {alts : List rk_Alt} {C : Int} {lv : Nat} (h : ∀ (G : Nat → Option Nat) (X : Int) (L : List Nat) (f : Nat → va_E) (av : List Value), 0 ≤ X → X + C ≤ rk_top → rk_all G X avs av → rm_TY cI c1 c2 c3 c4 c5 ad G X L f → ∃ (Pre : (Nat → Option Nat) → Int → (Nat → va_E) → Prop) (Post : (Nat → Option Nat) → Int → (Nat → va_E) → Option Value → (Nat → va_E) → Prop) (C1 : Int), rm_Hm base l cI c1 c2 c3 c4 c5 D ad adV M av Pre Post C1 lv ∧ Pre G X f ∧ C1 ≤ C ∧ ∀ v u, rm_TY cI c1 c2 c3 c4 c5 ad G (X + C1) L u → Post G X f v u → rk_alt G (X + C) av alts v) : rm_Mc base l cI c1 c2 c3 c4 c5 D ad adV M avs alts C lv := by
  intro G X L f av sz hX hXC hall hT _ hBL hBs
  obtain ⟨Pre, Post, C1, hM, hp, hC, hq⟩ := h G X L f av hX hXC hall hT
  refine rm_mono (hM G X L f sz hX (by omega) hT hp hBL hBs) (fun a s o t hQ => ?_)
  obtain ⟨⟨v, u, e1, ⟨hT1, hL1, hP1⟩, hB⟩, hF⟩ := hQ
  exact ⟨⟨v, u, e1, ⟨hq v u hT1 hP1, rk_TY_X (by omega) hT1, hL1⟩, hB⟩, hF⟩
theorem rm_toki {M : rk_Mt} {avs : List rk_AV} {alts : List rk_Alt} {C : Int} {lv : Nat} (h : ∀ (G : Nat → Option Nat) (X : Int) (L : List Nat) (f : Nat → va_E) (av : List Value), 0 ≤ X → X + C ≤ rk_top → rk_all G X avs av → rm_TY cI c1 c2 c3 c4 c5 ad G X L f → rm_PI G f → ∃ (Pre : (Nat → Option Nat) → Int → (Nat → va_E) → Prop) (Post : (Nat → Option Nat) → Int → (Nat → va_E) → Option Value → (Nat → va_E) → Prop) (C1 : Int), rm_Hm base l cI c1 c2 c3 c4 c5 D ad adV M av Pre Post C1 lv ∧ Pre G X f ∧ C1 ≤ C ∧ ∀ v u, rm_TY cI c1 c2 c3 c4 c5 ad G (X + C1) L u → Post G X f v u → rk_alt G (X + C) av alts v) : rm_Mi base l cI c1 c2 c3 c4 c5 D ad adV M avs alts C lv := by
  intro G X L f av sz hX hXC hall hT hPI hBL hBs
  obtain ⟨Pre, Post, C1, hM, hp, hC, hq⟩ := h G X L f av hX hXC hall hT hPI
  refine rm_mono (hM G X L f sz hX (by omega) hT hp hBL hBs) (fun a s o t hQ => ?_)
  obtain ⟨⟨v, u, e1, ⟨hT1, hL1, hP1⟩, hB⟩, hF⟩ := hQ
  exact ⟨⟨v, u, e1, ⟨hq v u hT1 hP1, rk_TY_X (by omega) hT1, hL1⟩, hB⟩, hF⟩
theorem k_at (c d : Int) (T : rk_AV) (hc : 0 ≤ c) (hd : d < 64) (h9 : T.1 ≠ 9) (hle : rm_al 64 c d (fun w => rk_le (rm_mS.getD w rk_full) T) = true) : rm_Mc base l cI c1 c2 c3 c4 c5 D ad adV rk_q_X12_at [(2, 12, 0), (0, 0, 39), (0, c, d)] [(T, [])] 0 0 := by
  refine rm_tok base l cI c1 c2 c3 c4 c5 D ad adV ?_
  intro G X L f av hX hXC hall hT
  obtain ⟨v0, vs0, rfl, ⟨a0, rfl, hG⟩, hall0⟩ := rk_all_cons hall
  obtain ⟨v1, vs1, rfl, ⟨s, rfl, s1, s2⟩, hall1⟩ := rk_all_cons hall0
  obtain ⟨v2, vs2, rfl, ⟨w, rfl, w1, w2⟩, hall2⟩ := rk_all_cons hall1
  cases rk_all_nil hall2
  refine ⟨_, _, 0, h_at base l cI c1 c2 c3 c4 c5 D ad adV a0 s w (sn := s.toInt.toNat) (wn := w.toInt.toNat) (by omega) (by omega) (by omega) (by omega), hG, Int.le_refl 0, fun v u _ hP => ?_⟩
  rw [hP.1]
  have h1 := rm_nowT hT hG (64 * s.toInt.toNat + w.toInt.toNat) (by omega)
  rw [rm_mE_s (by omega) (by omega)] at h1
  rw [Int.add_zero]
  exact rk_alt_1 (rk_le_ok hX (rm_al_ok hle (w := w.toInt.toNat) (by omega) (by omega) (by omega)) h1) h9
theorem k_puts (c d : Int) (V : rk_AV) (lv : Nat) (hc : 0 ≤ c) (hd : d < 64) (hI : V.1 = 0) (hle : rm_al 64 c d (fun w => rk_le V (rm_mS.getD w rk_full)) = true) (hok : rm_al 64 c d (fun w => rm_okp lv (rm_RCw w) false) = true) : rm_Mc base l cI c1 c2 c3 c4 c5 D ad adV rk_q_X12_puts [(2, 12, 0), (0, 0, 39), (0, c, d), V] [((9, 0, 0), [])] 0 lv := by
  refine rm_tok base l cI c1 c2 c3 c4 c5 D ad adV ?_
  intro G X L f av hX hXC hall hT
  obtain ⟨v0, vs0, rfl, ⟨a0, rfl, hG⟩, hall0⟩ := rk_all_cons hall
  obtain ⟨v1, vs1, rfl, ⟨s, rfl, s1, s2⟩, hall1⟩ := rk_all_cons hall0
  obtain ⟨v2, vs2, rfl, ⟨w, rfl, w1, w2⟩, hall2⟩ := rk_all_cons hall1
  obtain ⟨v3, vs3, rfl, hx, hall3⟩ := rk_all_cons hall2
  cases rk_all_nil hall3
  obtain ⟨V0, V1, V2⟩ := V
  dsimp only at hI
  subst hI
  have hx0 := hx
  obtain ⟨x, rfl, x1, x2⟩ := hx
  refine ⟨_, _, 0, h_puts base l cI c1 c2 c3 c4 c5 D ad adV lv a0 s w x (sn := s.toInt.toNat) (wn := w.toInt.toNat) (by omega) (by omega) (by omega) (by omega) (rm_wr_s (by omega) (by omega) (rm_al_ok hok (w := w.toInt.toNat) (by omega) (by omega) (by omega))), ⟨hG, ?_⟩, Int.le_refl 0, fun v u _ hP => ?_⟩
  · rw [rm_mE_s (by omega) (by omega)]
    exact rk_le_ok hX (rm_al_ok hle (w := w.toInt.toNat) (by omega) (by omega) (by omega)) hx0
  · rw [hP.1]
    exact rk_alt_0
theorem k_more (c d C : Int) (lv : Nat) (hc : 0 ≤ c) (hd : d < 64) (hC : 0 ≤ C) (hle : rm_al 64 c d (fun w => rm_eq (rm_mS.getD w rk_full) rk_full || (rm_eq (rm_mS.getD w rk_full) (1, 0, 0) && decide (1 ≤ C))) = true) (hok : rm_al 64 c d (fun w => rm_okp lv (rm_RCw w) false) = true) : rm_Mc base l cI c1 c2 c3 c4 c5 D ad adV rk_q_X12_more [(2, 12, 0), (0, 0, 39), (0, c, d)] [((9, 0, 0), [])] C lv := by
  refine rm_tok base l cI c1 c2 c3 c4 c5 D ad adV ?_
  intro G X L f av hX hXC hall hT
  obtain ⟨v0, vs0, rfl, ⟨a0, rfl, hG⟩, hall0⟩ := rk_all_cons hall
  obtain ⟨v1, vs1, rfl, ⟨s, rfl, s1, s2⟩, hall1⟩ := rk_all_cons hall0
  obtain ⟨v2, vs2, rfl, ⟨w, rfl, w1, w2⟩, hall2⟩ := rk_all_cons hall1
  cases rk_all_nil hall2
  refine ⟨_, _, C, h_more base l cI c1 c2 c3 c4 c5 D ad adV lv a0 C hC s w (sn := s.toInt.toNat) (wn := w.toInt.toNat) (by omega) (by omega) (by omega) (by omega) (rm_wr_s (by omega) (by omega) (rm_al_ok hok (w := w.toInt.toNat) (by omega) (by omega) (by omega))), ⟨hG, ?_⟩, Int.le_refl C, fun v u _ hP => ?_⟩
  · have h1 := rm_nowT hT hG (64 * s.toInt.toNat + w.toInt.toNat) (by omega)
    have h2 := rm_al_ok hle (w := w.toInt.toNat) (by omega) (by omega) (by omega)
    rw [rm_mE_s (by omega) (by omega)] at h1 ⊢
    have keq : ∀ t u : rk_AV, rm_eq t u = true → t = u := by
      intro t u h3
      unfold rm_eq at h3
      simp only [Bool.and_eq_true, Nat.beq_eq, decide_eq_true_eq] at h3
      exact Prod.ext h3.1 (Prod.ext h3.2.1 h3.2.2)
    rw [Bool.or_eq_true, Bool.and_eq_true, decide_eq_true_eq] at h2
    rcases h2 with h2 | ⟨h2, h3⟩
    · rw [keq _ _ h2]
      exact rk_full_ok _
    · rw [keq _ _ h2] at h1 ⊢
      obtain ⟨x, ex, x1, x2⟩ := h1
      cases ex
      have e1 : (Int32.ofInt 1).toInt = 1 := rfl
      unfold rk_top at hXC
      have e2 := rk_add_e (x := rm_now G f a0 (64 * s.toInt.toNat + w.toInt.toNat)) (y := Int32.ofInt 1) (by rw [e1]; omega) (by rw [e1]; omega)
      refine ⟨_, rfl, ?_, ?_⟩
      · rw [e2, e1]
        omega
      · rw [e2, e1]
        omega
  · rw [hP.1]
    exact rk_alt_0
theorem k_ofRouter (c d : Int) (T : rk_AV) (hc : 0 ≤ c) (hd : d < 75) (h9 : T.1 ≠ 9) (hle : rm_al 75 c d (fun w => rk_le (rm_mR.getD w rk_full) T) = true) : rm_Mc base l cI c1 c2 c3 c4 c5 D ad adV rk_q_X12_ofRouter [(2, 12, 0), (0, 0, 3), (0, c, d)] [(T, [])] 0 0 := by
  refine rm_tok base l cI c1 c2 c3 c4 c5 D ad adV ?_
  intro G X L f av hX hXC hall hT
  obtain ⟨v0, vs0, rfl, ⟨a0, rfl, hG⟩, hall0⟩ := rk_all_cons hall
  obtain ⟨v1, vs1, rfl, ⟨s, rfl, s1, s2⟩, hall1⟩ := rk_all_cons hall0
  obtain ⟨v2, vs2, rfl, ⟨w, rfl, w1, w2⟩, hall2⟩ := rk_all_cons hall1
  cases rk_all_nil hall2
  refine ⟨_, _, 0, h_ofRouter base l cI c1 c2 c3 c4 c5 D ad adV a0 s w (sn := s.toInt.toNat) (wn := w.toInt.toNat) (by omega) (by omega) (by omega) (by omega), hG, Int.le_refl 0, fun v u _ hP => ?_⟩
  rw [hP.1]
  have h1 := rm_nowT hT hG (2560 + 75 * s.toInt.toNat + w.toInt.toNat) (by omega)
  rw [rm_mE_r (by omega) (by omega)] at h1
  rw [Int.add_zero]
  exact rk_alt_1 (rk_le_ok hX (rm_al_ok hle (w := w.toInt.toNat) (by omega) (by omega) (by omega)) h1) h9
theorem k_putsRouter (c d : Int) (V : rk_AV) (lv : Nat) (hc : 0 ≤ c) (hd : d < 75) (hI : V.1 = 0) (hle : rm_al 75 c d (fun w => rk_le V (rm_mR.getD w rk_full)) = true) (hok : rm_al 75 c d (fun w => rm_okp lv false false) = true) : rm_Mc base l cI c1 c2 c3 c4 c5 D ad adV rk_q_X12_putsRouter [(2, 12, 0), (0, 0, 3), (0, c, d), V] [((9, 0, 0), [])] 0 lv := by
  refine rm_tok base l cI c1 c2 c3 c4 c5 D ad adV ?_
  intro G X L f av hX hXC hall hT
  obtain ⟨v0, vs0, rfl, ⟨a0, rfl, hG⟩, hall0⟩ := rk_all_cons hall
  obtain ⟨v1, vs1, rfl, ⟨s, rfl, s1, s2⟩, hall1⟩ := rk_all_cons hall0
  obtain ⟨v2, vs2, rfl, ⟨w, rfl, w1, w2⟩, hall2⟩ := rk_all_cons hall1
  obtain ⟨v3, vs3, rfl, hx, hall3⟩ := rk_all_cons hall2
  cases rk_all_nil hall3
  obtain ⟨V0, V1, V2⟩ := V
  dsimp only at hI
  subst hI
  have hx0 := hx
  obtain ⟨x, rfl, x1, x2⟩ := hx
  refine ⟨_, _, 0, h_putsRouter base l cI c1 c2 c3 c4 c5 D ad adV lv a0 s w x (sn := s.toInt.toNat) (wn := w.toInt.toNat) (by omega) (by omega) (by omega) (by omega) (rm_wr_r (by omega) (by omega) (rm_al_ok hok (w := w.toInt.toNat) (by omega) (by omega) (by omega))), ⟨hG, ?_⟩, Int.le_refl 0, fun v u _ hP => ?_⟩
  · rw [rm_mE_r (by omega) (by omega)]
    exact rk_le_ok hX (rm_al_ok hle (w := w.toInt.toNat) (by omega) (by omega) (by omega)) hx0
  · rw [hP.1]
    exact rk_alt_0
theorem k_moreRouter (c d C : Int) (lv : Nat) (hc : 0 ≤ c) (hd : d < 75) (hC : 0 ≤ C) (hle : rm_al 75 c d (fun w => rm_eq (rm_mR.getD w rk_full) rk_full || (rm_eq (rm_mR.getD w rk_full) (1, 0, 0) && decide (1 ≤ C))) = true) (hok : rm_al 75 c d (fun w => rm_okp lv false false) = true) : rm_Mc base l cI c1 c2 c3 c4 c5 D ad adV rk_q_X12_moreRouter [(2, 12, 0), (0, 0, 3), (0, c, d)] [((9, 0, 0), [])] C lv := by
  refine rm_tok base l cI c1 c2 c3 c4 c5 D ad adV ?_
  intro G X L f av hX hXC hall hT
  obtain ⟨v0, vs0, rfl, ⟨a0, rfl, hG⟩, hall0⟩ := rk_all_cons hall
  obtain ⟨v1, vs1, rfl, ⟨s, rfl, s1, s2⟩, hall1⟩ := rk_all_cons hall0
  obtain ⟨v2, vs2, rfl, ⟨w, rfl, w1, w2⟩, hall2⟩ := rk_all_cons hall1
  cases rk_all_nil hall2
  refine ⟨_, _, C, h_moreRouter base l cI c1 c2 c3 c4 c5 D ad adV lv a0 C hC s w (sn := s.toInt.toNat) (wn := w.toInt.toNat) (by omega) (by omega) (by omega) (by omega) (rm_wr_r (by omega) (by omega) (rm_al_ok hok (w := w.toInt.toNat) (by omega) (by omega) (by omega))), ⟨hG, ?_⟩, Int.le_refl C, fun v u _ hP => ?_⟩
  · have h1 := rm_nowT hT hG (2560 + 75 * s.toInt.toNat + w.toInt.toNat) (by omega)
    have h2 := rm_al_ok hle (w := w.toInt.toNat) (by omega) (by omega) (by omega)
    rw [rm_mE_r (by omega) (by omega)] at h1 ⊢
    have keq : ∀ t u : rk_AV, rm_eq t u = true → t = u := by
      intro t u h3
      unfold rm_eq at h3
      simp only [Bool.and_eq_true, Nat.beq_eq, decide_eq_true_eq] at h3
      exact Prod.ext h3.1 (Prod.ext h3.2.1 h3.2.2)
    rw [Bool.or_eq_true, Bool.and_eq_true, decide_eq_true_eq] at h2
    rcases h2 with h2 | ⟨h2, h3⟩
    · rw [keq _ _ h2]
      exact rk_full_ok _
    · rw [keq _ _ h2] at h1 ⊢
      obtain ⟨x, ex, x1, x2⟩ := h1
      cases ex
      have e1 : (Int32.ofInt 1).toInt = 1 := rfl
      unfold rk_top at hXC
      have e2 := rk_add_e (x := rm_now G f a0 (2560 + 75 * s.toInt.toNat + w.toInt.toNat)) (y := Int32.ofInt 1) (by rw [e1]; omega) (by rw [e1]; omega)
      refine ⟨_, rfl, ?_, ?_⟩
      · rw [e2, e1]
        omega
      · rw [e2, e1]
        omega
  · rw [hP.1]
    exact rk_alt_0
theorem k_ofEnd (c d : Int) (T : rk_AV) (hc : 0 ≤ c) (hd : d < 427) (h9 : T.1 ≠ 9) (hle : rm_al 427 c d (fun w => rk_le (rm_mD.getD w rk_full) T) = true) : rm_Mc base l cI c1 c2 c3 c4 c5 D ad adV rk_q_X12_ofEnd [(2, 12, 0), (0, 0, 7), (0, c, d)] [(T, [])] 0 0 := by
  refine rm_tok base l cI c1 c2 c3 c4 c5 D ad adV ?_
  intro G X L f av hX hXC hall hT
  obtain ⟨v0, vs0, rfl, ⟨a0, rfl, hG⟩, hall0⟩ := rk_all_cons hall
  obtain ⟨v1, vs1, rfl, ⟨s, rfl, s1, s2⟩, hall1⟩ := rk_all_cons hall0
  obtain ⟨v2, vs2, rfl, ⟨w, rfl, w1, w2⟩, hall2⟩ := rk_all_cons hall1
  cases rk_all_nil hall2
  refine ⟨_, _, 0, h_ofEnd base l cI c1 c2 c3 c4 c5 D ad adV a0 s w (sn := s.toInt.toNat) (wn := w.toInt.toNat) (by omega) (by omega) (by omega) (by omega), hG, Int.le_refl 0, fun v u _ hP => ?_⟩
  rw [hP.1]
  have h1 := rm_nowT hT hG (2860 + 427 * s.toInt.toNat + w.toInt.toNat) (by omega)
  rw [rm_mE_e (by omega) (by omega)] at h1
  rw [Int.add_zero]
  exact rk_alt_1 (rk_le_ok hX (rm_al_ok hle (w := w.toInt.toNat) (by omega) (by omega) (by omega)) h1) h9
theorem k_putsEnd (c d : Int) (V : rk_AV) (lv : Nat) (hc : 0 ≤ c) (hd : d < 427) (hI : V.1 = 0) (hle : rm_al 427 c d (fun w => rk_le V (rm_mD.getD w rk_full)) = true) (hok : rm_al 427 c d (fun w => rm_okp lv (Nat.beq w 8) (Nat.beq w 0)) = true) : rm_Mc base l cI c1 c2 c3 c4 c5 D ad adV rk_q_X12_putsEnd [(2, 12, 0), (0, 0, 7), (0, c, d), V] [((9, 0, 0), [])] 0 lv := by
  refine rm_tok base l cI c1 c2 c3 c4 c5 D ad adV ?_
  intro G X L f av hX hXC hall hT
  obtain ⟨v0, vs0, rfl, ⟨a0, rfl, hG⟩, hall0⟩ := rk_all_cons hall
  obtain ⟨v1, vs1, rfl, ⟨s, rfl, s1, s2⟩, hall1⟩ := rk_all_cons hall0
  obtain ⟨v2, vs2, rfl, ⟨w, rfl, w1, w2⟩, hall2⟩ := rk_all_cons hall1
  obtain ⟨v3, vs3, rfl, hx, hall3⟩ := rk_all_cons hall2
  cases rk_all_nil hall3
  obtain ⟨V0, V1, V2⟩ := V
  dsimp only at hI
  subst hI
  have hx0 := hx
  obtain ⟨x, rfl, x1, x2⟩ := hx
  refine ⟨_, _, 0, h_putsEnd base l cI c1 c2 c3 c4 c5 D ad adV lv a0 s w x (sn := s.toInt.toNat) (wn := w.toInt.toNat) (by omega) (by omega) (by omega) (by omega) (rm_wr_e (by omega) (by omega) (rm_al_ok hok (w := w.toInt.toNat) (by omega) (by omega) (by omega))), ⟨hG, ?_⟩, Int.le_refl 0, fun v u _ hP => ?_⟩
  · rw [rm_mE_e (by omega) (by omega)]
    exact rk_le_ok hX (rm_al_ok hle (w := w.toInt.toNat) (by omega) (by omega) (by omega)) hx0
  · rw [hP.1]
    exact rk_alt_0
theorem k_moreEnd (c d C : Int) (lv : Nat) (hc : 0 ≤ c) (hd : d < 427) (hC : 0 ≤ C) (hle : rm_al 427 c d (fun w => rm_eq (rm_mD.getD w rk_full) rk_full || (rm_eq (rm_mD.getD w rk_full) (1, 0, 0) && decide (1 ≤ C))) = true) (hok : rm_al 427 c d (fun w => rm_okp lv (Nat.beq w 8) (Nat.beq w 0)) = true) : rm_Mc base l cI c1 c2 c3 c4 c5 D ad adV rk_q_X12_moreEnd [(2, 12, 0), (0, 0, 7), (0, c, d)] [((9, 0, 0), [])] C lv := by
  refine rm_tok base l cI c1 c2 c3 c4 c5 D ad adV ?_
  intro G X L f av hX hXC hall hT
  obtain ⟨v0, vs0, rfl, ⟨a0, rfl, hG⟩, hall0⟩ := rk_all_cons hall
  obtain ⟨v1, vs1, rfl, ⟨s, rfl, s1, s2⟩, hall1⟩ := rk_all_cons hall0
  obtain ⟨v2, vs2, rfl, ⟨w, rfl, w1, w2⟩, hall2⟩ := rk_all_cons hall1
  cases rk_all_nil hall2
  refine ⟨_, _, C, h_moreEnd base l cI c1 c2 c3 c4 c5 D ad adV lv a0 C hC s w (sn := s.toInt.toNat) (wn := w.toInt.toNat) (by omega) (by omega) (by omega) (by omega) (rm_wr_e (by omega) (by omega) (rm_al_ok hok (w := w.toInt.toNat) (by omega) (by omega) (by omega))), ⟨hG, ?_⟩, Int.le_refl C, fun v u _ hP => ?_⟩
  · have h1 := rm_nowT hT hG (2860 + 427 * s.toInt.toNat + w.toInt.toNat) (by omega)
    have h2 := rm_al_ok hle (w := w.toInt.toNat) (by omega) (by omega) (by omega)
    rw [rm_mE_e (by omega) (by omega)] at h1 ⊢
    have keq : ∀ t u : rk_AV, rm_eq t u = true → t = u := by
      intro t u h3
      unfold rm_eq at h3
      simp only [Bool.and_eq_true, Nat.beq_eq, decide_eq_true_eq] at h3
      exact Prod.ext h3.1 (Prod.ext h3.2.1 h3.2.2)
    rw [Bool.or_eq_true, Bool.and_eq_true, decide_eq_true_eq] at h2
    rcases h2 with h2 | ⟨h2, h3⟩
    · rw [keq _ _ h2]
      exact rk_full_ok _
    · rw [keq _ _ h2] at h1 ⊢
      obtain ⟨x, ex, x1, x2⟩ := h1
      cases ex
      have e1 : (Int32.ofInt 1).toInt = 1 := rfl
      unfold rk_top at hXC
      have e2 := rk_add_e (x := rm_now G f a0 (2860 + 427 * s.toInt.toNat + w.toInt.toNat)) (y := Int32.ofInt 1) (by rw [e1]; omega) (by rw [e1]; omega)
      refine ⟨_, rfl, ?_, ?_⟩
      · rw [e2, e1]
        omega
      · rw [e2, e1]
        omega
  · rw [hP.1]
    exact rk_alt_0
theorem c_X12_at_0 : rm_Mc base l cI c1 c2 c3 c4 c5 D ad adV rk_q_X12_at [(2, 12, 0), (0, 0, 39), (0, 0, 0)] [((0, 0, 40), [])] 0 0 := k_at base l cI c1 c2 c3 c4 c5 D ad adV 0 0 (0, 0, 40) (by decide +kernel) (by decide +kernel) (by decide +kernel) (by decide +kernel)
theorem c_X12_at_1 : rm_Mc base l cI c1 c2 c3 c4 c5 D ad adV rk_q_X12_at [(2, 12, 0), (0, 0, 39), (0, 3, 3)] [((0, 0, 5), [])] 0 0 := k_at base l cI c1 c2 c3 c4 c5 D ad adV 3 3 (0, 0, 5) (by decide +kernel) (by decide +kernel) (by decide +kernel) (by decide +kernel)
theorem c_X12_at_2 : rm_Mc base l cI c1 c2 c3 c4 c5 D ad adV rk_q_X12_at [(2, 12, 0), (0, 0, 39), (0, 21, 21)] [((0, 0, 2), [])] 0 0 := k_at base l cI c1 c2 c3 c4 c5 D ad adV 21 21 (0, 0, 2) (by decide +kernel) (by decide +kernel) (by decide +kernel) (by decide +kernel)
theorem c_X12_at_3 : rm_Mc base l cI c1 c2 c3 c4 c5 D ad adV rk_q_X12_at [(2, 12, 0), (0, 0, 39), (0, 22, 22)] [((0, 0, 31), [])] 0 0 := k_at base l cI c1 c2 c3 c4 c5 D ad adV 22 22 (0, 0, 31) (by decide +kernel) (by decide +kernel) (by decide +kernel) (by decide +kernel)
theorem c_X12_at_4 : rm_Mc base l cI c1 c2 c3 c4 c5 D ad adV rk_q_X12_at [(2, 12, 0), (0, 0, 39), (0, 2, 2)] [((0, 0, 1), [])] 0 0 := k_at base l cI c1 c2 c3 c4 c5 D ad adV 2 2 (0, 0, 1) (by decide +kernel) (by decide +kernel) (by decide +kernel) (by decide +kernel)
theorem c_X12_at_5 : rm_Mc base l cI c1 c2 c3 c4 c5 D ad adV rk_q_X12_at [(2, 12, 0), (0, 0, 39), (0, 24, 24)] [((1, 0, 0), [])] 0 0 := k_at base l cI c1 c2 c3 c4 c5 D ad adV 24 24 (1, 0, 0) (by decide +kernel) (by decide +kernel) (by decide +kernel) (by decide +kernel)
theorem c_X12_at_6 : rm_Mc base l cI c1 c2 c3 c4 c5 D ad adV rk_q_X12_at [(2, 12, 0), (0, 0, 39), (0, 59, 59)] [((0, 0, 257), [])] 0 0 := k_at base l cI c1 c2 c3 c4 c5 D ad adV 59 59 (0, 0, 257) (by decide +kernel) (by decide +kernel) (by decide +kernel) (by decide +kernel)
theorem c_X12_at_7 : rm_Mc base l cI c1 c2 c3 c4 c5 D ad adV rk_q_X12_at [(2, 12, 0), (0, 0, 39), (0, 60, 60)] [((0, 0, 257), [])] 0 0 := k_at base l cI c1 c2 c3 c4 c5 D ad adV 60 60 (0, 0, 257) (by decide +kernel) (by decide +kernel) (by decide +kernel) (by decide +kernel)
theorem c_X12_at_8 : rm_Mc base l cI c1 c2 c3 c4 c5 D ad adV rk_q_X12_at [(2, 12, 0), (0, 0, 39), (0, 61, 61)] [((0, 0, 257), [])] 0 0 := k_at base l cI c1 c2 c3 c4 c5 D ad adV 61 61 (0, 0, 257) (by decide +kernel) (by decide +kernel) (by decide +kernel) (by decide +kernel)
theorem c_X12_at_9 : rm_Mc base l cI c1 c2 c3 c4 c5 D ad adV rk_q_X12_at [(2, 12, 0), (0, 0, 39), (0, 62, 62)] [((0, 0, 257), [])] 0 0 := k_at base l cI c1 c2 c3 c4 c5 D ad adV 62 62 (0, 0, 257) (by decide +kernel) (by decide +kernel) (by decide +kernel) (by decide +kernel)
theorem c_X12_at_10 : rm_Mc base l cI c1 c2 c3 c4 c5 D ad adV rk_q_X12_at [(2, 12, 0), (0, 0, 39), (0, 11, 11)] [((0, 0, 1), [])] 0 0 := k_at base l cI c1 c2 c3 c4 c5 D ad adV 11 11 (0, 0, 1) (by decide +kernel) (by decide +kernel) (by decide +kernel) (by decide +kernel)
theorem c_X12_at_11 : rm_Mc base l cI c1 c2 c3 c4 c5 D ad adV rk_q_X12_at [(2, 12, 0), (0, 0, 39), (0, 14, 14)] [((0, 0, 1), [])] 0 0 := k_at base l cI c1 c2 c3 c4 c5 D ad adV 14 14 (0, 0, 1) (by decide +kernel) (by decide +kernel) (by decide +kernel) (by decide +kernel)
theorem c_X12_at_12 : rm_Mc base l cI c1 c2 c3 c4 c5 D ad adV rk_q_X12_at [(2, 12, 0), (0, 0, 39), (0, 23, 23)] [((0, -2147483648, 2147483647), [])] 0 0 := k_at base l cI c1 c2 c3 c4 c5 D ad adV 23 23 (0, -2147483648, 2147483647) (by decide +kernel) (by decide +kernel) (by decide +kernel) (by decide +kernel)
theorem c_X12_at_13 : rm_Mc base l cI c1 c2 c3 c4 c5 D ad adV rk_q_X12_at [(2, 12, 0), (0, 0, 39), (0, 3, 4)] [((0, -2147483648, 2147483647), [])] 0 0 := k_at base l cI c1 c2 c3 c4 c5 D ad adV 3 4 (0, -2147483648, 2147483647) (by decide +kernel) (by decide +kernel) (by decide +kernel) (by decide +kernel)
theorem c_X12_at_14 : rm_Mc base l cI c1 c2 c3 c4 c5 D ad adV rk_q_X12_at [(2, 12, 0), (0, 0, 39), (0, 1, 1)] [((0, 0, 1), [])] 0 0 := k_at base l cI c1 c2 c3 c4 c5 D ad adV 1 1 (0, 0, 1) (by decide +kernel) (by decide +kernel) (by decide +kernel) (by decide +kernel)
theorem c_X12_at_15 : rm_Mc base l cI c1 c2 c3 c4 c5 D ad adV rk_q_X12_at [(2, 12, 0), (0, 0, 39), (0, 5, 6)] [((0, -2147483648, 2147483647), [])] 0 0 := k_at base l cI c1 c2 c3 c4 c5 D ad adV 5 6 (0, -2147483648, 2147483647) (by decide +kernel) (by decide +kernel) (by decide +kernel) (by decide +kernel)
theorem c_X12_at_16 : rm_Mc base l cI c1 c2 c3 c4 c5 D ad adV rk_q_X12_at [(2, 12, 0), (0, 0, 39), (0, 20, 20)] [((0, 0, 25), [])] 0 0 := k_at base l cI c1 c2 c3 c4 c5 D ad adV 20 20 (0, 0, 25) (by decide +kernel) (by decide +kernel) (by decide +kernel) (by decide +kernel)
theorem c_X12_at_17 : rm_Mc base l cI c1 c2 c3 c4 c5 D ad adV rk_q_X12_at [(2, 12, 0), (0, 0, 39), (0, 7, 7)] [((0, -2147483648, 2147483647), [])] 0 0 := k_at base l cI c1 c2 c3 c4 c5 D ad adV 7 7 (0, -2147483648, 2147483647) (by decide +kernel) (by decide +kernel) (by decide +kernel) (by decide +kernel)
theorem c_X12_at_18 : rm_Mc base l cI c1 c2 c3 c4 c5 D ad adV rk_q_X12_at [(2, 12, 0), (0, 0, 39), (0, 10, 10)] [((0, 0, 324), [])] 0 0 := k_at base l cI c1 c2 c3 c4 c5 D ad adV 10 10 (0, 0, 324) (by decide +kernel) (by decide +kernel) (by decide +kernel) (by decide +kernel)
theorem c_X12_at_19 : rm_Mc base l cI c1 c2 c3 c4 c5 D ad adV rk_q_X12_at [(2, 12, 0), (0, 0, 39), (0, 15, 18)] [((0, -2147483648, 2147483647), [])] 0 0 := k_at base l cI c1 c2 c3 c4 c5 D ad adV 15 18 (0, -2147483648, 2147483647) (by decide +kernel) (by decide +kernel) (by decide +kernel) (by decide +kernel)
theorem c_X12_at_20 : rm_Mc base l cI c1 c2 c3 c4 c5 D ad adV rk_q_X12_at [(2, 12, 0), (0, 0, 39), (0, 12, 12)] [((0, 0, 64), [])] 0 0 := k_at base l cI c1 c2 c3 c4 c5 D ad adV 12 12 (0, 0, 64) (by decide +kernel) (by decide +kernel) (by decide +kernel) (by decide +kernel)
theorem c_X12_at_21 : rm_Mc base l cI c1 c2 c3 c4 c5 D ad adV rk_q_X12_at [(2, 12, 0), (0, 0, 39), (0, 19, 19)] [((0, -2147483648, 2147483647), [])] 0 0 := k_at base l cI c1 c2 c3 c4 c5 D ad adV 19 19 (0, -2147483648, 2147483647) (by decide +kernel) (by decide +kernel) (by decide +kernel) (by decide +kernel)
theorem c_X12_at_22 : rm_Mc base l cI c1 c2 c3 c4 c5 D ad adV rk_q_X12_at [(2, 12, 0), (0, 0, 39), (0, 26, 50)] [((0, 0, 257), [])] 0 0 := k_at base l cI c1 c2 c3 c4 c5 D ad adV 26 50 (0, 0, 257) (by decide +kernel) (by decide +kernel) (by decide +kernel) (by decide +kernel)
theorem c_X12_at_23 : rm_Mc base l cI c1 c2 c3 c4 c5 D ad adV rk_q_X12_at [(2, 12, 0), (0, 0, 39), (0, 5, 5)] [((0, -2147483648, 2147483647), [])] 0 0 := k_at base l cI c1 c2 c3 c4 c5 D ad adV 5 5 (0, -2147483648, 2147483647) (by decide +kernel) (by decide +kernel) (by decide +kernel) (by decide +kernel)
theorem c_X12_at_24 : rm_Mc base l cI c1 c2 c3 c4 c5 D ad adV rk_q_X12_at [(2, 12, 0), (0, 0, 39), (0, 6, 6)] [((0, 0, 24), [])] 0 0 := k_at base l cI c1 c2 c3 c4 c5 D ad adV 6 6 (0, 0, 24) (by decide +kernel) (by decide +kernel) (by decide +kernel) (by decide +kernel)
theorem c_X12_at_25 : rm_Mc base l cI c1 c2 c3 c4 c5 D ad adV rk_q_X12_at [(2, 12, 0), (0, 0, 39), (0, 15, 15)] [((0, -2147483648, 2147483647), [])] 0 0 := k_at base l cI c1 c2 c3 c4 c5 D ad adV 15 15 (0, -2147483648, 2147483647) (by decide +kernel) (by decide +kernel) (by decide +kernel) (by decide +kernel)
theorem c_X12_at_26 : rm_Mc base l cI c1 c2 c3 c4 c5 D ad adV rk_q_X12_at [(2, 12, 0), (0, 0, 39), (0, 16, 16)] [((0, -2147483648, 2147483647), [])] 0 0 := k_at base l cI c1 c2 c3 c4 c5 D ad adV 16 16 (0, -2147483648, 2147483647) (by decide +kernel) (by decide +kernel) (by decide +kernel) (by decide +kernel)
theorem c_X12_puts_0 : rm_Mc base l cI c1 c2 c3 c4 c5 D ad adV rk_q_X12_puts [(2, 12, 0), (0, 0, 39), (0, 21, 21), (0, 0, 2)] [((9, 0, 0), [])] 0 1 := k_puts base l cI c1 c2 c3 c4 c5 D ad adV 21 21 (0, 0, 2) 1 (by decide +kernel) (by decide +kernel) rfl (by decide +kernel) (by decide +kernel)
theorem c_X12_puts_1 : rm_Mc base l cI c1 c2 c3 c4 c5 D ad adV rk_q_X12_puts [(2, 12, 0), (0, 0, 39), (0, 22, 22), (0, 0, 31)] [((9, 0, 0), [])] 0 1 := k_puts base l cI c1 c2 c3 c4 c5 D ad adV 22 22 (0, 0, 31) 1 (by decide +kernel) (by decide +kernel) rfl (by decide +kernel) (by decide +kernel)
theorem c_X12_puts_2 : rm_Mc base l cI c1 c2 c3 c4 c5 D ad adV rk_q_X12_puts [(2, 12, 0), (0, 0, 39), (0, 23, 23), (0, -2147483648, 2147483647)] [((9, 0, 0), [])] 0 1 := k_puts base l cI c1 c2 c3 c4 c5 D ad adV 23 23 (0, -2147483648, 2147483647) 1 (by decide +kernel) (by decide +kernel) rfl (by decide +kernel) (by decide +kernel)
theorem c_X12_puts_3 : rm_Mc base l cI c1 c2 c3 c4 c5 D ad adV rk_q_X12_puts [(2, 12, 0), (0, 0, 39), (0, 2, 2), (0, 0, 1)] [((9, 0, 0), [])] 0 1 := k_puts base l cI c1 c2 c3 c4 c5 D ad adV 2 2 (0, 0, 1) 1 (by decide +kernel) (by decide +kernel) rfl (by decide +kernel) (by decide +kernel)
theorem c_X12_puts_4 : rm_Mc base l cI c1 c2 c3 c4 c5 D ad adV rk_q_X12_puts [(2, 12, 0), (0, 0, 39), (0, 12, 12), (0, 0, 64)] [((9, 0, 0), [])] 0 1 := k_puts base l cI c1 c2 c3 c4 c5 D ad adV 12 12 (0, 0, 64) 1 (by decide +kernel) (by decide +kernel) rfl (by decide +kernel) (by decide +kernel)
theorem c_X12_puts_5 : rm_Mc base l cI c1 c2 c3 c4 c5 D ad adV rk_q_X12_puts [(2, 12, 0), (0, 0, 39), (0, 11, 11), (0, 0, 1)] [((9, 0, 0), [])] 0 1 := k_puts base l cI c1 c2 c3 c4 c5 D ad adV 11 11 (0, 0, 1) 1 (by decide +kernel) (by decide +kernel) rfl (by decide +kernel) (by decide +kernel)
theorem c_X12_puts_6 : rm_Mc base l cI c1 c2 c3 c4 c5 D ad adV rk_q_X12_puts [(2, 12, 0), (0, 0, 39), (0, 10, 10), (0, 0, 324)] [((9, 0, 0), [])] 0 1 := k_puts base l cI c1 c2 c3 c4 c5 D ad adV 10 10 (0, 0, 324) 1 (by decide +kernel) (by decide +kernel) rfl (by decide +kernel) (by decide +kernel)
theorem c_X12_ofRouter_0 : rm_Mc base l cI c1 c2 c3 c4 c5 D ad adV rk_q_X12_ofRouter [(2, 12, 0), (0, 0, 3), (0, 11, 74)] [((0, 0, 510), [])] 0 0 := k_ofRouter base l cI c1 c2 c3 c4 c5 D ad adV 11 74 (0, 0, 510) (by decide +kernel) (by decide +kernel) (by decide +kernel) (by decide +kernel)
theorem c_X12_ofRouter_1 : rm_Mc base l cI c1 c2 c3 c4 c5 D ad adV rk_q_X12_ofRouter [(2, 12, 0), (0, 0, 3), (0, 1, 1)] [((0, 0, 63), [])] 0 0 := k_ofRouter base l cI c1 c2 c3 c4 c5 D ad adV 1 1 (0, 0, 63) (by decide +kernel) (by decide +kernel) (by decide +kernel) (by decide +kernel)
theorem c_X12_ofRouter_2 : rm_Mc base l cI c1 c2 c3 c4 c5 D ad adV rk_q_X12_ofRouter [(2, 12, 0), (0, 0, 3), (0, 0, 0)] [((0, 0, 7), [])] 0 0 := k_ofRouter base l cI c1 c2 c3 c4 c5 D ad adV 0 0 (0, 0, 7) (by decide +kernel) (by decide +kernel) (by decide +kernel) (by decide +kernel)
theorem c_X12_ofRouter_3 : rm_Mc base l cI c1 c2 c3 c4 c5 D ad adV rk_q_X12_ofRouter [(2, 12, 0), (0, 0, 3), (0, 1, 8)] [((0, -2147483648, 2147483647), [])] 0 0 := k_ofRouter base l cI c1 c2 c3 c4 c5 D ad adV 1 8 (0, -2147483648, 2147483647) (by decide +kernel) (by decide +kernel) (by decide +kernel) (by decide +kernel)
theorem c_X12_ofRouter_4 : rm_Mc base l cI c1 c2 c3 c4 c5 D ad adV rk_q_X12_ofRouter [(2, 12, 0), (0, 0, 3), (0, 8, 10)] [((0, -2147483648, 2147483647), [])] 0 0 := k_ofRouter base l cI c1 c2 c3 c4 c5 D ad adV 8 10 (0, -2147483648, 2147483647) (by decide +kernel) (by decide +kernel) (by decide +kernel) (by decide +kernel)
theorem c_X12_putsRouter_0 : rm_Mc base l cI c1 c2 c3 c4 c5 D ad adV rk_q_X12_putsRouter [(2, 12, 0), (0, 0, 3), (0, 11, 74), (0, 0, 510)] [((9, 0, 0), [])] 0 1 := k_putsRouter base l cI c1 c2 c3 c4 c5 D ad adV 11 74 (0, 0, 510) 1 (by decide +kernel) (by decide +kernel) rfl (by decide +kernel) (by decide +kernel)
theorem c_X12_putsRouter_1 : rm_Mc base l cI c1 c2 c3 c4 c5 D ad adV rk_q_X12_putsRouter [(2, 12, 0), (0, 0, 3), (0, 1, 1), (0, 0, 63)] [((9, 0, 0), [])] 0 1 := k_putsRouter base l cI c1 c2 c3 c4 c5 D ad adV 1 1 (0, 0, 63) 1 (by decide +kernel) (by decide +kernel) rfl (by decide +kernel) (by decide +kernel)
theorem c_X12_ofEnd_0 : rm_Mc base l cI c1 c2 c3 c4 c5 D ad adV rk_q_X12_ofEnd [(2, 12, 0), (0, 0, 7), (0, 0, 0)] [((0, 0, 1), [])] 0 0 := k_ofEnd base l cI c1 c2 c3 c4 c5 D ad adV 0 0 (0, 0, 1) (by decide +kernel) (by decide +kernel) (by decide +kernel) (by decide +kernel)
theorem c_X12_ofEnd_1 : rm_Mc base l cI c1 c2 c3 c4 c5 D ad adV rk_q_X12_ofEnd [(2, 12, 0), (0, 0, 7), (0, 1, 1)] [((0, 0, 63), [])] 0 0 := k_ofEnd base l cI c1 c2 c3 c4 c5 D ad adV 1 1 (0, 0, 63) (by decide +kernel) (by decide +kernel) (by decide +kernel) (by decide +kernel)
theorem c_X12_ofEnd_2 : rm_Mc base l cI c1 c2 c3 c4 c5 D ad adV rk_q_X12_ofEnd [(2, 12, 0), (0, 0, 7), (0, 8, 8)] [((0, 0, 120), [])] 0 0 := k_ofEnd base l cI c1 c2 c3 c4 c5 D ad adV 8 8 (0, 0, 120) (by decide +kernel) (by decide +kernel) (by decide +kernel) (by decide +kernel)
theorem c_X12_ofEnd_3 : rm_Mc base l cI c1 c2 c3 c4 c5 D ad adV rk_q_X12_ofEnd [(2, 12, 0), (0, 0, 7), (0, 5, 5)] [((0, -2147483648, 2147483647), [])] 0 0 := k_ofEnd base l cI c1 c2 c3 c4 c5 D ad adV 5 5 (0, -2147483648, 2147483647) (by decide +kernel) (by decide +kernel) (by decide +kernel) (by decide +kernel)
theorem c_X12_ofEnd_4 : rm_Mc base l cI c1 c2 c3 c4 c5 D ad adV rk_q_X12_ofEnd [(2, 12, 0), (0, 0, 7), (0, 6, 6)] [((1, 0, 0), [])] 0 0 := k_ofEnd base l cI c1 c2 c3 c4 c5 D ad adV 6 6 (1, 0, 0) (by decide +kernel) (by decide +kernel) (by decide +kernel) (by decide +kernel)
theorem c_X12_ofEnd_5 : rm_Mc base l cI c1 c2 c3 c4 c5 D ad adV rk_q_X12_ofEnd [(2, 12, 0), (0, 0, 7), (0, 7, 7)] [((0, -2147483648, 2147483647), [])] 0 0 := k_ofEnd base l cI c1 c2 c3 c4 c5 D ad adV 7 7 (0, -2147483648, 2147483647) (by decide +kernel) (by decide +kernel) (by decide +kernel) (by decide +kernel)
theorem c_X12_ofEnd_6 : rm_Mc base l cI c1 c2 c3 c4 c5 D ad adV rk_q_X12_ofEnd [(2, 12, 0), (0, 0, 7), (0, 1, 3)] [((0, -2147483648, 2147483647), [])] 0 0 := k_ofEnd base l cI c1 c2 c3 c4 c5 D ad adV 1 3 (0, -2147483648, 2147483647) (by decide +kernel) (by decide +kernel) (by decide +kernel) (by decide +kernel)
theorem c_X12_ofEnd_7 : rm_Mc base l cI c1 c2 c3 c4 c5 D ad adV rk_q_X12_ofEnd [(2, 12, 0), (0, 0, 7), (0, 4, 4)] [((1, 0, 0), [])] 0 0 := k_ofEnd base l cI c1 c2 c3 c4 c5 D ad adV 4 4 (1, 0, 0) (by decide +kernel) (by decide +kernel) (by decide +kernel) (by decide +kernel)
theorem c_X12_ofEnd_8 : rm_Mc base l cI c1 c2 c3 c4 c5 D ad adV rk_q_X12_ofEnd [(2, 12, 0), (0, 0, 7), (0, 169, 386)] [((0, -2147483648, 2147483647), [])] 0 0 := k_ofEnd base l cI c1 c2 c3 c4 c5 D ad adV 169 386 (0, -2147483648, 2147483647) (by decide +kernel) (by decide +kernel) (by decide +kernel) (by decide +kernel)
theorem c_X12_ofEnd_9 : rm_Mc base l cI c1 c2 c3 c4 c5 D ad adV rk_q_X12_ofEnd [(2, 12, 0), (0, 0, 7), (0, 169, 384)] [((0, -2147483648, 2147483647), [])] 0 0 := k_ofEnd base l cI c1 c2 c3 c4 c5 D ad adV 169 384 (0, -2147483648, 2147483647) (by decide +kernel) (by decide +kernel) (by decide +kernel) (by decide +kernel)
theorem c_X12_ofEnd_10 : rm_Mc base l cI c1 c2 c3 c4 c5 D ad adV rk_q_X12_ofEnd [(2, 12, 0), (0, 0, 7), (0, 172, 426)] [((0, -2147483648, 2147483647), [])] 0 0 := k_ofEnd base l cI c1 c2 c3 c4 c5 D ad adV 172 426 (0, -2147483648, 2147483647) (by decide +kernel) (by decide +kernel) (by decide +kernel) (by decide +kernel)
theorem c_X12_putsEnd_0 : rm_Mc base l cI c1 c2 c3 c4 c5 D ad adV rk_q_X12_putsEnd [(2, 12, 0), (0, 0, 7), (0, 0, 0), (0, 0, 1)] [((9, 0, 0), [])] 0 33 := k_putsEnd base l cI c1 c2 c3 c4 c5 D ad adV 0 0 (0, 0, 1) 33 (by decide +kernel) (by decide +kernel) rfl (by decide +kernel) (by decide +kernel)
theorem c_X12_putsEnd_1 : rm_Mc base l cI c1 c2 c3 c4 c5 D ad adV rk_q_X12_putsEnd [(2, 12, 0), (0, 0, 7), (0, 1, 1), (0, 0, 63)] [((9, 0, 0), [])] 0 1 := k_putsEnd base l cI c1 c2 c3 c4 c5 D ad adV 1 1 (0, 0, 63) 1 (by decide +kernel) (by decide +kernel) rfl (by decide +kernel) (by decide +kernel)
theorem c_X12_moreRouter_0 : rm_Mc base l cI c1 c2 c3 c4 c5 D ad adV rk_q_X12_moreRouter [(2, 12, 0), (0, 0, 3), (0, 3, 3)] [((9, 0, 0), [])] 0 1 := k_moreRouter base l cI c1 c2 c3 c4 c5 D ad adV 3 3 0 1 (by decide +kernel) (by decide +kernel) (by decide +kernel) (by decide +kernel) (by decide +kernel)
theorem c_X12_moreRouter_1 : rm_Mc base l cI c1 c2 c3 c4 c5 D ad adV rk_q_X12_moreRouter [(2, 12, 0), (0, 0, 3), (0, 2, 2)] [((9, 0, 0), [])] 0 1 := k_moreRouter base l cI c1 c2 c3 c4 c5 D ad adV 2 2 0 1 (by decide +kernel) (by decide +kernel) (by decide +kernel) (by decide +kernel) (by decide +kernel)
theorem c_X12_moreRouter_2 : rm_Mc base l cI c1 c2 c3 c4 c5 D ad adV rk_q_X12_moreRouter [(2, 12, 0), (0, 0, 3), (0, 7, 7)] [((9, 0, 0), [])] 0 1 := k_moreRouter base l cI c1 c2 c3 c4 c5 D ad adV 7 7 0 1 (by decide +kernel) (by decide +kernel) (by decide +kernel) (by decide +kernel) (by decide +kernel)
theorem c_X12_moreEnd_0 : rm_Mc base l cI c1 c2 c3 c4 c5 D ad adV rk_q_X12_moreEnd [(2, 12, 0), (0, 0, 7), (0, 2, 2)] [((9, 0, 0), [])] 0 1 := k_moreEnd base l cI c1 c2 c3 c4 c5 D ad adV 2 2 0 1 (by decide +kernel) (by decide +kernel) (by decide +kernel) (by decide +kernel) (by decide +kernel)
theorem c_X12_moreEnd_1 : rm_Mc base l cI c1 c2 c3 c4 c5 D ad adV rk_q_X12_moreEnd [(2, 12, 0), (0, 0, 7), (0, 3, 3)] [((9, 0, 0), [])] 0 1 := k_moreEnd base l cI c1 c2 c3 c4 c5 D ad adV 3 3 0 1 (by decide +kernel) (by decide +kernel) (by decide +kernel) (by decide +kernel) (by decide +kernel)
theorem c_X12_more_0 : rm_Mc base l cI c1 c2 c3 c4 c5 D ad adV rk_q_X12_more [(2, 12, 0), (0, 0, 39), (0, 23, 23)] [((9, 0, 0), [])] 0 1 := k_more base l cI c1 c2 c3 c4 c5 D ad adV 23 23 0 1 (by decide +kernel) (by decide +kernel) (by decide +kernel) (by decide +kernel) (by decide +kernel)
end RMX
