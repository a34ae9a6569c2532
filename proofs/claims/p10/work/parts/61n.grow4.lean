/-- the Ends of a World -/
def rc_ES (f : Nat → va_E) (w : Nat) (eW : Nat → Nat) : Prop := (∀ e, e < 8 → rc_E f w e (eW e)) ∧ ∀ e e9, e < 8 → e9 < 8 → eW e = eW e9 → e = e9
def rc_DJ (eA eB : Nat → Nat) : Prop := ∀ e e9, e < 8 → e9 < 8 → eA e ≠ eB e9
theorem rc_DJ_s {eA eB : Nat → Nat} (h : rc_DJ eA eB) : rc_DJ eB eA := fun e e9 he he9 h9 => h e9 e he9 he h9.symm
/-- what image does to them -/
def rg_IH (a0 : Nat) (eN eI : Nat → Nat) (b : Int32) (G : Nat → Option Nat) (f : Nat → va_E) (x : Int32) (G' : Nat → Option Nat) (u : Nat → va_E) : Prop :=
  (b.toInt = 0 ∧ rk_fld (f a0) 2 = some .null ∧ x.toInt = 0 ∧ u = f) ∨
  (¬ b.toInt = 0 ∧ x.toInt = 1 ∧ ∃ (q : Nat) (eQ : Nat → Nat), rk_fld (u a0) 2 = some (.ref q) ∧ G' q = some 10 ∧ ((rk_fld (f a0) 2 = some (.ref q) ∧ eQ = eI) ∨ (rk_fld (f a0) 2 = some .null ∧ G q = none ∧ ∀ e, e < 8 → G (eQ e) = none)) ∧ rc_ES u q eQ ∧ (∀ e, e < 8 → rk_fld (u (eQ e)) 4 = rk_fld (f (eN e)) 4) ∧ ∀ x, G x = some 1 → (∀ e, e < 8 → x ≠ eQ e) → rk_fld (u x) 4 = rk_fld (f x) 4) ∨
  (b.toInt = 0 ∧ x.toInt = 1 ∧ ∃ q : Nat, rk_fld (f a0) 2 = some (.ref q) ∧ rk_fld (u a0) 2 = some (.ref q) ∧ (∀ e, e < 8 → rk_fld (u (eN e)) 4 = rk_fld (f (eI e)) 4) ∧ ∀ x, G x = some 1 → (∀ e, e < 8 → x ≠ eN e) → rk_fld (u x) 4 = rk_fld (f x) 4)
/-- and lasts -/
def rg_LH (a0 : Nat) (eT : Nat → Nat) (G : Nat → Option Nat) (f u : Nat → va_E) : Prop := (rk_fld (u a0) 3 = rk_fld (f a0) 3 ∨ (rk_fld (f a0) 3 = some .null ∧ ∃ (q : Nat) (eQ : Nat → Nat), rk_fld (u a0) 3 = some (.ref q) ∧ G q = none ∧ rc_ES u q eQ ∧ ∀ e, e < 8 → G (eQ e) = none)) ∧ ∀ x, G x = some 1 → (∀ q, rk_fld (f a0) 3 = some (.ref q) → ∀ e, e < 8 → x ≠ eT e) → rk_fld (u x) 4 = rk_fld (f x) 4
theorem rc_E_f {cI c1 c2 c3 c4 c5 : ClassId} {ad : Nat → Nat} {G : Nat → Option Nat} {L : List Nat} {X : Int} {f u : Nat → va_E} (hT : rm_TY cI c1 c2 c3 c4 c5 ad G X L f) {w e aE : Nat} (hG : G w = some 10) (h : rc_E f w e aE) (h1 : u w = f w) (h2 : ∀ a, G a = some 28 → u a = f a) : rc_E u w e aE := by
  obtain ⟨-, fs, aS, cA, C, g, e1, e2, e3, e4, e5, e6, e7, e8⟩ := rc_row hT hG
  have h9 := rc_E_g h e1 e3 e6
  refine ⟨aS, cA, 8, g, ?_, ?_, h9⟩
  · rw [h1, e1]
    exact e3
  · rw [h2 aS e4]
    exact e6
section RMX
variable (base : Nat) (l : Launch) (cI c1 c2 c3 c4 c5 : ClassId) (D : va_G) (ad adV : Nat → Nat)
theorem rg_image4 (a0 wN : Nat) (eN eI : Nat → Nat) (b : Int32) : rg_Met base l cI c1 c2 c3 c4 c5 D ad adV rk_q_X11_image (358, 10311) [.ref a0, .int b] (fun G _ f => G a0 = some 11 ∧ rk_fld (f a0) 0 = some (.ref wN) ∧ rc_ES f wN eN ∧ ∀ q, rk_fld (f a0) 2 = some (.ref q) → rc_ES f q eI ∧ rc_DJ eN eI) (fun G f v G' u => (∃ x : Int32, v = some (.int x) ∧ rg_IH a0 eN eI b G f x G' u) ∧ rc_Lv G 29 f u) 0 := by
  refine rg_start (M := rk_q_X11_image) (by decide +kernel) (cap := (358, 10311)) (mt := rk_mt [rk_q_X10_copyFrom]) (ml := rk_mlf [(211, 0, 2, 10)]) (fl := rk_flf rk_ftX11) (fun s args h hN => rk_MlOk_of (List.forall_mem_cons.mpr ⟨rk_mck_ok (fun w hw => List.mem_cons_of_mem _ hw) h hN rk_cm_X10_copyFrom rk_lk_X11_211, fun _ h => absurd h List.not_mem_nil⟩) (by decide +kernel)) (fun s args h hN => rk_flX11 (fun w hw => List.mem_cons_of_mem _ hw) h hN) (rm_cat1 rfl) (Nat.le_of_ble_eq_true rfl) ?_
  intro p e st m below meth c G X L f0 A hC hAb hh hX0 hXC hT hpre
  obtain ⟨hG, hp0, hpN, hpI⟩ := hpre
  rw [Int.add_zero] at hXC ⊢
  have tyP : ∀ (G' : Nat → Option Nat) (L' : List Nat) (f' : Nat → va_E) (fs : List Value) (i q : Nat), rm_TY cI c1 c2 c3 c4 c5 ad G' X L' f' → G' a0 = some 11 → f' a0 = .inr (10, fs) → fs.length = 4 → (∀ (i : Nat) (t : rk_AV) (v : Value), ([(2, 10, 0), (2, 9, 0), (3, 10, 0), (3, 10, 0)] : List rk_AV)[i]? = some t → fs[i]? = some v → rk_has G' X t v) → (i = 2 ∨ i = 3) → G' q = some 10 → rm_TY cI c1 c2 c3 c4 c5 ad G' X L' (va_up f' a0 (.inr (10, fs.set i (.ref q)))) := by
    intro G' L' f' fs i q hT hG e1 e2 e3 hi hq
    refine rk_TY_up hT hG ⟨_, rfl, by rw [List.length_set]; exact e2, fun j t' v' hj hv' => ?_⟩
    have hj : ([(2, 10, 0), (2, 9, 0), (3, 10, 0), (3, 10, 0)] : List rk_AV)[j]? = some t' := hj
    by_cases hji : j = i
    · subst hji
      rw [List.getElem?_set_self (by rw [e2]; omega)] at hv'
      cases hv'
      rcases hi with rfl | rfl
      · cases hj
        exact Or.inr ⟨q, rfl, hq⟩
      · cases hj
        exact Or.inr ⟨q, rfl, hq⟩
    · rw [List.getElem?_set_ne (Ne.symm hji)] at hv'
      exact e3 j t' v' hj hv'
  have cp : ∀ (G' : Nat → Option Nat) (L' : List Nat) (f' : Nat → va_E) (H : Heap) (locs : List Loc) (pc a b9 : Nat) (eA eB : Nat → Nat) (lo : List (Nat × Value)), G' a0 = some 11 → (∀ u, rc_Lv G' 13 f' u → (∀ e, e < 8 → rk_fld (u (eA e)) 4 = rk_fld (f' (eB e)) 4) → (∀ x, G' x = some 1 → (∀ e, e < 8 → x ≠ eA e) → rk_fld (u x) 4 = rk_fld (f' x) 4) → rg_IH a0 eN eI b G f0 (Int32.ofInt 1) G' u) → rc_ES f' a eA → rc_ES f' b9 eB → rc_DJ eA eB → rc_Lv G 29 f0 f' → (∀ a k, G a = some k → G' a = some k) → (∀ a ∈ L', base ≤ a) → rm_TY cI c1 c2 c3 c4 c5 ad G' X L' f' → rm_h D A st L' f' H locs → G' a = some 10 → G' b9 = some 10 → decode rk_q_X11_image.2.1 pc = .ok (.invokevirtual 211, 3) → decode rk_q_X11_image.2.1 (pc + 3) = .ok (.iconst 1, 1) → decode rk_q_X11_image.2.1 (pc + 3 + 1) = .ok (.ireturn, 1) → rv_G p l e { frames := rk_q_X11_image.2.2.2.2.1, cells := 358, slots := 10311, locals := rk_q_X11_image.2.2.2.2.2 } st m ([.ref a0, .int b] : List Value).toArray below meth c (MQ below (rk_Q (fun v u => ((fun G f v G' u => (∃ x : Int32, v = some (.int x) ∧ rg_IH a0 eN eI b G f x G' u) ∧ rc_Lv G 29 f u) G f0 v G' u) ∧ rm_TY cI c1 c2 c3 c4 c5 ad G' X L' u) (rk_B D (rk_tys cI c1 c2 c3 c4 c5) L' A) A) ([.ref a0, .int b] : List Value).toArray st 358 10311 A) rk_q_X11_image.2.2.1 358 10311 H locs pc [.ref b9, .ref a] lo := by
    intro G' L' f' H locs pc a b9 eA eB lo hG' kx hEA hEB hDJ hLf hGG1 hbb hT hh ha hb d1 d2 d3
    have hC' := rm_Cx_L hC hbb
    obtain ⟨hL0, fs, e1, e2, e3⟩ := rc_me hT ha rfl
    refine rm_callV (idx := 211) (z := 0) (n := 2) (ci := 9) (as := [.ref b9]) (rest := []) hC' hh d1 rfl hL0 e1 (rc_copyH base l cI c1 c2 c3 c4 c5 D ad adV a b9 eA eB) hX0 (by rw [Int.add_zero]; exact hXC) hT ⟨ha, hb, hEA.1, hEB.1, hEA.2, hDJ⟩ rfl rfl (Nat.le_of_ble_eq_true rfl) ⟨by decide, by decide⟩ (fun v u H1 locs1 hP hh1 => ?_)
    obtain ⟨⟨rfl, hc1, hc2⟩, hT1, hL1⟩ := hP
    rw [Int.add_zero] at hT1
    intro ls hl
    refine lv_iconst hC'.1 hC'.2.1 d2 rfl ?_
    exact rm_zret hC' hh1 d3 rfl (Or.inr rfl) ⟨⟨⟨_, rfl, kx u hL1 hc1 hc2⟩, rc_lv_tr (k := 29) hLf (rg_lvG hGG1 hL1) rfl rfl⟩, hT1⟩ ls hl
  have ff : ∀ (G' : Nat → Option Nat) (L' : List Nat) (f' : Nat → va_E), rm_TY cI c1 c2 c3 c4 c5 ad G' X L' f' → G' a0 = some 11 → a0 ∈ L' ∧ ∃ fs : List Value, f' a0 = .inr (10, fs) ∧ fs.length = 4 ∧ (∀ (i : Nat) (t : rk_AV) (v : Value), ([(2, 10, 0), (2, 9, 0), (3, 10, 0), (3, 10, 0)] : List rk_AV)[i]? = some t → fs[i]? = some v → rk_has G' X t v) := fun G' L' f' hT hG => rc_me hT hG rfl
  obtain ⟨hL0, fs, e1, e2, e3⟩ := ff G L f0 hT hG
  have hv0 : fs[0]? = some fs[0] := List.getElem?_eq_getElem (by omega)
  obtain ⟨aW, eW, hW⟩ := (e3 0 (2, 10, 0) _ rfl hv0 : rk_has G X (2, 10, 0) _)
  rw [eW] at hv0
  have hwN : aW = wN := by
    rw [e1] at hp0
    have hp0 : fs[0]? = some (.ref wN) := hp0
    rw [hv0] at hp0
    cases hp0
    rfl
  subst hwN
  have hv2 : fs[2]? = some fs[2] := List.getElem?_eq_getElem (by omega)
  have h2 := (e3 2 (3, 10, 0) _ rfl hv2 : fs[2] = .null ∨ ∃ q : Nat, fs[2] = .ref q ∧ G q = some 10)
  have t22 : ∀ (G' : Nat → Option Nat) (L' : List Nat) (f' : Nat → va_E) (H : Heap) (locs : List Loc) (aW q : Nat) (eA eB : Nat → Nat) (fs : List Value), G' a0 = some 11 → (∀ u, rc_Lv G' 13 f' u → (∀ e, e < 8 → rk_fld (u (eA e)) 4 = rk_fld (f' (eB e)) 4) → (∀ x, G' x = some 1 → (∀ e, e < 8 → x ≠ eA e) → rk_fld (u x) 4 = rk_fld (f' x) 4) → rg_IH a0 eN eI b G f0 (Int32.ofInt 1) G' u) → rc_ES f' q eA → rc_ES f' aW eB → rc_DJ eA eB → rc_Lv G 29 f0 f' → (∀ a k, G a = some k → G' a = some k) → (∀ a ∈ L', base ≤ a) → rm_TY cI c1 c2 c3 c4 c5 ad G' X L' f' → rm_h D A st L' f' H locs → a0 ∈ L' → f' a0 = .inr (10, fs) → fs[0]? = some (.ref aW) → G' aW = some 10 → fs[2]? = some (.ref q) → G' q = some 10 → rv_G p l e { frames := rk_q_X11_image.2.2.2.2.1, cells := 358, slots := 10311, locals := rk_q_X11_image.2.2.2.2.2 } st m ([.ref a0, .int b] : List Value).toArray below meth c (MQ below (rk_Q (fun v u => ((fun G f v G' u => (∃ x : Int32, v = some (.int x) ∧ rg_IH a0 eN eI b G f x G' u) ∧ rc_Lv G 29 f u) G f0 v G' u) ∧ rm_TY cI c1 c2 c3 c4 c5 ad G' X L' u) (rk_B D (rk_tys cI c1 c2 c3 c4 c5) L' A) A) ([.ref a0, .int b] : List Value).toArray st 358 10311 A) rk_q_X11_image.2.2.1 358 10311 H locs 22 [] [(0, .ref a0), (1, .int b)] := by
    intro G' L' f' H locs aW q eA eB fs hG' kx hEA hEB hDJ hLf hGG1 hbb hT hh hL0 e1 h0 hW h2 hq
    have hC' := rm_Cx_L hC hbb
    refine rv_run hC'.1 hC'.2.1 (T := rv_t_X11_image) rv_k_X11_image 80 ?_
    refine rm_get (idx := 222) hC' hh (by decide +kernel) rfl hL0 e1 h2 ?_
    refine rv_run hC'.1 hC'.2.1 (T := rv_t_X11_image) rv_k_X11_image 80 ?_
    refine rm_get (idx := 12) hC' hh (by decide +kernel) rfl hL0 e1 h0 ?_
    exact cp G' L' f' H locs _ q aW eA eB _ hG' kx hEA hEB hDJ hLf hGG1 hbb hT hh hq hW (by decide +kernel) (by decide +kernel) (by decide +kernel)
  have hBL := hC.2.2.2.2.2.2.2.2.2.2.2.2.2.1
  refine rv_run hC.1 hC.2.1 (T := rv_t_X11_image) rv_k_X11_image 2 ?_
  refine ⟨fun hb0 => ?_, fun hb0 => ?_⟩
  · refine rv_widen (k := 358) (n := 10311) (by decide) (by decide) ?_
    refine rg_fix ⟨fun _ _ h => h, fun _ h => h, fun _ h => h⟩ (fun _ h => h) hBL ?_
    refine rv_run hC.1 hC.2.1 (T := rv_t_X11_image) rv_k_X11_image 80 ?_
    rcases h2 with h2 | ⟨q, h2, hq⟩
    · rw [h2] at hv2
      refine rm_get (idx := 222) hC hh (by decide +kernel) rfl hL0 e1 hv2 ?_
      refine rc_nnN (off := 5) hC (by decide +kernel) ?_
      refine rv_run hC.1 hC.2.1 (T := rv_t_X11_image) rv_k_X11_image 1 ?_
      exact rm_zret hC hh (by decide +kernel) rfl (Or.inl rfl) ⟨⟨⟨_, rfl, Or.inl ⟨hb0, by rw [e1]; exact hv2, rfl, rfl⟩⟩, rc_lv_rf 29⟩, hT⟩
    · rw [h2] at hv2
      refine rm_get (idx := 222) hC hh (by decide +kernel) rfl hL0 e1 hv2 ?_
      refine rc_nn (off := 5) (tgt := 44) hC (by decide +kernel) rfl ?_
      refine rv_run hC.1 hC.2.1 (T := rv_t_X11_image) rv_k_X11_image 80 ?_
      refine rm_get (idx := 12) hC hh (by decide +kernel) rfl hL0 e1 hv0 ?_
      refine rv_run hC.1 hC.2.1 (T := rv_t_X11_image) rv_k_X11_image 80 ?_
      refine rm_get (idx := 222) hC hh (by decide +kernel) rfl hL0 e1 hv2 ?_
      obtain ⟨hI1, hI2⟩ := hpI q (by rw [e1]; exact hv2)
      exact cp G L f0 _ _ _ aW q eN eI _ hG (fun u hL h1 h2 => Or.inr (Or.inr ⟨hb0, rfl, q, by rw [e1]; exact hv2, by rw [← (hL 4 (by decide) rfl : rc_Rb 4 G f0 u) a0 hG, e1]; exact hv2, h1, h2⟩)) hpN hI1 hI2 (rc_lv_rf 29) (fun _ _ h => h) hBL hT hh hW hq (by decide +kernel) (by decide +kernel) (by decide +kernel)
  · refine rv_run hC.1 hC.2.1 (T := rv_t_X11_image) rv_k_X11_image 80 ?_
    rcases h2 with h2 | ⟨q, h2, hq⟩
    · rw [h2] at hv2
      refine rm_get (idx := 222) hC hh (by decide +kernel) rfl hL0 e1 hv2 ?_
      refine rc_nnN (off := 14) hC (by decide +kernel) ?_
      refine rv_run hC.1 hC.2.1 (T := rv_t_X11_image) rv_k_X11_image 1 ?_
      refine rg_newH (i1 := 9) (i2 := 11) hC hAb hh hX0 hT (rk_tat_ok (i := 148) (by decide +kernel)) (rk_tat_ok (i := 150) (by decide +kernel)) ⟨by decide, by decide⟩ ⟨by decide, by decide⟩ (Nat.le_of_ble_eq_true rfl) (by decide +kernel) (by decide +kernel) (by decide +kernel) (fun G' L' f' q eQ H1 locs1 hGG hLL hbb hff hqn hE1 hE2 hq hT' hh' => ?_)
      have hC' := rm_Cx_L hC hbb
      have hG' := hGG.1 _ _ hG
      have hL0' := hLL _ hL0
      have e1' : f' a0 = .inr (10, fs) := by rw [hff a0 hL0]; exact e1
      obtain ⟨-, fs', k1, k2, k3⟩ := ff G' L' f' hT' hG'
      rw [e1'] at k1
      cases k1
      refine rg_fix hGG hLL hbb ?_
      refine rc_putr (idx := 222) (i := 2) hC' hh' (by decide +kernel) rfl hL0' e1' (by omega) (fun H2 locs2 hh2 => ?_)
      have hT2 := tyP G' L' f' fs 2 q hT' hG' e1' k2 k3 (Or.inl rfl) hq
      have hne : a0 ∈ L' := hL0'
      have hLp : rc_Lv G' 17 f' (va_up f' a0 (.inr (10, fs.set 2 (.ref q)))) := (rc_LvOk G').2.2.2 17 f' f' a0 11 _ 2 2 rfl hG' (Or.inl ⟨10, fs, 2, _, e1', rfl, Int.le_refl _, Int.le_refl _⟩) (rc_lv_rf 17)
      have hk0 : ∀ w k, G w = some k → k ≠ 11 → (rk_K k).1 ≠ 9 → va_up f' a0 (.inr (10, fs.set 2 (.ref q))) w = f0 w := fun w k hw hk h9 => by
        rw [va_up_ne _ _ (fun h9 => by rw [h9, hG] at hw; cases hw; exact hk rfl)]
        exact hff w (hT.1 w k hw h9).1
      have hNn : rc_ES (va_up f' a0 (.inr (10, fs.set 2 (.ref q)))) aW eN := ⟨fun e he => rc_E_f hT hW (hpN.1 e he) (hk0 aW 10 hW (by decide) (by decide)) (fun a ha => hk0 a 28 ha (by decide) (by decide)), hpN.2⟩
      have hGq : ∀ w k, G' w = some k → k ≠ 11 → va_up f' a0 (.inr (10, fs.set 2 (.ref q))) w = f' w := fun w k hw hk => va_up_ne _ _ (fun h9 => by rw [h9, hG'] at hw; cases hw; exact hk rfl)
      have hQn : rc_ES (va_up f' a0 (.inr (10, fs.set 2 (.ref q)))) q eQ := ⟨fun e he => rc_E_f hT' hq (hE1 e he).1 (hGq q 10 hq (by decide)) (fun a ha => hGq a 28 ha (by decide)), hE2⟩
      have g1 : ∀ e, e < 8 → G (eN e) = some 1 := fun e he => rc_E_1 hT hW he (hpN.1 e he)
      exact t22 G' L' _ H2 locs2 aW q eQ eN (fs.set 2 (.ref q)) hG' (fun u hL h1 h2 => Or.inr (Or.inl ⟨hb0, rfl, q, eQ, by rw [← (hL 4 (by decide) rfl : rc_Rb 4 G' _ u) a0 hG', va_up_self]; exact List.getElem?_set_self (by omega), hq, Or.inr ⟨by rw [e1]; exact hv2, hqn, fun e he => (hE1 e he).2⟩, ⟨fun e he => rc_E_k hT2 hL rfl hq (hQn.1 e he), hE2⟩, fun e he => by rw [h1 e he, hk0 _ 1 (g1 e he) (by decide) (by decide)], fun w hw hwq => by rw [h2 w (hGG.1 _ _ hw) hwq, hk0 w 1 hw (by decide) (by decide)]⟩)) hQn hNn (fun e e9 he he9 h9 => by
        have := (hE1 e he).2
        rw [h9, g1 e9 he9] at this
        cases this) (rc_lv_tr (k := 29) (rg_lvL (lv := 29) hT hff rfl) (rg_lvG hGG.1 hLp) rfl rfl) hGG.1 hbb hT2 hh2 hL0' (va_up_self _ _ _) (by rw [List.getElem?_set_ne (by decide)]; exact hv0) (hGG.1 _ _ hW) (List.getElem?_set_self (by omega)) hq
    · rw [h2] at hv2
      refine rm_get (idx := 222) hC hh (by decide +kernel) rfl hL0 e1 hv2 ?_
      refine rc_nn (off := 14) (tgt := 22) hC (by decide +kernel) rfl ?_
      refine rv_widen (k := 358) (n := 10311) (by decide) (by decide) ?_
      refine rg_fix ⟨fun _ _ h => h, fun _ h => h, fun _ h => h⟩ (fun _ h => h) hBL ?_
      obtain ⟨hI1, hI2⟩ := hpI q (by rw [e1]; exact hv2)
      exact t22 G L f0 _ _ aW q eI eN fs hG (fun u hL h1 h2 => Or.inr (Or.inl ⟨hb0, rfl, q, eI, by rw [← (hL 4 (by decide) rfl : rc_Rb 4 G f0 u) a0 hG, e1]; exact hv2, hq, Or.inl ⟨by rw [e1]; exact hv2, rfl⟩, ⟨fun e he => rc_E_k hT hL rfl hq (hI1.1 e he), hI1.2⟩, h1, h2⟩)) hI1 hpN (rc_DJ_s hI2) (rc_lv_rf 29) (fun _ _ h => h) hBL hT hh hL0 e1 hv0 hW hv2 hq
theorem rg_lasts4 (a0 wN : Nat) (eN eT : Nat → Nat) (x y : Int32) : rg_Met base l cI c1 c2 c3 c4 c5 D ad adV rk_q_X11_lasts (358, 10311) [.ref a0, .int x, .int y] (fun G _ f => (G a0 = some 11 ∧ ∀ a, G a = some 11 → a = a0) ∧ rk_fld (f a0) 0 = some (.ref wN) ∧ rc_ES f wN eN ∧ ∀ q, rk_fld (f a0) 3 = some (.ref q) → rc_ES f q eT ∧ rc_DJ eT eN) (fun G f v _ u => (∃ x : Int32, v = some (.int x)) ∧ rc_Lv G 77 f u ∧ rg_LH a0 eT G f u) 2276000 := by
  refine rg_start (M := rk_q_X11_lasts) (by decide +kernel) (cap := (358, 10311)) (mt := rk_mt [rk_q_X11_isEnd, rk_q_X10_copyFrom, rk_q_X10_step]) (ml := rk_mlf [(78, 0, 1, 0), (211, 1, 2, 10), (94, 2, 1, 10)]) (fl := rk_flf rk_ftX11) (fun s args h hN => rk_MlOk_of (List.forall_mem_cons.mpr ⟨rk_mck_ok (fun w hw => List.mem_cons_of_mem _ hw) h hN rk_cm_X11_isEnd rk_lk_X11_78, List.forall_mem_cons.mpr ⟨rk_mck_ok (fun w hw => List.mem_cons_of_mem _ hw) h hN rk_cm_X10_copyFrom rk_lk_X11_211, List.forall_mem_cons.mpr ⟨rk_mck_ok (fun w hw => List.mem_cons_of_mem _ hw) h hN rk_cm_X10_step rk_lk_X11_94, fun _ h => absurd h List.not_mem_nil⟩⟩⟩) (by decide +kernel)) (fun s args h hN => rk_flX11 (fun w hw => List.mem_cons_of_mem _ hw) h hN) (rm_cat1 rfl) (Nat.le_of_ble_eq_true rfl) ?_
  intro p e st m below meth c G X L f0 A hC hAb hh hX0 hXC hT hpre
  obtain ⟨⟨hG, hU⟩, hp0, hpN, hpT⟩ := hpre
  have hXt : X + 2276000 ≤ 2000000000 := hXC
  have hXC1 : X ≤ rk_top := by show X ≤ 2000000000; omega
  have tyP : ∀ (G' : Nat → Option Nat) (L' : List Nat) (f' : Nat → va_E) (fs : List Value) (i q : Nat), rm_TY cI c1 c2 c3 c4 c5 ad G' X L' f' → G' a0 = some 11 → f' a0 = .inr (10, fs) → fs.length = 4 → (∀ (i : Nat) (t : rk_AV) (v : Value), ([(2, 10, 0), (2, 9, 0), (3, 10, 0), (3, 10, 0)] : List rk_AV)[i]? = some t → fs[i]? = some v → rk_has G' X t v) → (i = 2 ∨ i = 3) → G' q = some 10 → rm_TY cI c1 c2 c3 c4 c5 ad G' X L' (va_up f' a0 (.inr (10, fs.set i (.ref q)))) := by
    intro G' L' f' fs i q hT hG e1 e2 e3 hi hq
    refine rk_TY_up hT hG ⟨_, rfl, by rw [List.length_set]; exact e2, fun j t' v' hj hv' => ?_⟩
    have hj : ([(2, 10, 0), (2, 9, 0), (3, 10, 0), (3, 10, 0)] : List rk_AV)[j]? = some t' := hj
    by_cases hji : j = i
    · subst hji
      rw [List.getElem?_set_self (by rw [e2]; omega)] at hv'
      cases hv'
      rcases hi with rfl | rfl
      · cases hj
        exact Or.inr ⟨q, rfl, hq⟩
      · cases hj
        exact Or.inr ⟨q, rfl, hq⟩
    · rw [List.getElem?_set_ne (Ne.symm hji)] at hv'
      exact e3 j t' v' hj hv'
  have ff : ∀ (G' : Nat → Option Nat) (L' : List Nat) (f' : Nat → va_E) (Y : Int), rm_TY cI c1 c2 c3 c4 c5 ad G' Y L' f' → G' a0 = some 11 → a0 ∈ L' ∧ ∃ fs : List Value, f' a0 = .inr (10, fs) ∧ fs.length = 4 ∧ (∀ (i : Nat) (t : rk_AV) (v : Value), ([(2, 10, 0), (2, 9, 0), (3, 10, 0), (3, 10, 0)] : List rk_AV)[i]? = some t → fs[i]? = some v → rk_has G' Y t v) := fun G' L' f' Y hT hG => rc_me hT hG rfl
  have hBL := hC.2.2.2.2.2.2.2.2.2.2.2.2.2.1
  have t38 : ∀ (G' : Nat → Option Nat) (L' : List Nat) (f' : Nat → va_E) (H : Heap) (locs : List Loc) (aW q : Nat) (eA : Nat → Nat) (fs : List Value), (∀ a ∈ L', base ≤ a) → G' a0 = some 11 → (∀ a, G' a = some 11 → a = a0) → rm_TY cI c1 c2 c3 c4 c5 ad G' X L' f' → rm_h D A st L' f' H locs → f' a0 = .inr (10, fs) → fs[0]? = some (.ref aW) → G' aW = some 10 → fs[3]? = some (.ref q) → G' q = some 10 → 0 ≤ x.toInt ∧ x.toInt ≤ 7 → (∀ u, u a0 = .inr (10, fs) → rc_Lv G' 13 f' u → (∀ x, G' x = some 1 → (∀ e, e < 8 → x ≠ eA e) → rk_fld (u x) 4 = rk_fld (f' x) 4) → rg_LH a0 eT G f0 u) → rc_ES f' q eA → rc_ES f' aW eN → rc_DJ eA eN → rc_Lv G 77 f0 f' → (∀ a k, G a = some k → G' a = some k) → rv_G p l e { frames := rk_q_X11_lasts.2.2.2.2.1, cells := 358, slots := 10311, locals := rk_q_X11_lasts.2.2.2.2.2 } st m ([.ref a0, .int x, .int y] : List Value).toArray below meth c (MQ below (rk_Q (fun v u => ((∃ x : Int32, v = some (.int x)) ∧ rc_Lv G 77 f0 u ∧ rg_LH a0 eT G f0 u) ∧ rm_TY cI c1 c2 c3 c4 c5 ad G' (X + 2276000) L' u) (rk_B D (rk_tys cI c1 c2 c3 c4 c5) L' A) A) ([.ref a0, .int x, .int y] : List Value).toArray st 358 10311 A) rk_q_X11_lasts.2.2.1 358 10311 H locs 38 [] [(0, .ref a0), (1, .int x), (2, .int y)] := by
    intro G' L' f' H locs aW q eA fs hbb hG hU hT hh e1 h0 hW h3 hq hx kx hEA hEN hDJ hLf hGG1
    have e2 : fs.length = 4 := by
      obtain ⟨-, fs9, k1, k2, -⟩ := ff G' L' f' X hT hG
      rw [e1] at k1
      cases k1
      exact k2
    have hC' := rm_Cx_L hC hbb
    have hL0 := (hT.1 a0 11 hG (by decide)).1
    have hqa : q ≠ a0 := fun h9 => by rw [h9, hG] at hq; cases hq
    have hWa : aW ≠ a0 := fun h9 => by rw [h9, hG] at hW; cases hW
    refine rv_run hC'.1 hC'.2.1 (T := rv_t_X11_lasts) rv_k_X11_lasts 80 ?_
    refine rm_get (idx := 208) hC' hh (by decide +kernel) rfl hL0 e1 h3 ?_
    refine rv_run hC'.1 hC'.2.1 (T := rv_t_X11_lasts) rv_k_X11_lasts 80 ?_
    refine rm_get (idx := 12) hC' hh (by decide +kernel) rfl hL0 e1 h0 ?_
    obtain ⟨hLq, fq, q1, q2, q3⟩ := rc_me hT hq rfl
    refine rm_callV (idx := 211) (z := 1) (n := 2) (ci := 9) (as := [.ref aW]) (rest := []) hC' hh (by decide +kernel) rfl hLq q1 (rc_copyH base l cI c1 c2 c3 c4 c5 D ad adV q aW eA eN) hX0 (by rw [Int.add_zero]; exact hXC1) hT ⟨hq, hW, hEA.1, hEN.1, hEA.2, hDJ⟩ rfl rfl (Nat.le_of_ble_eq_true rfl) ⟨by decide, by decide⟩ (fun v u H1 locs1 hP hh1 => ?_)
    obtain ⟨⟨rfl, hc1, hc2⟩, hT1, hLr⟩ := hP
    have hu0 : u a0 = f' a0 := (rc_same hLr rfl rfl rfl hT1 hG e1 e2).trans e1.symm
    have hK : ∀ x, G' x = some 1 → (∀ e, e < 8 → x ≠ eA e) → rk_fld (u x) 4 = rk_fld (f' x) 4 := hc2
    have hLp : rc_Lv G' 13 f' u := hLr
    have hLu := rc_lv_tr (k := 77) hLf (rg_lvG hGG1 hLr) rfl rfl
    rw [Int.add_zero] at hT1
    rw [e1] at hu0
    refine rv_run hC'.1 hC'.2.1 (T := rv_t_X11_lasts) rv_k_X11_lasts 80 ?_
    refine rm_get (idx := 208) hC' hh1 (by decide +kernel) rfl hL0 hu0 h3 ?_
    obtain ⟨hLq, fq, q1, q2, q3⟩ := rc_me hT1 hq rfl
    have q2 : fq.length = 10 := q2
    have hv3 : fq[3]? = some fq[3] := List.getElem?_eq_getElem (by omega)
    obtain ⟨aS, eS, hS⟩ := (q3 3 (2, 28, 0) _ rfl hv3 : rk_has G' X (2, 28, 0) _)
    rw [eS] at hv3
    refine rm_get (idx := 81) hC' hh1 (by decide +kernel) rfl hLq q1 hv3 ?_
    obtain ⟨hLS, hcS⟩ := hT1.1 aS 28 hS (by decide)
    obtain ⟨cA, C, g, f1, f2, f3⟩ := (hcS : ∃ (cA : ClassId) (C : String) (g : Nat → Option Nat), u aS = .inl (cA, 8, .inr (.inr (.inr (.inr g)))) ∧ (rk_tys cI c1 c2 c3 c4 c5)[4]? = some (cA, .object C) ∧ ∀ i, i < 8 → rk_has G' X (rk_E ad 28 i) (va_rf (g i)))
    obtain ⟨xn, hxn⟩ : ∃ n : Nat, x.toInt = (n : Int) := ⟨_, (Int.toNat_of_nonneg hx.1).symm⟩
    refine rv_run hC'.1 hC'.2.1 (T := rv_t_X11_lasts) rv_k_X11_lasts 1 ?_
    refine rc_aald hC' hh1 (by decide +kernel) hLS f1 f2 (by omega) (by omega) ?_
    rw [rm_clamp hxn]
    obtain ⟨aE, eE, hE⟩ := (f3 xn (by omega) : rk_has G' X (2, 1, 0) _)
    rw [eE]
    refine rc_astn (i := 3) (k := 3) hC' (by decide +kernel) rfl (by decide) rfl ?_
    have loop : ∀ (d : Nat) (k du : Int32) (kn : Nat) (f : Nat → va_E) (H : Heap) (locs : List Loc), rm_h D A st L' f H locs → f a0 = .inr (10, fs) → (∀ x, G' x = some 1 → (∀ e, e < 8 → x ≠ eA e) → rk_fld (f x) 4 = rk_fld (f' x) 4) → rc_Lv G' 13 f' f → rc_Lv G 77 f0 f → rm_TY cI c1 c2 c3 c4 c5 ad G' (X + 5690 * ((kn : Int) - 1)) L' f → k.toInt = (kn : Int) → 1 ≤ kn → kn + d = 401 → rv_G p l e { frames := rk_q_X11_lasts.2.2.2.2.1, cells := 358, slots := 10311, locals := rk_q_X11_lasts.2.2.2.2.2 } st m ([.ref a0, .int x, .int y] : List Value).toArray below meth c (MQ below (rk_Q (fun v u => ((∃ x : Int32, v = some (.int x)) ∧ rc_Lv G 77 f0 u ∧ rg_LH a0 eT G f0 u) ∧ rm_TY cI c1 c2 c3 c4 c5 ad G' (X + 2276000) L' u) (rk_B D (rk_tys cI c1 c2 c3 c4 c5) L' A) A) ([.ref a0, .int x, .int y] : List Value).toArray st 358 10311 A) rk_q_X11_lasts.2.2.1 358 10311 H locs 70 [] [(0, .ref a0), (1, .int x), (2, .int y), (3, .ref aE), (4, .int du), (5, .int k)] := by
      intro d
      induction d with
      | zero =>
        intro k du kn f H locs hh hf0 hK hLp hLf hT hk hk1 hd
        refine rv_run hC'.1 hC'.2.1 (T := rv_t_X11_lasts) rv_k_X11_lasts 3 ?_
        refine ⟨fun _ => ?_, fun h => absurd h (by show ¬ k.toInt ≤ 400; omega)⟩
        refine rv_run hC'.1 hC'.2.1 (T := rv_t_X11_lasts) rv_k_X11_lasts 1 ?_
        exact rm_iret hC' hh (by decide +kernel) rfl ⟨⟨⟨_, rfl⟩, hLf, kx f hf0 hLp hK⟩, rk_TY_X (by omega) hT⟩
      | succ d ih =>
        intro k du kn f H locs hh hf0 hK hLp hLf hT hk hk1 hd
        refine rv_run hC'.1 hC'.2.1 (T := rv_t_X11_lasts) rv_k_X11_lasts 3 ?_
        refine ⟨fun h => absurd h (by show ¬ 400 < k.toInt; omega), fun _ => ?_⟩
        refine rv_run hC'.1 hC'.2.1 (T := rv_t_X11_lasts) rv_k_X11_lasts 80 ?_
        refine rm_get (idx := 208) hC' hh (by decide +kernel) rfl hL0 hf0 h3 ?_
        obtain ⟨hLq, fq, q1, q2, q3⟩ := rc_me hT hq rfl
        refine rm_callV (idx := 94) (z := 2) (n := 1) (ci := 9) (as := []) (rest := []) hC' hh (by decide +kernel) rfl hLq q1 (rm_of (c_X10_step base l cI c1 c2 c3 c4 c5 D ad adV) [.ref q]) (by omega) (by show _ ≤ (2000000000 : Int); omega) hT ⟨rk_all_c ⟨q, rfl, hq⟩ rk_all_0, trivial⟩ rfl rfl (Nat.le_of_ble_eq_true rfl) ⟨by decide, by decide⟩ (fun v u H1 locs1 hP hh1 => ?_)
        obtain ⟨hA, hT1, hLr⟩ := hP
        cases rk_alt_vn hA
        have hu0 : u a0 = f a0 := (rc_same hLr rfl rfl rfl hT1 hG hf0 e2).trans hf0.symm
        have hK1 : ∀ x, G' x = some 1 → (∀ e, e < 8 → x ≠ eA e) → rk_fld (u x) 4 = rk_fld (f' x) 4 := fun w hw hwq => (rc_ho hLr rfl hw).trans (hK w hw hwq)
        have hLp1 : rc_Lv G' 13 f' u := rc_lv_tr (k := 13) hLp hLr rfl rfl
        have hLu := rc_lv_tr (k := 77) hLf (rg_lvG hGG1 hLr) rfl rfl
        rw [hf0] at hu0
        obtain ⟨hLE, fE, w1, w2, w3⟩ := rc_me hT1 hE rfl
        have w2 : fE.length = 8 := w2
        have hv5 : fE[5]? = some fE[5] := List.getElem?_eq_getElem (by omega)
        obtain ⟨rv, er, -⟩ := (w3 5 (1, 0, 0) _ rfl hv5 : rk_has G' (X + 5690 * ((kn : Int) - 1) + 5690) (1, 0, 0) _)
        rw [er] at hv5
        refine rv_run hC'.1 hC'.2.1 (T := rv_t_X11_lasts) rv_k_X11_lasts 80 ?_
        refine rm_get (idx := 215) hC' hh1 (by decide +kernel) rfl hLE w1 hv5 ?_
        refine rv_run hC'.1 hC'.2.1 (T := rv_t_X11_lasts) rv_k_X11_lasts 2 ?_
        refine ⟨fun _ => ?_, fun _ => ?_⟩
        · have e7 := rm_ad (x := k) hk rm_e1 (by omega) (by decide)
          refine rv_run hC'.1 hC'.2.1 (T := rv_t_X11_lasts) rv_k_X11_lasts 2 ?_
          exact ih (k + Int32.ofInt 1) du (kn + 1) u H1 locs1 hh1 hu0 hK1 hLp1 hLu (rk_TY_X (by omega) hT1) (by rw [e7]; omega) (by omega) (by omega)
        · refine rv_run hC'.1 hC'.2.1 (T := rv_t_X11_lasts) rv_k_X11_lasts 1 ?_
          exact rm_iret hC' hh1 (by decide +kernel) rfl ⟨⟨⟨_, rfl⟩, hLu, kx u hu0 hLp1 hK1⟩, rk_TY_X (by omega) hT1⟩
    obtain ⟨hLE, fE, w1, w2, w3⟩ := rc_me hT1 hE rfl
    have w2 : fE.length = 8 := w2
    have hv5 : fE[5]? = some fE[5] := List.getElem?_eq_getElem (by omega)
    obtain ⟨rv, er, -⟩ := (w3 5 (1, 0, 0) _ rfl hv5 : rk_has G' X (1, 0, 0) _)
    rw [er] at hv5
    refine rv_run hC'.1 hC'.2.1 (T := rv_t_X11_lasts) rv_k_X11_lasts 80 ?_
    refine rm_get (idx := 215) hC' hh1 (by decide +kernel) rfl hLE w1 hv5 ?_
    refine rv_run hC'.1 hC'.2.1 (T := rv_t_X11_lasts) rv_k_X11_lasts 5 ?_
    exact loop 400 _ _ 1 u H1 locs1 hh1 hu0 hK hLp hLu (rk_TY_X (by omega) hT1) rfl (by decide) rfl
  refine rv_run hC.1 hC.2.1 (T := rv_t_X11_lasts) rv_k_X11_lasts 80 ?_
  refine rc_callS (idx := 78) (z := 0) (n := 1) (as := [.int x]) (rest := []) hC hh (by decide +kernel) rfl (rm_of (c_X11_isEnd base l cI c1 c2 c3 c4 c5 D ad adV) [.int x]) hX0 (by rw [Int.add_zero]; exact hXC1) hT ⟨rk_all_c rk_aF rk_all_0, trivial⟩ rfl rfl (Nat.le_of_ble_eq_true rfl) ⟨by decide, by decide⟩ (fun v u H locs hP hh9 => ?_)
  obtain ⟨hA, -, hL1⟩ := hP
  have hu : f0 = u := Eq.symm (hL1 0 (by decide) rfl : rc_Rb 0 G f0 u)
  subst hu
  have hh := hh9
  clear hh9
  obtain ⟨w, rfl, hx⟩ := rk_alt_2 hA
  have hx : w.toInt = 0 ∨ (0 ≤ x.toInt ∧ x.toInt ≤ 7) := by
    rcases hx with ⟨-, h⟩ | h
    · obtain ⟨w9, e9, x9, e10, y1, y2⟩ := h _ List.mem_cons_self
      cases e9
      cases e10
      exact Or.inr ⟨y1, y2⟩
    · exact Or.inl h
  clear hA hL1
  have no : ∀ (pc : Nat) (lo : List (Nat × Value)), decode rk_q_X11_lasts.2.1 pc = .ok (.iconst (-1), 1) → decode rk_q_X11_lasts.2.1 (pc + 1) = .ok (.ireturn, 1) → rv_G p l e { frames := rk_q_X11_lasts.2.2.2.2.1, cells := 358, slots := 10311, locals := rk_q_X11_lasts.2.2.2.2.2 } st m ([.ref a0, .int x, .int y] : List Value).toArray below meth c (MQ below (fun _ st oc t => rg_P base cI c1 c2 c3 c4 c5 D ad G (X + 2276000) L A ((fun G f v _ u => (∃ x : Int32, v = some (.int x)) ∧ rc_Lv G 77 f u ∧ rg_LH a0 eT G f u) G f0) oc t ∧ va_F A st t) ([.ref a0, .int x, .int y] : List Value).toArray st 358 10311 A) rk_q_X11_lasts.2.2.1 0 0 H locs pc [] lo := by
    intro pc lo d1 d2
    refine rv_widen (k := 358) (n := 10311) (by decide) (by decide) ?_
    refine rg_fix ⟨fun _ _ h => h, fun _ h => h, fun _ h => h⟩ (fun _ h => h) hBL ?_
    intro ls hl
    refine lv_iconst hC.1 hC.2.1 d1 rfl ?_
    exact rm_iret hC hh d2 rfl ⟨⟨⟨_, rfl⟩, rc_lv_rf 77, Or.inl rfl, fun _ _ _ => rfl⟩, rk_TY_X (by omega) hT⟩ ls hl
  refine rv_run hC.1 hC.2.1 (T := rv_t_X11_lasts) rv_k_X11_lasts 1 ?_
  refine ⟨fun _ => no _ _ (by decide +kernel) (by decide +kernel), fun h => ?_⟩
  have hx := hx.resolve_left h
  refine rv_run hC.1 hC.2.1 (T := rv_t_X11_lasts) rv_k_X11_lasts 3 ?_
  refine ⟨fun _ => no _ _ (by decide +kernel) (by decide +kernel), fun _ => ?_⟩
  refine rv_run hC.1 hC.2.1 (T := rv_t_X11_lasts) rv_k_X11_lasts 3 ?_
  refine ⟨fun _ => ?_, fun _ => no _ _ (by decide +kernel) (by decide +kernel)⟩
  obtain ⟨hL0, fs, e1, e2, e3⟩ := ff G L f0 X hT hG
  have hv0 : fs[0]? = some fs[0] := List.getElem?_eq_getElem (by omega)
  obtain ⟨aW, eW, hW⟩ := (e3 0 (2, 10, 0) _ rfl hv0 : rk_has G X (2, 10, 0) _)
  rw [eW] at hv0
  have hwN : aW = wN := by
    rw [e1] at hp0
    have hp0 : fs[0]? = some (.ref wN) := hp0
    rw [hv0] at hp0
    cases hp0
    rfl
  subst hwN
  have hv3 : fs[3]? = some fs[3] := List.getElem?_eq_getElem (by omega)
  have h3 := (e3 3 (3, 10, 0) _ rfl hv3 : fs[3] = .null ∨ ∃ q : Nat, fs[3] = .ref q ∧ G q = some 10)
  refine rv_run hC.1 hC.2.1 (T := rv_t_X11_lasts) rv_k_X11_lasts 80 ?_
  rcases h3 with h3 | ⟨q, h3, hq⟩
  · rw [h3] at hv3
    refine rm_get (idx := 208) hC hh (by decide +kernel) rfl hL0 e1 hv3 ?_
    refine rc_nnN (off := 14) hC (by decide +kernel) ?_
    refine rv_run hC.1 hC.2.1 (T := rv_t_X11_lasts) rv_k_X11_lasts 1 ?_
    refine rg_newH (i1 := 9) (i2 := 11) hC hAb hh hX0 hT (rk_tat_ok (i := 148) (by decide +kernel)) (rk_tat_ok (i := 150) (by decide +kernel)) ⟨by decide, by decide⟩ ⟨by decide, by decide⟩ (Nat.le_of_ble_eq_true rfl) (by decide +kernel) (by decide +kernel) (by decide +kernel) (fun G' L' f' q eQ H1 locs1 hGG hLL hbb hff hqn hE1 hE2 hq hT' hh' => ?_)
    have hC' := rm_Cx_L hC hbb
    have hG' := hGG.1 _ _ hG
    have hU' : ∀ a, G' a = some 11 → a = a0 := fun a ha => hU a (hGG.2.1 a ha)
    have hL0' := hLL _ hL0
    have e1' : f' a0 = .inr (10, fs) := by rw [hff a0 hL0]; exact e1
    obtain ⟨-, fs', k1, k2, k3⟩ := ff G' L' f' X hT' hG'
    rw [e1'] at k1
    cases k1
    refine rg_fix hGG hLL hbb ?_
    refine rc_putr (idx := 208) (i := 3) hC' hh' (by decide +kernel) rfl hL0' e1' (by omega) (fun H2 locs2 hh2 => ?_)
    have hT2 := tyP G' L' f' fs 3 q hT' hG' e1' k2 k3 (Or.inr rfl) hq
    have hLp : rc_Lv G' 65 f' (va_up f' a0 (.inr (10, fs.set 3 (.ref q)))) := (rc_LvOk G').2.2.2 65 f' f' a0 11 _ 3 3 rfl hG' (Or.inl ⟨10, fs, 3, _, e1', rfl, Int.le_refl _, Int.le_refl _⟩) (rc_lv_rf 65)
    have hk0 : ∀ w k, G w = some k → k ≠ 11 → (rk_K k).1 ≠ 9 → va_up f' a0 (.inr (10, fs.set 3 (.ref q))) w = f0 w := fun w k hw hk h9 => by
      rw [va_up_ne _ _ (fun h9 => by rw [h9, hG] at hw; cases hw; exact hk rfl)]
      exact hff w (hT.1 w k hw h9).1
    have hNn : rc_ES (va_up f' a0 (.inr (10, fs.set 3 (.ref q)))) aW eN := ⟨fun e he => rc_E_f hT hW (hpN.1 e he) (hk0 aW 10 hW (by decide) (by decide)) (fun a ha => hk0 a 28 ha (by decide) (by decide)), hpN.2⟩
    have hGq : ∀ w k, G' w = some k → k ≠ 11 → va_up f' a0 (.inr (10, fs.set 3 (.ref q))) w = f' w := fun w k hw hk => va_up_ne _ _ (fun h9 => by rw [h9, hG'] at hw; cases hw; exact hk rfl)
    have hQn : rc_ES (va_up f' a0 (.inr (10, fs.set 3 (.ref q)))) q eQ := ⟨fun e he => rc_E_f hT' hq (hE1 e he).1 (hGq q 10 hq (by decide)) (fun a ha => hGq a 28 ha (by decide)), hE2⟩
    have g1 : ∀ e, e < 8 → G (eN e) = some 1 := fun e he => rc_E_1 hT hW he (hpN.1 e he)
    exact t38 G' L' _ H2 locs2 aW q eQ (fs.set 3 (.ref q)) hbb hG' hU' hT2 hh2 (va_up_self _ _ _) (by rw [List.getElem?_set_ne (by decide)]; exact hv0) (hGG.1 _ _ hW) (List.getElem?_set_self (by omega)) hq hx (fun u h1 hL h2 => ⟨Or.inr ⟨by rw [e1]; exact hv3, q, eQ, by rw [h1]; exact List.getElem?_set_self (by omega), hqn, ⟨fun e he => rc_E_k hT2 hL rfl hq (hQn.1 e he), hE2⟩, fun e he => (hE1 e he).2⟩, fun w hw _ => by
      rw [h2 w (hGG.1 _ _ hw) (fun e he h9 => by rw [h9, (hE1 e he).2] at hw; cases hw), hk0 w 1 hw (by decide) (by decide)]⟩) hQn hNn (fun e e9 he he9 h9 => by
        have := (hE1 e he).2
        rw [h9, g1 e9 he9] at this
        cases this) (rc_lv_tr (k := 77) (rg_lvL (lv := 77) hT hff rfl) (rg_lvG hGG.1 hLp) rfl rfl) hGG.1
  · rw [h3] at hv3
    refine rm_get (idx := 208) hC hh (by decide +kernel) rfl hL0 e1 hv3 ?_
    refine rc_nn (off := 14) (tgt := 38) hC (by decide +kernel) rfl ?_
    refine rv_widen (k := 358) (n := 10311) (by decide) (by decide) ?_
    refine rg_fix ⟨fun _ _ h => h, fun _ h => h, fun _ h => h⟩ (fun _ h => h) hBL ?_
    obtain ⟨hI1, hI2⟩ := hpT q (by rw [e1]; exact hv3)
    exact t38 G L f0 _ _ aW q eT fs hBL hG hU hT hh e1 hv0 hW hv3 hq hx (fun u h1 hL h2 => ⟨Or.inl (by rw [h1, e1]), fun w hw hwq => h2 w hw (fun e he => hwq q (by rw [e1]; exact hv3) e he)⟩) hI1 hpN hI2 (rc_lv_rf 77) (fun _ _ h => h)
end RMX
