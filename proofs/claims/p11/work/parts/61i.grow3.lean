/-- what image does to the Worlds' ticks -/
def rg_IM (a0 : Nat) (b : Int32) (G : Nat → Option Nat) (f : Nat → va_E) (x : Int32) (G' : Nat → Option Nat) (u : Nat → va_E) : Prop :=
  (b.toInt = 0 ∧ rk_fld (f a0) 2 = some .null ∧ x.toInt = 0 ∧ u = f) ∨
  (¬ b.toInt = 0 ∧ x.toInt = 1 ∧ ∃ aW q : Nat, rk_fld (f a0) 0 = some (.ref aW) ∧ rk_fld (u a0) 2 = some (.ref q) ∧ G' q = some 10 ∧ (rk_fld (f a0) 2 = some (.ref q) ∨ (rk_fld (f a0) 2 = some .null ∧ G q = none)) ∧ rk_fld (u q) 6 = rk_fld (f aW) 6 ∧ ∀ w, G w = some 10 → w ≠ q → rk_fld (u w) 6 = rk_fld (f w) 6) ∨
  (b.toInt = 0 ∧ x.toInt = 1 ∧ ∃ aW q : Nat, rk_fld (f a0) 0 = some (.ref aW) ∧ rk_fld (f a0) 2 = some (.ref q) ∧ rk_fld (u a0) 2 = some (.ref q) ∧ rk_fld (u aW) 6 = rk_fld (f q) 6 ∧ ∀ w, G w = some 10 → w ≠ aW → rk_fld (u w) 6 = rk_fld (f w) 6)
/-- and lasts -/
def rg_LA (a0 : Nat) (G : Nat → Option Nat) (f u : Nat → va_E) : Prop := (rk_fld (u a0) 3 = rk_fld (f a0) 3 ∨ (rk_fld (f a0) 3 = some .null ∧ ∃ q : Nat, rk_fld (u a0) 3 = some (.ref q) ∧ G q = none)) ∧ ∀ w, G w = some 10 → rk_fld (f a0) 3 ≠ some (.ref w) → rk_fld (u w) 6 = rk_fld (f w) 6
section RMX
variable (base : Nat) (l : Launch) (cI c1 c2 c3 c4 c5 : ClassId) (D : va_G) (ad adV : Nat → Nat)
theorem rg_image3 (a0 : Nat) (b : Int32) : rg_Met base l cI c1 c2 c3 c4 c5 D ad adV rk_q_X11_image (358, 10311) [.ref a0, .int b] (fun G _ _ => G a0 = some 11) (fun G f v G' u => (∃ x : Int32, v = some (.int x) ∧ rg_IM a0 b G f x G' u) ∧ rc_Lv G 29 f u) 0 := by
  refine rg_start (M := rk_q_X11_image) (by decide +kernel) (cap := (358, 10311)) (mt := rk_mt [rk_q_X10_copyFrom]) (ml := rk_mlf [(211, 0, 2, 10)]) (fl := rk_flf rk_ftX11) (fun s args h hN => rk_MlOk_of (List.forall_mem_cons.mpr ⟨rk_mck_ok (fun w hw => List.mem_cons_of_mem _ hw) h hN rk_cm_X10_copyFrom rk_lk_X11_211, fun _ h => absurd h List.not_mem_nil⟩) (by decide +kernel)) (fun s args h hN => rk_flX11 (fun w hw => List.mem_cons_of_mem _ hw) h hN) (rm_cat1 rfl) (Nat.le_of_ble_eq_true rfl) ?_
  intro p e st m below meth c G X L f0 A hC hAb hh hX0 hXC hT hpre
  have hG : G a0 = some 11 := hpre
  rw [Int.add_zero] at hXC ⊢
  have tyP : ∀ (G' : Nat → Option Nat) (L' : List Nat) (f' : Nat → va_E) (fs : List Value) (i q : Nat), rm_TY cI c1 c2 c3 c4 c5 ad G' X L' f' → G' a0 = some 11 → f' a0 = .inr (10, fs) → fs.length = 4 → (∀ (i : Nat) (t : rk_AV) (v : Value), ([(2, 10, 0), (2, 9, 0), (3, 10, 0), (3, 10, 0)] : List rk_AV)[i]? = some t → fs[i]? = some v → rk_has G' X t v) → (i = 2 ∨ i = 3) → G' q = some 10 → rm_TY cI c1 c2 c3 c4 c5 ad G' X L' (va_up f' a0 (.inr (10, fs.set i (.ref q)))) := by
    intro G' L' f' fs i q hT hG e1 e2 e3 hi hq
    refine rk_TY_up hT hG ⟨_, rfl, by rw [List.length_set]; exact e2, fun j t' v' hj hv' => ?_⟩
    have hj : ([(2, 10, 0), (2, 9, 0), (3, 10, 0), (3, 10, 0)] : List rk_AV)[j]? = some t' := hj
    by_cases hji : j = i
    · subst hji
      rw [List.getElem?_set_self (by rw [e2]; omega)] at hv'
      cases hv'
      rcases hi with rfl | rfl
      · cases hj
        exact Or.inr ⟨q, rfl, hq⟩
      · cases hj
        exact Or.inr ⟨q, rfl, hq⟩
    · rw [List.getElem?_set_ne (Ne.symm hji)] at hv'
      exact e3 j t' v' hj hv'
  have cp : ∀ (G' : Nat → Option Nat) (L' : List Nat) (f' : Nat → va_E) (H : Heap) (locs : List Loc) (pc a b9 : Nat) (lo : List (Nat × Value)), G' a0 = some 11 → (∀ u, rc_Lv G' 13 f' u → rk_fld (u a) 6 = rk_fld (f' b9) 6 → (∀ w, G' w = some 10 → w ≠ a → rk_fld (u w) 6 = rk_fld (f' w) 6) → rg_IM a0 b G f0 (Int32.ofInt 1) G' u) → rc_Lv G 29 f0 f' → (∀ a k, G a = some k → G' a = some k) → (∀ a ∈ L', base ≤ a) → rm_TY cI c1 c2 c3 c4 c5 ad G' X L' f' → rm_h D A st L' f' H locs → G' a = some 10 → G' b9 = some 10 → decode rk_q_X11_image.2.1 pc = .ok (.invokevirtual 211, 3) → decode rk_q_X11_image.2.1 (pc + 3) = .ok (.iconst 1, 1) → decode rk_q_X11_image.2.1 (pc + 3 + 1) = .ok (.ireturn, 1) → rv_G p l e { frames := rk_q_X11_image.2.2.2.2.1, cells := 358, slots := 10311, locals := rk_q_X11_image.2.2.2.2.2 } st m ([.ref a0, .int b] : List Value).toArray below meth c (MQ below (rk_Q (fun v u => ((fun G f v G' u => (∃ x : Int32, v = some (.int x) ∧ rg_IM a0 b G f x G' u) ∧ rc_Lv G 29 f u) G f0 v G' u) ∧ rm_TY cI c1 c2 c3 c4 c5 ad G' X L' u) (rk_B D (rk_tys cI c1 c2 c3 c4 c5) L' A) A) ([.ref a0, .int b] : List Value).toArray st 358 10311 A) rk_q_X11_image.2.2.1 358 10311 H locs pc [.ref b9, .ref a] lo := by
    intro G' L' f' H locs pc a b9 lo hG' kx hLf hGG1 hbb hT hh ha hb d1 d2 d3
    have hC' := rm_Cx_L hC hbb
    obtain ⟨hL0, fs, e1, e2, e3⟩ := rc_me hT ha rfl
    refine rm_callV (idx := 211) (z := 0) (n := 2) (ci := 9) (as := [.ref b9]) (rest := []) hC' hh d1 rfl hL0 e1 (rc_copyW base l cI c1 c2 c3 c4 c5 D ad adV a b9) hX0 (by rw [Int.add_zero]; exact hXC) hT ⟨ha, hb⟩ rfl rfl (Nat.le_of_ble_eq_true rfl) ⟨by decide, by decide⟩ (fun v u H1 locs1 hP hh1 => ?_)
    obtain ⟨⟨rfl, hc1, hc2⟩, hT1, hL1⟩ := hP
    rw [Int.add_zero] at hT1
    intro ls hl
    refine lv_iconst hC'.1 hC'.2.1 d2 rfl ?_
    exact rm_zret hC' hh1 d3 rfl (Or.inr rfl) ⟨⟨⟨_, rfl, kx u hL1 hc1 hc2⟩, rc_lv_tr (k := 29) hLf (rg_lvG hGG1 hL1) rfl rfl⟩, hT1⟩ ls hl
  have ff : ∀ (G' : Nat → Option Nat) (L' : List Nat) (f' : Nat → va_E), rm_TY cI c1 c2 c3 c4 c5 ad G' X L' f' → G' a0 = some 11 → a0 ∈ L' ∧ ∃ fs : List Value, f' a0 = .inr (10, fs) ∧ fs.length = 4 ∧ (∀ (i : Nat) (t : rk_AV) (v : Value), ([(2, 10, 0), (2, 9, 0), (3, 10, 0), (3, 10, 0)] : List rk_AV)[i]? = some t → fs[i]? = some v → rk_has G' X t v) := fun G' L' f' hT hG => rc_me hT hG rfl
  obtain ⟨hL0, fs, e1, e2, e3⟩ := ff G L f0 hT hG
  have hv0 : fs[0]? = some fs[0] := List.getElem?_eq_getElem (by omega)
  obtain ⟨aW, eW, hW⟩ := (e3 0 (2, 10, 0) _ rfl hv0 : rk_has G X (2, 10, 0) _)
  rw [eW] at hv0
  have hv2 : fs[2]? = some fs[2] := List.getElem?_eq_getElem (by omega)
  have h2 := (e3 2 (3, 10, 0) _ rfl hv2 : fs[2] = .null ∨ ∃ q : Nat, fs[2] = .ref q ∧ G q = some 10)
  have t22 : ∀ (G' : Nat → Option Nat) (L' : List Nat) (f' : Nat → va_E) (H : Heap) (locs : List Loc) (aW q : Nat) (fs : List Value), G' a0 = some 11 → (∀ u, rc_Lv G' 13 f' u → rk_fld (u q) 6 = rk_fld (f' aW) 6 → (∀ w, G' w = some 10 → w ≠ q → rk_fld (u w) 6 = rk_fld (f' w) 6) → rg_IM a0 b G f0 (Int32.ofInt 1) G' u) → rc_Lv G 29 f0 f' → (∀ a k, G a = some k → G' a = some k) → (∀ a ∈ L', base ≤ a) → rm_TY cI c1 c2 c3 c4 c5 ad G' X L' f' → rm_h D A st L' f' H locs → a0 ∈ L' → f' a0 = .inr (10, fs) → fs[0]? = some (.ref aW) → G' aW = some 10 → fs[2]? = some (.ref q) → G' q = some 10 → rv_G p l e { frames := rk_q_X11_image.2.2.2.2.1, cells := 358, slots := 10311, locals := rk_q_X11_image.2.2.2.2.2 } st m ([.ref a0, .int b] : List Value).toArray below meth c (MQ below (rk_Q (fun v u => ((fun G f v G' u => (∃ x : Int32, v = some (.int x) ∧ rg_IM a0 b G f x G' u) ∧ rc_Lv G 29 f u) G f0 v G' u) ∧ rm_TY cI c1 c2 c3 c4 c5 ad G' X L' u) (rk_B D (rk_tys cI c1 c2 c3 c4 c5) L' A) A) ([.ref a0, .int b] : List Value).toArray st 358 10311 A) rk_q_X11_image.2.2.1 358 10311 H locs 22 [] [(0, .ref a0), (1, .int b)] := by
    intro G' L' f' H locs aW q fs hG' kx hLf hGG1 hbb hT hh hL0 e1 h0 hW h2 hq
    have hC' := rm_Cx_L hC hbb
    refine rv_run hC'.1 hC'.2.1 (T := rv_t_X11_image) rv_k_X11_image 80 ?_
    refine rm_get (idx := 222) hC' hh (by decide +kernel) rfl hL0 e1 h2 ?_
    refine rv_run hC'.1 hC'.2.1 (T := rv_t_X11_image) rv_k_X11_image 80 ?_
    refine rm_get (idx := 12) hC' hh (by decide +kernel) rfl hL0 e1 h0 ?_
    exact cp G' L' f' H locs _ q aW _ hG' kx hLf hGG1 hbb hT hh hq hW (by decide +kernel) (by decide +kernel) (by decide +kernel)
  have hBL := hC.2.2.2.2.2.2.2.2.2.2.2.2.2.1
  refine rv_run hC.1 hC.2.1 (T := rv_t_X11_image) rv_k_X11_image 2 ?_
  refine ⟨fun hb0 => ?_, fun hb0 => ?_⟩
  · refine rv_widen (k := 358) (n := 10311) (by decide) (by decide) ?_
    refine rg_fix ⟨fun _ _ h => h, fun _ h => h, fun _ h => h⟩ (fun _ h => h) hBL ?_
    refine rv_run hC.1 hC.2.1 (T := rv_t_X11_image) rv_k_X11_image 80 ?_
    rcases h2 with h2 | ⟨q, h2, hq⟩
    · rw [h2] at hv2
      refine rm_get (idx := 222) hC hh (by decide +kernel) rfl hL0 e1 hv2 ?_
      refine rc_nnN (off := 5) hC (by decide +kernel) ?_
      refine rv_run hC.1 hC.2.1 (T := rv_t_X11_image) rv_k_X11_image 1 ?_
      exact rm_zret hC hh (by decide +kernel) rfl (Or.inl rfl) ⟨⟨⟨_, rfl, Or.inl ⟨hb0, by rw [e1]; exact hv2, rfl, rfl⟩⟩, rc_lv_rf 29⟩, hT⟩
    · rw [h2] at hv2
      refine rm_get (idx := 222) hC hh (by decide +kernel) rfl hL0 e1 hv2 ?_
      refine rc_nn (off := 5) (tgt := 44) hC (by decide +kernel) rfl ?_
      refine rv_run hC.1 hC.2.1 (T := rv_t_X11_image) rv_k_X11_image 80 ?_
      refine rm_get (idx := 12) hC hh (by decide +kernel) rfl hL0 e1 hv0 ?_
      refine rv_run hC.1 hC.2.1 (T := rv_t_X11_image) rv_k_X11_image 80 ?_
      refine rm_get (idx := 222) hC hh (by decide +kernel) rfl hL0 e1 hv2 ?_
      exact cp G L f0 _ _ _ aW q _ hG (fun u hL h1 h2 => Or.inr (Or.inr ⟨hb0, rfl, aW, q, by rw [e1]; exact hv0, by rw [e1]; exact hv2, by rw [← (hL 4 (by decide) rfl : rc_Rb 4 G f0 u) a0 hG, e1]; exact hv2, h1, h2⟩)) (rc_lv_rf 29) (fun _ _ h => h) hBL hT hh hW hq (by decide +kernel) (by decide +kernel) (by decide +kernel)
  · refine rv_run hC.1 hC.2.1 (T := rv_t_X11_image) rv_k_X11_image 80 ?_
    rcases h2 with h2 | ⟨q, h2, hq⟩
    · rw [h2] at hv2
      refine rm_get (idx := 222) hC hh (by decide +kernel) rfl hL0 e1 hv2 ?_
      refine rc_nnN (off := 14) hC (by decide +kernel) ?_
      refine rv_run hC.1 hC.2.1 (T := rv_t_X11_image) rv_k_X11_image 1 ?_
      refine rg_newW (i1 := 9) (i2 := 11) hC hAb hh hX0 hT (rk_tat_ok (i := 148) (by decide +kernel)) (rk_tat_ok (i := 150) (by decide +kernel)) ⟨by decide, by decide⟩ ⟨by decide, by decide⟩ (Nat.le_of_ble_eq_true rfl) (by decide +kernel) (by decide +kernel) (by decide +kernel) (fun G' L' f' q H1 locs1 hGG hLL hbb hff hqn hq hT' hh' => ?_)
      have hC' := rm_Cx_L hC hbb
      have hG' := hGG.1 _ _ hG
      have hL0' := hLL _ hL0
      have e1' : f' a0 = .inr (10, fs) := by rw [hff a0 hL0]; exact e1
      obtain ⟨-, fs', k1, k2, k3⟩ := ff G' L' f' hT' hG'
      rw [e1'] at k1
      cases k1
      refine rg_fix hGG hLL hbb ?_
      refine rc_putr (idx := 222) (i := 2) hC' hh' (by decide +kernel) rfl hL0' e1' (by omega) (fun H2 locs2 hh2 => ?_)
      have hT2 := tyP G' L' f' fs 2 q hT' hG' e1' k2 k3 (Or.inl rfl) hq
      have hne : a0 ∈ L' := hL0'
      have hLp : rc_Lv G' 17 f' (va_up f' a0 (.inr (10, fs.set 2 (.ref q)))) := (rc_LvOk G').2.2.2 17 f' f' a0 11 _ 2 2 rfl hG' (Or.inl ⟨10, fs, 2, _, e1', rfl, Int.le_refl _, Int.le_refl _⟩) (rc_lv_rf 17)
      have hPk : ∀ w, G w = some 10 → va_up f' a0 (.inr (10, fs.set 2 (.ref q))) w = f0 w := fun w hw => by
        rw [va_up_ne _ _ (fun h9 => by rw [h9, hG] at hw; cases hw)]
        exact hff w (hT.1 w 10 hw (by decide)).1
      exact t22 G' L' _ H2 locs2 aW q (fs.set 2 (.ref q)) hG' (fun u hL h1 h2 => Or.inr (Or.inl ⟨hb0, rfl, aW, q, by rw [e1]; exact hv0, by rw [← (hL 4 (by decide) rfl : rc_Rb 4 G' _ u) a0 hG', va_up_self]; exact List.getElem?_set_self (by omega), hq, Or.inr ⟨by rw [e1]; exact hv2, hqn⟩, by rw [h1, hPk aW hW], fun w hw hwq => by rw [h2 w (hGG.1 _ _ hw) hwq, hPk w hw]⟩)) (rc_lv_tr (k := 29) (rg_lvL (lv := 29) hT hff rfl) (rg_lvG hGG.1 hLp) rfl rfl) hGG.1 hbb hT2 hh2 hL0' (va_up_self _ _ _) (by rw [List.getElem?_set_ne (by decide)]; exact hv0) (hGG.1 _ _ hW) (List.getElem?_set_self (by omega)) hq
    · rw [h2] at hv2
      refine rm_get (idx := 222) hC hh (by decide +kernel) rfl hL0 e1 hv2 ?_
      refine rc_nn (off := 14) (tgt := 22) hC (by decide +kernel) rfl ?_
      refine rv_widen (k := 358) (n := 10311) (by decide) (by decide) ?_
      refine rg_fix ⟨fun _ _ h => h, fun _ h => h, fun _ h => h⟩ (fun _ h => h) hBL ?_
      exact t22 G L f0 _ _ aW q fs hG (fun u hL h1 h2 => Or.inr (Or.inl ⟨hb0, rfl, aW, q, by rw [e1]; exact hv0, by rw [← (hL 4 (by decide) rfl : rc_Rb 4 G f0 u) a0 hG, e1]; exact hv2, hq, Or.inl (by rw [e1]; exact hv2), h1, h2⟩)) (rc_lv_rf 29) (fun _ _ h => h) hBL hT hh hL0 e1 hv0 hW hv2 hq
theorem rg_lasts3 (a0 : Nat) (x y : Int32) : rg_Met base l cI c1 c2 c3 c4 c5 D ad adV rk_q_X11_lasts (358, 10311) [.ref a0, .int x, .int y] (fun G _ _ => G a0 = some 11 ∧ ∀ a, G a = some 11 → a = a0) (fun G f v _ u => (∃ x : Int32, v = some (.int x)) ∧ rc_Lv G 77 f u ∧ rg_LA a0 G f u) 2276000 := by
  refine rg_start (M := rk_q_X11_lasts) (by decide +kernel) (cap := (358, 10311)) (mt := rk_mt [rk_q_X11_isEnd, rk_q_X10_copyFrom, rk_q_X10_step]) (ml := rk_mlf [(78, 0, 1, 0), (211, 1, 2, 10), (94, 2, 1, 10)]) (fl := rk_flf rk_ftX11) (fun s args h hN => rk_MlOk_of (List.forall_mem_cons.mpr ⟨rk_mck_ok (fun w hw => List.mem_cons_of_mem _ hw) h hN rk_cm_X11_isEnd rk_lk_X11_78, List.forall_mem_cons.mpr ⟨rk_mck_ok (fun w hw => List.mem_cons_of_mem _ hw) h hN rk_cm_X10_copyFrom rk_lk_X11_211, List.forall_mem_cons.mpr ⟨rk_mck_ok (fun w hw => List.mem_cons_of_mem _ hw) h hN rk_cm_X10_step rk_lk_X11_94, fun _ h => absurd h List.not_mem_nil⟩⟩⟩) (by decide +kernel)) (fun s args h hN => rk_flX11 (fun w hw => List.mem_cons_of_mem _ hw) h hN) (rm_cat1 rfl) (Nat.le_of_ble_eq_true rfl) ?_
  intro p e st m below meth c G X L f0 A hC hAb hh hX0 hXC hT hpre
  obtain ⟨hG, hU⟩ := hpre
  have hXt : X + 2276000 ≤ 2000000000 := hXC
  have hXC1 : X ≤ rk_top := by show X ≤ 2000000000; omega
  have tyP : ∀ (G' : Nat → Option Nat) (L' : List Nat) (f' : Nat → va_E) (fs : List Value) (i q : Nat), rm_TY cI c1 c2 c3 c4 c5 ad G' X L' f' → G' a0 = some 11 → f' a0 = .inr (10, fs) → fs.length = 4 → (∀ (i : Nat) (t : rk_AV) (v : Value), ([(2, 10, 0), (2, 9, 0), (3, 10, 0), (3, 10, 0)] : List rk_AV)[i]? = some t → fs[i]? = some v → rk_has G' X t v) → (i = 2 ∨ i = 3) → G' q = some 10 → rm_TY cI c1 c2 c3 c4 c5 ad G' X L' (va_up f' a0 (.inr (10, fs.set i (.ref q)))) := by
    intro G' L' f' fs i q hT hG e1 e2 e3 hi hq
    refine rk_TY_up hT hG ⟨_, rfl, by rw [List.length_set]; exact e2, fun j t' v' hj hv' => ?_⟩
    have hj : ([(2, 10, 0), (2, 9, 0), (3, 10, 0), (3, 10, 0)] : List rk_AV)[j]? = some t' := hj
    by_cases hji : j = i
    · subst hji
      rw [List.getElem?_set_self (by rw [e2]; omega)] at hv'
      cases hv'
      rcases hi with rfl | rfl
      · cases hj
        exact Or.inr ⟨q, rfl, hq⟩
      · cases hj
        exact Or.inr ⟨q, rfl, hq⟩
    · rw [List.getElem?_set_ne (Ne.symm hji)] at hv'
      exact e3 j t' v' hj hv'
  have ff : ∀ (G' : Nat → Option Nat) (L' : List Nat) (f' : Nat → va_E) (Y : Int), rm_TY cI c1 c2 c3 c4 c5 ad G' Y L' f' → G' a0 = some 11 → a0 ∈ L' ∧ ∃ fs : List Value, f' a0 = .inr (10, fs) ∧ fs.length = 4 ∧ (∀ (i : Nat) (t : rk_AV) (v : Value), ([(2, 10, 0), (2, 9, 0), (3, 10, 0), (3, 10, 0)] : List rk_AV)[i]? = some t → fs[i]? = some v → rk_has G' Y t v) := fun G' L' f' Y hT hG => rc_me hT hG rfl
  have hBL := hC.2.2.2.2.2.2.2.2.2.2.2.2.2.1
  have t38 : ∀ (G' : Nat → Option Nat) (L' : List Nat) (f' : Nat → va_E) (H : Heap) (locs : List Loc) (aW q : Nat) (fs : List Value), (∀ a ∈ L', base ≤ a) → G' a0 = some 11 → (∀ a, G' a = some 11 → a = a0) → rm_TY cI c1 c2 c3 c4 c5 ad G' X L' f' → rm_h D A st L' f' H locs → f' a0 = .inr (10, fs) → fs[0]? = some (.ref aW) → G' aW = some 10 → fs[3]? = some (.ref q) → G' q = some 10 → 0 ≤ x.toInt ∧ x.toInt ≤ 7 → (∀ u, u a0 = .inr (10, fs) → (∀ w, G' w = some 10 → w ≠ q → rk_fld (u w) 6 = rk_fld (f' w) 6) → rg_LA a0 G f0 u) → rc_Lv G 77 f0 f' → (∀ a k, G a = some k → G' a = some k) → rv_G p l e { frames := rk_q_X11_lasts.2.2.2.2.1, cells := 358, slots := 10311, locals := rk_q_X11_lasts.2.2.2.2.2 } st m ([.ref a0, .int x, .int y] : List Value).toArray below meth c (MQ below (rk_Q (fun v u => ((∃ x : Int32, v = some (.int x)) ∧ rc_Lv G 77 f0 u ∧ rg_LA a0 G f0 u) ∧ rm_TY cI c1 c2 c3 c4 c5 ad G' (X + 2276000) L' u) (rk_B D (rk_tys cI c1 c2 c3 c4 c5) L' A) A) ([.ref a0, .int x, .int y] : List Value).toArray st 358 10311 A) rk_q_X11_lasts.2.2.1 358 10311 H locs 38 [] [(0, .ref a0), (1, .int x), (2, .int y)] := by
    intro G' L' f' H locs aW q fs hbb hG hU hT hh e1 h0 hW h3 hq hx kx hLf hGG1
    have e2 : fs.length = 4 := by
      obtain ⟨-, fs9, k1, k2, -⟩ := ff G' L' f' X hT hG
      rw [e1] at k1
      cases k1
      exact k2
    have hC' := rm_Cx_L hC hbb
    have hL0 := (hT.1 a0 11 hG (by decide)).1
    have hqa : q ≠ a0 := fun h9 => by rw [h9, hG] at hq; cases hq
    have hWa : aW ≠ a0 := fun h9 => by rw [h9, hG] at hW; cases hW
    refine rv_run hC'.1 hC'.2.1 (T := rv_t_X11_lasts) rv_k_X11_lasts 80 ?_
    refine rm_get (idx := 208) hC' hh (by decide +kernel) rfl hL0 e1 h3 ?_
    refine rv_run hC'.1 hC'.2.1 (T := rv_t_X11_lasts) rv_k_X11_lasts 80 ?_
    refine rm_get (idx := 12) hC' hh (by decide +kernel) rfl hL0 e1 h0 ?_
    obtain ⟨hLq, fq, q1, q2, q3⟩ := rc_me hT hq rfl
    refine rm_callV (idx := 211) (z := 1) (n := 2) (ci := 9) (as := [.ref aW]) (rest := []) hC' hh (by decide +kernel) rfl hLq q1 (rc_copyW base l cI c1 c2 c3 c4 c5 D ad adV q aW) hX0 (by rw [Int.add_zero]; exact hXC1) hT ⟨hq, hW⟩ rfl rfl (Nat.le_of_ble_eq_true rfl) ⟨by decide, by decide⟩ (fun v u H1 locs1 hP hh1 => ?_)
    obtain ⟨⟨rfl, hc1, hc2⟩, hT1, hLr⟩ := hP
    have hu0 : u a0 = f' a0 := (rc_same hLr rfl rfl rfl hT1 hG e1 e2).trans e1.symm
    have hK : ∀ w, G' w = some 10 → w ≠ q → rk_fld (u w) 6 = rk_fld (f' w) 6 := hc2
    have hLu := rc_lv_tr (k := 77) hLf (rg_lvG hGG1 hLr) rfl rfl
    rw [Int.add_zero] at hT1
    rw [e1] at hu0
    refine rv_run hC'.1 hC'.2.1 (T := rv_t_X11_lasts) rv_k_X11_lasts 80 ?_
    refine rm_get (idx := 208) hC' hh1 (by decide +kernel) rfl hL0 hu0 h3 ?_
    obtain ⟨hLq, fq, q1, q2, q3⟩ := rc_me hT1 hq rfl
    have q2 : fq.length = 10 := q2
    have hv3 : fq[3]? = some fq[3] := List.getElem?_eq_getElem (by omega)
    obtain ⟨aS, eS, hS⟩ := (q3 3 (2, 28, 0) _ rfl hv3 : rk_has G' X (2, 28, 0) _)
    rw [eS] at hv3
    refine rm_get (idx := 81) hC' hh1 (by decide +kernel) rfl hLq q1 hv3 ?_
    obtain ⟨hLS, hcS⟩ := hT1.1 aS 28 hS (by decide)
    obtain ⟨cA, C, g, f1, f2, f3⟩ := (hcS : ∃ (cA : ClassId) (C : String) (g : Nat → Option Nat), u aS = .inl (cA, 8, .inr (.inr (.inr (.inr g)))) ∧ (rk_tys cI c1 c2 c3 c4 c5)[4]? = some (cA, .object C) ∧ ∀ i, i < 8 → rk_has G' X (rk_E ad 28 i) (va_rf (g i)))
    obtain ⟨xn, hxn⟩ : ∃ n : Nat, x.toInt = (n : Int) := ⟨_, (Int.toNat_of_nonneg hx.1).symm⟩
    refine rv_run hC'.1 hC'.2.1 (T := rv_t_X11_lasts) rv_k_X11_lasts 1 ?_
    refine rc_aald hC' hh1 (by decide +kernel) hLS f1 f2 (by omega) (by omega) ?_
    rw [rm_clamp hxn]
    obtain ⟨aE, eE, hE⟩ := (f3 xn (by omega) : rk_has G' X (2, 1, 0) _)
    rw [eE]
    refine rc_astn (i := 3) (k := 3) hC' (by decide +kernel) rfl (by decide) rfl ?_
    have loop : ∀ (d : Nat) (k du : Int32) (kn : Nat) (f : Nat → va_E) (H : Heap) (locs : List Loc), rm_h D A st L' f H locs → f a0 = .inr (10, fs) → (∀ w, G' w = some 10 → w ≠ q → rk_fld (f w) 6 = rk_fld (f' w) 6) → rc_Lv G 77 f0 f → rm_TY cI c1 c2 c3 c4 c5 ad G' (X + 5690 * ((kn : Int) - 1)) L' f → k.toInt = (kn : Int) → 1 ≤ kn → kn + d = 401 → rv_G p l e { frames := rk_q_X11_lasts.2.2.2.2.1, cells := 358, slots := 10311, locals := rk_q_X11_lasts.2.2.2.2.2 } st m ([.ref a0, .int x, .int y] : List Value).toArray below meth c (MQ below (rk_Q (fun v u => ((∃ x : Int32, v = some (.int x)) ∧ rc_Lv G 77 f0 u ∧ rg_LA a0 G f0 u) ∧ rm_TY cI c1 c2 c3 c4 c5 ad G' (X + 2276000) L' u) (rk_B D (rk_tys cI c1 c2 c3 c4 c5) L' A) A) ([.ref a0, .int x, .int y] : List Value).toArray st 358 10311 A) rk_q_X11_lasts.2.2.1 358 10311 H locs 70 [] [(0, .ref a0), (1, .int x), (2, .int y), (3, .ref aE), (4, .int du), (5, .int k)] := by
      intro d
      induction d with
      | zero =>
        intro k du kn f H locs hh hf0 hK hLf hT hk hk1 hd
        refine rv_run hC'.1 hC'.2.1 (T := rv_t_X11_lasts) rv_k_X11_lasts 3 ?_
        refine ⟨fun _ => ?_, fun h => absurd h (by show ¬ k.toInt ≤ 400; omega)⟩
        refine rv_run hC'.1 hC'.2.1 (T := rv_t_X11_lasts) rv_k_X11_lasts 1 ?_
        exact rm_iret hC' hh (by decide +kernel) rfl ⟨⟨⟨_, rfl⟩, hLf, kx f hf0 hK⟩, rk_TY_X (by omega) hT⟩
      | succ d ih =>
        intro k du kn f H locs hh hf0 hK hLf hT hk hk1 hd
        refine rv_run hC'.1 hC'.2.1 (T := rv_t_X11_lasts) rv_k_X11_lasts 3 ?_
        refine ⟨fun h => absurd h (by show ¬ 400 < k.toInt; omega), fun _ => ?_⟩
        refine rv_run hC'.1 hC'.2.1 (T := rv_t_X11_lasts) rv_k_X11_lasts 80 ?_
        refine rm_get (idx := 208) hC' hh (by decide +kernel) rfl hL0 hf0 h3 ?_
        obtain ⟨hLq, fq, q1, q2, q3⟩ := rc_me hT hq rfl
        refine rm_callV (idx := 94) (z := 2) (n := 1) (ci := 9) (as := []) (rest := []) hC' hh (by decide +kernel) rfl hLq q1 (rc_step base l cI c1 c2 c3 c4 c5 D ad adV q) (by omega) (by show _ ≤ (2000000000 : Int); omega) hT hq rfl rfl (Nat.le_of_ble_eq_true rfl) ⟨by decide, by decide⟩ (fun v u H1 locs1 hP hh1 => ?_)
        obtain ⟨⟨rfl, hc1, hc2⟩, hT1, hLr⟩ := hP
        have hu0 : u a0 = f a0 := (rc_same hLr rfl rfl rfl hT1 hG hf0 e2).trans hf0.symm
        have hK1 : ∀ w, G' w = some 10 → w ≠ q → rk_fld (u w) 6 = rk_fld (f' w) 6 := fun w hw hwq => (hc2 w hw hwq).trans (hK w hw hwq)
        have hLu := rc_lv_tr (k := 77) hLf (rg_lvG hGG1 hLr) rfl rfl
        rw [hf0] at hu0
        obtain ⟨hLE, fE, w1, w2, w3⟩ := rc_me hT1 hE rfl
        have w2 : fE.length = 8 := w2
        have hv5 : fE[5]? = some fE[5] := List.getElem?_eq_getElem (by omega)
        obtain ⟨rv, er, -⟩ := (w3 5 (1, 0, 0) _ rfl hv5 : rk_has G' (X + 5690 * ((kn : Int) - 1) + 5690) (1, 0, 0) _)
        rw [er] at hv5
        refine rv_run hC'.1 hC'.2.1 (T := rv_t_X11_lasts) rv_k_X11_lasts 80 ?_
        refine rm_get (idx := 215) hC' hh1 (by decide +kernel) rfl hLE w1 hv5 ?_
        refine rv_run hC'.1 hC'.2.1 (T := rv_t_X11_lasts) rv_k_X11_lasts 2 ?_
        refine ⟨fun _ => ?_, fun _ => ?_⟩
        · have e7 := rm_ad (x := k) hk rm_e1 (by omega) (by decide)
          refine rv_run hC'.1 hC'.2.1 (T := rv_t_X11_lasts) rv_k_X11_lasts 2 ?_
          exact ih (k + Int32.ofInt 1) du (kn + 1) u H1 locs1 hh1 hu0 hK1 hLu (rk_TY_X (by omega) hT1) (by rw [e7]; omega) (by omega) (by omega)
        · refine rv_run hC'.1 hC'.2.1 (T := rv_t_X11_lasts) rv_k_X11_lasts 1 ?_
          exact rm_iret hC' hh1 (by decide +kernel) rfl ⟨⟨⟨_, rfl⟩, hLu, kx u hu0 hK1⟩, rk_TY_X (by omega) hT1⟩
    obtain ⟨hLE, fE, w1, w2, w3⟩ := rc_me hT1 hE rfl
    have w2 : fE.length = 8 := w2
    have hv5 : fE[5]? = some fE[5] := List.getElem?_eq_getElem (by omega)
    obtain ⟨rv, er, -⟩ := (w3 5 (1, 0, 0) _ rfl hv5 : rk_has G' X (1, 0, 0) _)
    rw [er] at hv5
    refine rv_run hC'.1 hC'.2.1 (T := rv_t_X11_lasts) rv_k_X11_lasts 80 ?_
    refine rm_get (idx := 215) hC' hh1 (by decide +kernel) rfl hLE w1 hv5 ?_
    refine rv_run hC'.1 hC'.2.1 (T := rv_t_X11_lasts) rv_k_X11_lasts 5 ?_
    exact loop 400 _ _ 1 u H1 locs1 hh1 hu0 hK hLu (rk_TY_X (by omega) hT1) rfl (by decide) rfl
  refine rv_run hC.1 hC.2.1 (T := rv_t_X11_lasts) rv_k_X11_lasts 80 ?_
  refine rc_callS (idx := 78) (z := 0) (n := 1) (as := [.int x]) (rest := []) hC hh (by decide +kernel) rfl (rm_of (c_X11_isEnd base l cI c1 c2 c3 c4 c5 D ad adV) [.int x]) hX0 (by rw [Int.add_zero]; exact hXC1) hT ⟨rk_all_c rk_aF rk_all_0, trivial⟩ rfl rfl (Nat.le_of_ble_eq_true rfl) ⟨by decide, by decide⟩ (fun v u H locs hP hh9 => ?_)
  obtain ⟨hA, -, hL1⟩ := hP
  have hu : f0 = u := Eq.symm (hL1 0 (by decide) rfl : rc_Rb 0 G f0 u)
  subst hu
  have hh := hh9
  clear hh9
  obtain ⟨w, rfl, hx⟩ := rk_alt_2 hA
  have hx : w.toInt = 0 ∨ (0 ≤ x.toInt ∧ x.toInt ≤ 7) := by
    rcases hx with ⟨-, h⟩ | h
    · obtain ⟨w9, e9, x9, e10, y1, y2⟩ := h _ List.mem_cons_self
      cases e9
      cases e10
      exact Or.inr ⟨y1, y2⟩
    · exact Or.inl h
  clear hA hL1
  have no : ∀ (pc : Nat) (lo : List (Nat × Value)), decode rk_q_X11_lasts.2.1 pc = .ok (.iconst (-1), 1) → decode rk_q_X11_lasts.2.1 (pc + 1) = .ok (.ireturn, 1) → rv_G p l e { frames := rk_q_X11_lasts.2.2.2.2.1, cells := 358, slots := 10311, locals := rk_q_X11_lasts.2.2.2.2.2 } st m ([.ref a0, .int x, .int y] : List Value).toArray below meth c (MQ below (fun _ st oc t => rg_P base cI c1 c2 c3 c4 c5 D ad G (X + 2276000) L A ((fun G f v _ u => (∃ x : Int32, v = some (.int x)) ∧ rc_Lv G 77 f u ∧ rg_LA a0 G f u) G f0) oc t ∧ va_F A st t) ([.ref a0, .int x, .int y] : List Value).toArray st 358 10311 A) rk_q_X11_lasts.2.2.1 0 0 H locs pc [] lo := by
    intro pc lo d1 d2
    refine rv_widen (k := 358) (n := 10311) (by decide) (by decide) ?_
    refine rg_fix ⟨fun _ _ h => h, fun _ h => h, fun _ h => h⟩ (fun _ h => h) hBL ?_
    intro ls hl
    refine lv_iconst hC.1 hC.2.1 d1 rfl ?_
    exact rm_iret hC hh d2 rfl ⟨⟨⟨_, rfl⟩, rc_lv_rf 77, Or.inl rfl, fun _ _ _ => rfl⟩, rk_TY_X (by omega) hT⟩ ls hl
  refine rv_run hC.1 hC.2.1 (T := rv_t_X11_lasts) rv_k_X11_lasts 1 ?_
  refine ⟨fun _ => no _ _ (by decide +kernel) (by decide +kernel), fun h => ?_⟩
  have hx := hx.resolve_left h
  refine rv_run hC.1 hC.2.1 (T := rv_t_X11_lasts) rv_k_X11_lasts 3 ?_
  refine ⟨fun _ => no _ _ (by decide +kernel) (by decide +kernel), fun _ => ?_⟩
  refine rv_run hC.1 hC.2.1 (T := rv_t_X11_lasts) rv_k_X11_lasts 3 ?_
  refine ⟨fun _ => ?_, fun _ => no _ _ (by decide +kernel) (by decide +kernel)⟩
  obtain ⟨hL0, fs, e1, e2, e3⟩ := ff G L f0 X hT hG
  have hv0 : fs[0]? = some fs[0] := List.getElem?_eq_getElem (by omega)
  obtain ⟨aW, eW, hW⟩ := (e3 0 (2, 10, 0) _ rfl hv0 : rk_has G X (2, 10, 0) _)
  rw [eW] at hv0
  have hv3 : fs[3]? = some fs[3] := List.getElem?_eq_getElem (by omega)
  have h3 := (e3 3 (3, 10, 0) _ rfl hv3 : fs[3] = .null ∨ ∃ q : Nat, fs[3] = .ref q ∧ G q = some 10)
  refine rv_run hC.1 hC.2.1 (T := rv_t_X11_lasts) rv_k_X11_lasts 80 ?_
  rcases h3 with h3 | ⟨q, h3, hq⟩
  · rw [h3] at hv3
    refine rm_get (idx := 208) hC hh (by decide +kernel) rfl hL0 e1 hv3 ?_
    refine rc_nnN (off := 14) hC (by decide +kernel) ?_
    refine rv_run hC.1 hC.2.1 (T := rv_t_X11_lasts) rv_k_X11_lasts 1 ?_
    refine rg_newW (i1 := 9) (i2 := 11) hC hAb hh hX0 hT (rk_tat_ok (i := 148) (by decide +kernel)) (rk_tat_ok (i := 150) (by decide +kernel)) ⟨by decide, by decide⟩ ⟨by decide, by decide⟩ (Nat.le_of_ble_eq_true rfl) (by decide +kernel) (by decide +kernel) (by decide +kernel) (fun G' L' f' q H1 locs1 hGG hLL hbb hff hqn hq hT' hh' => ?_)
    have hC' := rm_Cx_L hC hbb
    have hG' := hGG.1 _ _ hG
    have hU' : ∀ a, G' a = some 11 → a = a0 := fun a ha => hU a (hGG.2.1 a ha)
    have hL0' := hLL _ hL0
    have e1' : f' a0 = .inr (10, fs) := by rw [hff a0 hL0]; exact e1
    obtain ⟨-, fs', k1, k2, k3⟩ := ff G' L' f' X hT' hG'
    rw [e1'] at k1
    cases k1
    refine rg_fix hGG hLL hbb ?_
    refine rc_putr (idx := 208) (i := 3) hC' hh' (by decide +kernel) rfl hL0' e1' (by omega) (fun H2 locs2 hh2 => ?_)
    have hT2 := tyP G' L' f' fs 3 q hT' hG' e1' k2 k3 (Or.inr rfl) hq
    have hLp : rc_Lv G' 65 f' (va_up f' a0 (.inr (10, fs.set 3 (.ref q)))) := (rc_LvOk G').2.2.2 65 f' f' a0 11 _ 3 3 rfl hG' (Or.inl ⟨10, fs, 3, _, e1', rfl, Int.le_refl _, Int.le_refl _⟩) (rc_lv_rf 65)
    exact t38 G' L' _ H2 locs2 aW q (fs.set 3 (.ref q)) hbb hG' hU' hT2 hh2 (va_up_self _ _ _) (by rw [List.getElem?_set_ne (by decide)]; exact hv0) (hGG.1 _ _ hW) (List.getElem?_set_self (by omega)) hq hx (fun u h1 h2 => ⟨Or.inr ⟨by rw [e1]; exact hv3, q, by rw [h1]; exact List.getElem?_set_self (by omega), hqn⟩, fun w hw _ => by
      rw [h2 w (hGG.1 _ _ hw) (fun h9 => by rw [h9, hqn] at hw; cases hw), va_up_ne _ _ (fun h9 => by rw [h9, hG] at hw; cases hw), hff w (hT.1 w 10 hw (by decide)).1]⟩) (rc_lv_tr (k := 77) (rg_lvL (lv := 77) hT hff rfl) (rg_lvG hGG.1 hLp) rfl rfl) hGG.1
  · rw [h3] at hv3
    refine rm_get (idx := 208) hC hh (by decide +kernel) rfl hL0 e1 hv3 ?_
    refine rc_nn (off := 14) (tgt := 38) hC (by decide +kernel) rfl ?_
    refine rv_widen (k := 358) (n := 10311) (by decide) (by decide) ?_
    refine rg_fix ⟨fun _ _ h => h, fun _ h => h, fun _ h => h⟩ (fun _ h => h) hBL ?_
    exact t38 G L f0 _ _ aW q fs hBL hG hU hT hh e1 hv0 hW hv3 hq hx (fun u h1 h2 => ⟨Or.inl (by rw [h1, e1]), fun w hw hwq => h2 w hw (fun h9 => hwq (by rw [e1, h9]; exact hv3))⟩) (rc_lv_rf 77) (fun _ _ h => h)
end RMX
