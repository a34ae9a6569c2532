def rl_tm (i : Nat) : Term := .string RX9 (match i with
  | 0 => 47
  | 1 => 56
  | 2 => 73
  | 3 => 100
  | _ => 102)
theorem rl_NU {s : State} {b : Nat} (hts : ∀ w ∈ lw_tbl, w.before #[Value.ref b] s = true) (hgv : (Jvm.Cond.and given_1 narrow_1).before #[Value.ref b] s = true) (hAO : ∀ C ∈ [RX8, RX2, RX6, RX1, RX4], va_AO C s) : ∃ ad adV : Nat → Nat, rk_NU s.heap.size ad adV s := by
  have hs := flat_of_before _ hgv
  have hA : ∀ a : Nat, a < s.heap.size → ¬ s.heap.size ≤ a := fun a h => Nat.not_le.mpr h
  obtain ⟨ad, adV, hS, hev⟩ := vk_Sof (args := #[Value.ref b]) (s := s) (N := 5) (tm := rl_tm) (len := rk_len) (byt := rk_byt) (A := fun q => s.heap.size ≤ q) (by decide +kernel)
    (fun i hi => by rcases (by omega : i = 0 ∨ i = 1 ∨ i = 2 ∨ i = 3 ∨ i = 4) with rfl | rfl | rfl | rfl | rfl <;> exact hs _ (by decide +kernel))
    (fun i hi => by rcases (by omega : i = 0 ∨ i = 1 ∨ i = 2 ∨ i = 3 ∨ i = 4) with rfl | rfl | rfl | rfl | rfl <;> exact hs _ (by decide +kernel))
    (fun i hi => by rcases (by omega : i = 0 ∨ i = 1 ∨ i = 2 ∨ i = 3 ∨ i = 4) with rfl | rfl | rfl | rfl | rfl <;> exact hs _ (by decide +kernel))
    (fun i hi => by rcases (by omega : i = 0 ∨ i = 1 ∨ i = 2 ∨ i = 3 ∨ i = 4) with rfl | rfl | rfl | rfl | rfl <;> exact hs _ (by decide +kernel))
    (fun i hi j hj => by
      have h5 : j < 5 := Nat.lt_of_lt_of_le hj (by rcases (by omega : i = 0 ∨ i = 1 ∨ i = 2 ∨ i = 3 ∨ i = 4) with rfl | rfl | rfl | rfl | rfl <;> decide)
      rcases (by omega : i = 0 ∨ i = 1 ∨ i = 2 ∨ i = 3 ∨ i = 4) with rfl | rfl | rfl | rfl | rfl <;> rcases (by omega : j = 0 ∨ j = 1 ∨ j = 2 ∨ j = 3 ∨ j = 4) with rfl | rfl | rfl | rfl | rfl <;> first | exact absurd hj (by decide) | exact hs _ (by decide +kernel))
    (fun i j hi hj hne => by
      rcases (by omega : i = 0 ∨ i = 1 ∨ i = 2 ∨ i = 3 ∨ i = 4) with rfl | rfl | rfl | rfl | rfl <;> rcases (by omega : j = 0 ∨ j = 1 ∨ j = 2 ∨ j = 3 ∨ j = 4) with rfl | rfl | rfl | rfl | rfl <;> first | exact absurd rfl hne | exact Or.inl (hs _ (by decide +kernel)) | exact Or.inr (hs _ (by decide +kernel))) hA
  refine ⟨ad, adV, ⟨fun q hq => va_Nw.of rfl (hts _ (rs_nfW q hq)), fun q hq => va_Nw.of rfl (hts _ (rs_nmW q hq))⟩, ?_, hS, va_Zof (hts _ (List.mem_of_getElem? (i := 863) (by decide +kernel))) (hts _ (List.mem_of_getElem? (i := 134) (by decide +kernel))) (va_eqi (hs _ (by decide +kernel))) hA, va_Zqof (hts _ (List.mem_of_getElem? (i := 879) (by decide +kernel))) (hts _ (List.mem_of_getElem? (i := 136) (by decide +kernel))) (hs _ (by decide +kernel)) hA, hAO⟩
  exact List.forall_mem_cons.mpr ⟨vk_R.of (A := #[Value.ref b]) (hts _ (List.mem_of_getElem? (i := 842) (by decide +kernel))) (hev 0 (by decide)), List.forall_mem_cons.mpr ⟨vk_R.of (A := #[Value.ref b]) (hts _ (List.mem_of_getElem? (i := 910) (by decide +kernel))) (hev 2 (by decide)), List.forall_mem_cons.mpr ⟨vk_R.of (A := #[Value.ref b]) (hts _ (List.mem_of_getElem? (i := 929) (by decide +kernel))) (hev 1 (by decide)), List.forall_mem_cons.mpr ⟨vk_R.of (A := #[Value.ref b]) (hts _ (List.mem_of_getElem? (i := 935) (by decide +kernel))) (hev 3 (by decide)), List.forall_mem_cons.mpr ⟨vk_R.of (A := #[Value.ref b]) (hts _ (List.mem_of_getElem? (i := 936) (by decide +kernel))) (hev 4 (by decide)), List.forall_mem_cons.mpr ⟨vk_R.of (A := #[Value.ref b]) (hts _ (List.mem_of_getElem? (i := 1517) (by decide +kernel))) (va_eqR (t := .string RX9 47) (hs _ (by decide +kernel)) (hev 0 (by decide))), List.forall_mem_cons.mpr ⟨vk_R.of (A := #[Value.ref b]) (hts _ (List.mem_of_getElem? (i := 1536) (by decide +kernel))) (va_eqR (t := .string RX9 73) (hs _ (by decide +kernel)) (hev 2 (by decide))), List.forall_mem_cons.mpr ⟨vk_R.of (A := #[Value.ref b]) (hts _ (List.mem_of_getElem? (i := 1553) (by decide +kernel))) (va_eqR (t := .string RX9 56) (hs _ (by decide +kernel)) (hev 1 (by decide))), List.forall_mem_cons.mpr ⟨vk_R.of (A := #[Value.ref b]) (hts _ (List.mem_of_getElem? (i := 1558) (by decide +kernel))) (va_eqR (t := .string RX9 100) (hs _ (by decide +kernel)) (hev 3 (by decide))), List.forall_mem_cons.mpr ⟨vk_R.of (A := #[Value.ref b]) (hts _ (List.mem_of_getElem? (i := 1559) (by decide +kernel))) (va_eqR (t := .string RX9 102) (hs _ (by decide +kernel)) (hev 4 (by decide))), fun _ h => absurd h List.not_mem_nil⟩⟩⟩⟩⟩⟩⟩⟩⟩⟩
noncomputable def rl_G0 (ad : Nat → Nat) : Nat → Option Nat := fun a => @dite (Option Nat) (∃ j, j < 5 ∧ ad j = a) (Classical.propDecidable _) (fun h => some (1000 + Classical.choose h)) (fun _ => none)
theorem rl_TY0 {cI c1 c2 c3 c4 c5 : ClassId} {ad : Nat → Nat} {f : Nat → va_E} (hinj : ∀ i j : Nat, i < 5 → j < 5 → ad i = ad j → i = j) : rm_TY cI c1 c2 c3 c4 c5 ad (rl_G0 ad) 0 [] f := by
  refine ⟨fun a k ha hk => ?_, fun a k hk => ?_⟩
  · exfalso
    unfold rl_G0 at ha
    by_cases h : ∃ j, j < 5 ∧ ad j = a
    · rw [dif_pos h] at ha
      have h5 := (Classical.choose_spec h).1
      generalize Classical.choose h = j at ha h5
      cases ha
      apply hk
      have h9 : (Nat.ble 1000 (1000 + j) && Nat.ble (1000 + j) 1004) = true := by
        rw [Bool.and_eq_true, Nat.ble_eq, Nat.ble_eq]
        omega
      unfold rk_K
      rw [if_pos h9]
    · rw [dif_neg h] at ha
      cases ha
  · obtain ⟨h1, h2⟩ := rk_K_9 hk
    have hE : (rk_E ad k 0).2.1 = ((ad (k - 1000) : Nat) : Int) := by
      unfold rk_E
      rw [if_pos (by rw [Nat.ble_eq]; exact h1)]
    rw [hE]
    unfold rl_G0
    by_cases h : ∃ j, j < 5 ∧ ad j = a
    · rw [dif_pos h]
      have h5 := Classical.choose_spec h
      generalize Classical.choose h = j at h5
      refine ⟨fun h9 => ?_, fun h9 => ?_⟩
      · have h8 := Option.some.inj h9
        rw [show k - 1000 = j by omega, h5.2]
      · have h8 := hinj (k - 1000) j (by omega) h5.1 (by rw [h5.2]; omega)
        rw [show 1000 + j = k by omega]
    · rw [dif_neg h]
      refine ⟨fun h9 => (by cases h9), fun h9 => absurd ⟨k - 1000, by omega, by omega⟩ h⟩
theorem rl_G0_lt {ad : Nat → Nat} {a k : Nat} (h : rl_G0 ad a = some k) : 1000 ≤ k ∧ ∃ j, j < 5 ∧ ad j = a := by
  unfold rl_G0 at h
  by_cases h9 : ∃ j, j < 5 ∧ ad j = a
  · rw [dif_pos h9] at h
    have := Option.some.inj h
    exact ⟨by omega, h9⟩
  · rw [dif_neg h9] at h
    cases h
theorem ty_G_in {G0 : Nat → Option Nat} {kd ad : Nat → Nat} {nn a k : Nat} (h : ty_G G0 kd ad nn a = some k) : (∃ i, i < nn ∧ ad i = a ∧ kd i = k) ∨ G0 a = some k := by
  unfold ty_G at h
  by_cases h9 : ∃ i, i < nn ∧ ad i = a
  · rw [dif_pos h9] at h
    have h8 := Classical.choose_spec h9
    exact Or.inl ⟨_, h8.1, h8.2, Option.some.inj h⟩
  · rw [dif_neg h9] at h
    exact Or.inr h
noncomputable def ty_u (T : Lean.RArray Nat) (k : Nat) : Nat → Bool
  | 0 => true
  | n + 1 => !(Nat.beq (rt_g T (n + 1)) k) && ty_u T k n
theorem ty_u_ok {T : Lean.RArray Nat} {k : Nat} : ∀ n, ty_u T k n = true → ∀ i, i ≤ n → rt_g T i = k → i = 0
  | 0, _, i, hi, _ => by omega
  | n + 1, h, i, hi, he => by
    have h : (!(Nat.beq (rt_g T (n + 1)) k) && ty_u T k n) = true := h
    rw [Bool.and_eq_true] at h
    by_cases hin : i = n + 1
    · exfalso
      subst hin
      have h1 := h.1
      rw [he, Nat.beq_refl] at h1
      cases h1
    · exact ty_u_ok n h.2 i (by omega) he
theorem ty_uS : ty_u ty_kS 11 362 = true := by decide +kernel
theorem ty_uM : ∀ i, i < 6 → ∀ j, j < 6 → rt_g ty_kM i = rt_g ty_kM j → i = j := by decide +kernel
noncomputable def ty_z (T : Lean.RArray rs_V) : Nat → Bool
  | 0 => true
  | s + 1 => (decide (rt_g T (64 * s + 0) = (0, 0, 0)) && (decide (rt_g T (64 * s + 3) = (0, 0, 0)) && (decide (rt_g T (64 * s + 6) = (0, 0, 0)) && (decide (rt_g T (64 * s + 13) = (0, 0, 0)) && decide (rt_g T (64 * s + 20) = (0, 0, 0)))))) && ty_z T s
theorem ty_z_ok {T : Lean.RArray rs_V} : ∀ n, ty_z T n = true → ∀ s, s < n → rt_g T (64 * s + 0) = (0, 0, 0) ∧ rt_g T (64 * s + 3) = (0, 0, 0) ∧ rt_g T (64 * s + 6) = (0, 0, 0) ∧ rt_g T (64 * s + 13) = (0, 0, 0) ∧ rt_g T (64 * s + 20) = (0, 0, 0)
  | 0, _, s, hs => absurd hs (Nat.not_lt_zero _)
  | n + 1, h, s, hs => by
    have h : ((decide (rt_g T (64 * n + 0) = (0, 0, 0)) && (decide (rt_g T (64 * n + 3) = (0, 0, 0)) && (decide (rt_g T (64 * n + 6) = (0, 0, 0)) && (decide (rt_g T (64 * n + 13) = (0, 0, 0)) && decide (rt_g T (64 * n + 20) = (0, 0, 0)))))) && ty_z T n) = true := h
    simp only [Bool.and_eq_true, decide_eq_true_eq] at h
    by_cases hin : s = n
    · subst hin
      exact h.1
    · exact ty_z_ok n h.2 s (by omega)
noncomputable def ty_zz (kd : Nat → Nat) (hp : rs_H) : Nat → Bool
  | 0 => true
  | n + 1 => (!(rm_isN (kd n)) || ty_z (rt_g hp n).2.2 40) && ty_zz kd hp n
theorem ty_zz_ok {kd : Nat → Nat} {hp : rs_H} : ∀ n, ty_zz kd hp n = true → ∀ i, i < n → rm_isN (kd i) = true → ty_z (rt_g hp i).2.2 40 = true
  | 0, _, i, hi, _ => absurd hi (Nat.not_lt_zero _)
  | n + 1, h, i, hi, hk => by
    have h : ((!(rm_isN (kd n)) || ty_z (rt_g hp n).2.2 40) && ty_zz kd hp n) = true := h
    rw [Bool.and_eq_true] at h
    by_cases hin : i = n
    · subst hin
      have h1 := h.1
      rw [hk] at h1
      exact h1
    · exact ty_zz_ok n h.2 i (by omega) hk
noncomputable def ty_zM (hp : rs_H) : Bool := (Nat.beq (rt_g hp 0).1 11 && Nat.beq (rt_g hp 0).2.1 13) && (decide (rt_g (rt_g hp 0).2.2 4 = (0, 0, 0)) && decide (rt_g (rt_g hp 0).2.2 11 = (0, 0, 0)))
noncomputable def ty_krM : rs_KR := fun _ _ hp nn => Nat.beq nn 6 && ((ty_all (rt_g ty_kM) hp 6 && ty_zz (rt_g ty_kM) hp 6) && ty_zM hp)
noncomputable def ty_zS (hp : rs_H) : Bool := (Nat.beq (rt_g hp 359).1 8 && Nat.beq (rt_g hp 359).2.1 7) && (decide (rt_g (rt_g hp 359).2.2 1 = (0, 0, 0)) && ((Nat.beq (rt_g hp 0).1 10 && Nat.beq (rt_g hp 0).2.1 4) && decide (rt_g (rt_g hp 0).2.2 2 = (5, 0, 0))))
noncomputable def ty_krS : rs_KR := fun _ _ hp nn => Nat.beq nn 363 && (ty_all (rt_g ty_kS) hp 363 && ty_zS hp)
theorem ty_cSz : rs_kc0 0 [(4, 0, 0)] [] ty_hS 1 ty_krS = true := by decide +kernel
noncomputable def ty_uq (T : Lean.RArray Nat) (k j : Nat) : Nat → Bool
  | 0 => true
  | n + 1 => (!(Nat.beq (rt_g T n) k) || Nat.beq n j) && ty_uq T k j n
theorem ty_uq_ok {T : Lean.RArray Nat} {k j : Nat} : ∀ n, ty_uq T k j n = true → ∀ i, i < n → rt_g T i = k → i = j
  | 0, _, i, hi, _ => absurd hi (Nat.not_lt_zero _)
  | n + 1, h, i, hi, he => by
    have h : ((!(Nat.beq (rt_g T n) k) || Nat.beq n j) && ty_uq T k j n) = true := h
    rw [Bool.and_eq_true] at h
    by_cases hin : i = n
    · subst hin
      have h1 := h.1
      rw [he, Nat.beq_refl] at h1
      have h1 : Nat.beq i j = true := h1
      exact Nat.eq_of_beq_eq_true h1
    · exact ty_uq_ok n h.2 i (by omega) he
theorem ty_u9 : ty_uq ty_kS 9 359 363 = true := by decide +kernel
theorem ty_fld {tys : List (ClassId × FieldType)} {r : Nat → Int32} {sb nn : Nat} {ad : Nat → Nat} {o : rs_O} {e : va_E} (hr : rs_rel tys (rs_den r sb ad nn) o e) (h : o.1 < 16) {k : Nat} (hk : k < o.2.1) : ∃ x, rk_fld e k = some x ∧ rs_den r sb ad nn (rt_g o.2.2 k) x := by
  obtain ⟨r1, -, -⟩ := hr
  obtain ⟨vs, e1, e2, -, e4⟩ := r1 h
  obtain ⟨x, ex, hx⟩ := e4 k hk
  exact ⟨x, by rw [e1]; exact ex, hx⟩
theorem ty_cMz : rs_kc0 1 [(4, 0, 0)] [] ty_hM 1 ty_krM = true := by decide +kernel
section RLM
variable {cI c1 c2 c3 c4 c5 : ClassId} {ads : Nat → Nat} {ad : Nat → Nat} {L : List Nat} {f : Nat → va_E} {hp : rs_H}
theorem rl_zero {i : Nat} {cA : ClassId} {n : Nat} {g : Nat → Int32} (hr : rs_rel (rk_tys cI c1 c2 c3 c4 c5) (rs_den (fun _ => 0) 0 ad 6) (rt_g hp i) (.inl (cA, n, .inl g))) (hn : n = 6466) (hz : ty_z (rt_g hp i).2.2 40 = true) (h16 : (rt_g hp i).1 = 16) : rm_inv g := by
  obtain ⟨-, r2, -⟩ := hr
  obtain ⟨cA', g', e1, e2, e3, e4⟩ := r2 h16
  cases e1
  intro s hs
  obtain ⟨z0, z3, z6, z13, z20⟩ := ty_z_ok 40 hz s hs
  have key : ∀ w, w < 64 → rt_g (rt_g hp i).2.2 (64 * s + w) = (0, 0, 0) → rm_sc g s w = 0 := by
    intro w hw he
    have h9 := e4 (64 * s + w) (by omega)
    rw [he] at h9
    have h9 : Value.int (g (64 * s + w)) = .int (rs_i 0) := h9
    unfold rm_sc
    rw [Value.int.inj h9]
    rfl
  unfold rm_iS rm_R1 rm_R2
  rw [key 20 (by decide) z20, key 6 (by decide) z6, key 13 (by decide) z13, key 3 (by decide) z3, key 0 (by decide) z0]
  exact ⟨Or.inl ⟨rfl, by decide⟩, fun h => absurd h (by decide)⟩
theorem rl_model (hinj : ∀ i j : Nat, i < 5 → j < 5 → ads i = ads j → i = j) (hW : rs_Wd (rk_tys cI c1 c2 c3 c4 c5) (fun _ => 0) 0 hp 6 ad L f) (hall : ty_all (rt_g ty_kM) hp 6 = true) (hzz : ty_zz (rt_g ty_kM) hp 6 = true) (hnew : ∀ i, i < 6 → rl_G0 ads (ad i) = none) : rm_TY cI c1 c2 c3 c4 c5 ads (ty_G (rl_G0 ads) (rt_g ty_kM) ad 6) 0 ((List.range 6).map ad) f ∧ ty_G (rl_G0 ads) (rt_g ty_kM) ad 6 (ad 0) = some 12 ∧ rm_PI (ty_G (rl_G0 ads) (rt_g ty_kM) ad 6) f := by
  have hW2 : rs_Wd (rk_tys cI c1 c2 c3 c4 c5) (fun _ => 0) 0 hp 6 ad ((List.range 6).map ad) f := ⟨fun i hi => ⟨List.mem_map.mpr ⟨i, List.mem_range.mpr hi, rfl⟩, (hW.1 i hi).2⟩, hW.2⟩
  obtain ⟨g1, g2, g3⟩ := ty_grow (kd := rt_g ty_kM) (Int.le_refl 0) (rl_TY0 (f := f) hinj) hW2 hall hnew (fun a ha => absurd ha List.not_mem_nil) (fun a ha _ => absurd ha List.not_mem_nil)
  have k1 : ∀ k, k < 1000 → ∀ a, ty_G (rl_G0 ads) (rt_g ty_kM) ad 6 a = some k → ∃ i, i < 6 ∧ ad i = a ∧ rt_g ty_kM i = k := by
    intro k hk a ha
    rcases ty_G_in ha with h | h
    · exact h
    · have := (rl_G0_lt h).1
      omega
  have k2 : ∀ k, k < 1000 → ∀ a b, ty_G (rl_G0 ads) (rt_g ty_kM) ad 6 a = some k → ty_G (rl_G0 ads) (rt_g ty_kM) ad 6 b = some k → a = b := by
    intro k hk a b ha hb
    obtain ⟨i, hi, rfl, ei⟩ := k1 k hk a ha
    obtain ⟨j, hj, rfl, ej⟩ := k1 k hk b hb
    rw [ty_uM i hi j hj (by rw [ei, ej])]
  have h0 : ty_G (rl_G0 ads) (rt_g ty_kM) ad 6 (ad 0) = some 12 := by
    rw [g1 0 (by decide)]
    rfl
  refine ⟨g3, h0, ⟨k2 12 (by decide), k2 24 (by decide), k2 30 (by decide), k2 31 (by decide)⟩, fun a0 ha0 => ?_⟩
  obtain ⟨hL0, fs, aN, aA, aT, aH, aI, e1, e2, ⟨n1, n2⟩, ⟨m1, m2⟩, -, -, ⟨i1, i2⟩, -⟩ := rm_me g3 ha0
  have row : ∀ (a k i9 : Nat), k < 1000 → rm_isN k = true → fs[i9]? = some (.ref a) → ty_G (rl_G0 ads) (rt_g ty_kM) ad 6 a = some k → rk_K k = (1, 6466, 0, []) → rm_inv (rm_rw (ty_G (rl_G0 ads) (rt_g ty_kM) ad 6) f a0 i9 k) := by
    intro a k i9 hk hN h1 h2 hK
    obtain ⟨-, g, eg, -⟩ := rm_ro g3 h2 hK
    rw [rm_rw_of e1 h1 h2 eg]
    obtain ⟨i, hi, rfl, ei⟩ := k1 k hk a h2
    obtain ⟨t1, t2, t3⟩ := ty_all_ok 6 hall i hi
    have hrel := (hW.1 i hi).2 t2
    rw [eg] at hrel
    have h16 : (rt_g hp i).1 = 16 := by
      have h9 := t3 ads
      rw [ei, hK] at h9
      have h9 : (Nat.beq (rt_g hp i).1 16 && (Nat.beq (rt_g hp i).2.1 6466 && ty_r (rt_g ty_kM) (rk_E ads k) (rt_g hp i).2.2 6466)) = true := h9
      rw [Bool.and_eq_true, Nat.beq_eq] at h9
      exact h9.1
    exact rl_zero hrel rfl (ty_zz_ok 6 hzz i hi (by rw [ei]; exact hN)) h16
  exact ⟨row aN 24 1 (by decide) rfl n1 n2 rfl, row aA 30 2 (by decide) rfl m1 m2 rfl, row aI 31 12 (by decide) rfl i1 i2 rfl⟩
end RLM
theorem whole_start {p : Program} {e : Env} {s : State} {m : MethodId} {below : List Frame} {meth : Method} {c : Code} (l : Launch) (hflags : l.flags = flags0) {b L : Nat} {xs : Nat → Int32} (hL : L ≤ 3072) (C0 : lw_At p s m meth c b L xs) : W p l e room_1 s m #[Value.ref b] below meth c s.heap [] 0 0 (lw_Z below #[Value.ref b] s) (entryFrame m ([Value.ref b] : List Value).toArray 4) := by
  obtain ⟨hx, hb, hr, hml, hown, hts, hX, hbl, hlocks, hgv⟩ := id C0
  obtain ⟨D, hD⟩ := rs_classes hts
  obtain ⟨⟨cI, c1, c2, c3, c4, c5, hT⟩, hAO⟩ := rs_arrays hts
  obtain ⟨ad, adV, hNU⟩ := rl_NU hts hgv hAO
  have hsub : ∀ w ∈ rk_tbl, w.before #[Value.ref b] s = true := fun w h => hts w (List.mem_filter.mp h).1
  have hK : va_K D vwCl (rk_tys cI c1 c2 c3 c4 c5) s := ⟨hD, hT⟩
  have hC : rl_Cx cI c1 c2 c3 c4 c5 D ad adV p s m meth c b L xs := ⟨hx, hb, hml, hown, hsub, hK, hNU, hX, hbl, hL, hr, hlocks⟩
  have hinj := hNU.2.2.1.2
  have hstr : ∀ j, j < 5 → ad j < s.heap.size := fun j hj => by
    obtain ⟨-, -, -, -, hna⟩ := (hNU.2.2.1.1 j hj).1
    exact Nat.not_le.mp hna
  have hNr : ∀ (U : State) (locs : List Loc), va_S (rl_A s) s.heap U.heap locs → s.WarmedH U.vm → rs_NU U := fun U locs hS hW => by
    obtain ⟨n1, -, -, -, -, n6⟩ := rk_hNw s.heap.size ad adV s U (rl_A s) locs (fun q h => h) hS hW hNU
    exact ⟨n1, n6⟩
  have hl := lv_entry ([.ref b]) (n := 4) (Nat.le_of_ble_eq_true rfl)
  rw [lg_entry_eq]
  generalize (lg_sl ([.ref b]) ++ List.replicate (4 - (lg_sl ([.ref b])).length) Slot.unset).toArray = ls at hl ⊢
  have hl : lv_has ls 4 [(0, .ref b)] := hl
  have g0 : ∀ q, s.heap.size ≤ q → rl_G0 ad q = none := by
    intro q hq
    cases hg : rl_G0 ad q with
    | none => rfl
    | some k =>
      obtain ⟨-, j, hj, he⟩ := rl_G0_lt hg
      have := hstr j hj
      omega
  refine rn_new (T := TX11) (N := 4) (ci := 10) (C := RX11) (z := 0) (cap := (362, 11014)) (hM := (yX11_init, cX11_init, 1, none, 4, 84)) (kr := ty_krS) (i1 := 7) (i2 := 9) hx hb hml hown hsub (fun w hw => hw) ⟨cI, c1, c2, c3, c4, c5, rfl⟩ hK (fun q h => h) hNr (L := []) (f := fun _ => .inr (0, [])) (H := s.heap) (locs := []) (fun k q h => by simp [va_pl] at h) ⟨fun i j p q h => by simp [va_pl] at h, fun k q h => by simp [va_pl] at h⟩ va_S.rf rfl (by decide) (by decide) (by decide +kernel) (rk_tat_ok (i := 140) (by decide +kernel)) (rk_tat_ok (i := 141) (by decide +kernel)) (rk_tat_ok (i := 120) (by decide +kernel)) rfl rfl rfl (rk_tat_ok (i := 120) (by decide +kernel)) ⟨by decide, by decide, by decide +kernel⟩ (rk_tat_ok (i := 142) (by decide +kernel)) (rk_tat_ok (i := 144) (by decide +kernel)) (rk_tat_ok (i := 143) (by decide +kernel)) (by decide) (by decide) ty_cSz (by decide) hl.1 (Nat.le_of_ble_eq_true rfl) (by decide +kernel) (by decide +kernel) (by decide +kernel) ?_
  intro v en hp nn ad1 L1 f1 H1 locs1 hkr hnn hW1 hLL hnew1 hf1 hP1 hD1 hS1
  have hkr : (Nat.beq nn 363 && (ty_all (rt_g ty_kS) hp 363 && ty_zS hp)) = true := hkr
  rw [Bool.and_eq_true, Nat.beq_eq, Bool.and_eq_true] at hkr
  obtain ⟨rfl, hall1, hzS⟩ := hkr
  unfold ty_zS at hzS
  simp only [Bool.and_eq_true, decide_eq_true_eq, Nat.beq_eq] at hzS
  obtain ⟨⟨zs1, zs2⟩, zs3, ⟨zs4, zs5⟩, zs6⟩ := hzS
  obtain ⟨c1g, c2g, hTc⟩ := ty_grow (kd := rt_g ty_kS) (Int.le_refl 0) (rl_TY0 (f := f1) hinj) hW1 hall1 (fun i hi => g0 _ (va_D_A hD1 _ (hW1.1 i hi).1)) (fun a ha => absurd ha List.not_mem_nil) (fun a ha _ => absurd ha List.not_mem_nil)
  clear hkr
  have hux : ∀ a, ty_G (rl_G0 ad) (rt_g ty_kS) ad1 363 a = some 11 → a = ad1 0 := by
    intro a ha
    rcases ty_G_in ha with ⟨i, hi, rfl, ei⟩ | h
    · rw [ty_u_ok 362 ty_uS i (by omega) ei]
    · have := (rl_G0_lt h).1
      omega
  have hgx : ty_G (rl_G0 ad) (rt_g ty_kS) ad1 363 (ad1 0) = some 11 := by
    rw [c1g 0 (by decide)]
    rfl
  refine lv_astore_n hx hb (k := 1) (i := 1) (lv' := [(1, .ref (ad1 0)), (0, .ref b)]) (by decide +kernel) rfl hl (by decide) rfl ?_
  intro ls2 hl2
  refine rn_new (T := TX12) (N := 13) (ci := 11) (C := RX12) (z := 1) (cap := (5, 19802)) (hM := (yX12_init, cX12_init, 1, none, 1, 20)) (kr := ty_krM) (i1 := 10) (i2 := 12) hx hb hml hown hsub (fun w hw => hw) ⟨cI, c1, c2, c3, c4, c5, rfl⟩ hK (fun q h => h) hNr (L := L1) (f := f1) (H := H1) (locs := locs1) hP1 hD1 hS1 rfl (by decide) (by decide) (by decide +kernel) (rk_tat_ok (i := 1152) (by decide +kernel)) (rk_tat_ok (i := 1153) (by decide +kernel)) (rk_tat_ok (i := 132) (by decide +kernel)) rfl rfl rfl (rk_tat_ok (i := 132) (by decide +kernel)) ⟨by decide, by decide, by decide +kernel⟩ (rk_tat_ok (i := 1154) (by decide +kernel)) (rk_tat_ok (i := 1156) (by decide +kernel)) (rk_tat_ok (i := 1155) (by decide +kernel)) (by decide) (by decide) ty_cMz (by decide) hl2.1 (Nat.le_of_ble_eq_true rfl) (by decide +kernel) (by decide +kernel) (by decide +kernel) ?_
  intro v2 en2 hp2 nn2 ad2 L2 f2 H2 locs2 hkr2 hnn2 hW2 hLL2 hnew2 hf2 hP2 hD2 hS2
  have hkr2 : (Nat.beq nn2 6 && ((ty_all (rt_g ty_kM) hp2 6 && ty_zz (rt_g ty_kM) hp2 6) && ty_zM hp2)) = true := hkr2
  rw [Bool.and_eq_true, Nat.beq_eq, Bool.and_eq_true, Bool.and_eq_true] at hkr2
  obtain ⟨e6, ⟨hall2, hzz2⟩, hzM⟩ := hkr2
  subst e6
  unfold ty_zM at hzM
  simp only [Bool.and_eq_true, decide_eq_true_eq, Nat.beq_eq] at hzM
  obtain ⟨⟨zm1, zm2⟩, zm3, zm4⟩ := hzM
  have hA2 : ∀ i, i < 6 → s.heap.size ≤ ad2 i := fun i hi => va_D_A hD2 _ (hW2.1 i hi).1
  obtain ⟨hTm, hgm, hPI⟩ := rl_model hinj hW2 hall2 hzz2 (fun i hi => g0 _ (hA2 i hi))
  have hpl : va_pl L1 f2 = va_pl L1 f1 := List.map_congr_left (fun a ha => by rw [hf2 a ha])
  have hPc : va_P D vwCl (va_pl L1 f1) H2 := by
    rw [← hpl]
    exact va_P_sub hP2 hLL2
  have hsm : ∀ a ∈ (List.range 6).map ad2, ∃ i, i < 6 ∧ ad2 i = a := fun a ha => by
    obtain ⟨i, hi, e⟩ := List.mem_map.mp ha
    exact ⟨i, List.mem_range.mp hi, e⟩
  have hPm : va_P D vwCl (va_pl ((List.range 6).map ad2) f2) H2 := va_P_sub hP2 (fun a ha => by
    obtain ⟨i, hi, rfl⟩ := hsm a ha
    exact (hW2.1 i hi).1)
  have hnd : ((List.range 6).map ad2).Nodup := by
    refine List.pairwise_iff_getElem.mpr (fun i j hi hj hij he => ?_)
    rw [List.length_map, List.length_range] at hi hj
    rw [List.getElem_map, List.getElem_map, List.getElem_range, List.getElem_range] at he
    have := hW2.2.1 i j hi hj he
    omega
  have hSt : rl_S cI c1 c2 c3 c4 c5 D ad s (ad1 0) (ad2 0) (ty_G (rl_G0 ad) (rt_g ty_kM) ad2 6) ((List.range 6).map ad2) (2276000 * ((0 : Nat) : Int)) (2276000 * ((0 : Nat) : Int)) (ty_G (rl_G0 ad) (rt_g ty_kS) ad1 363) L1 f1 f2 H2 locs2 := by
    refine ⟨hPc, hD1, hPm, va_D_of hnd (fun a ha => ?_), hS2, fun a ha h9 => ?_, hTc, hTm, hgx, hux, hgm, hPI⟩
    · obtain ⟨i, hi, rfl⟩ := hsm a ha
      exact hA2 i hi
    · obtain ⟨i, hi, rfl⟩ := hsm a h9
      exact hnew2 i hi ha
  have hRR : rl_R (ad1 0) (ad2 0) (ty_G (rl_G0 ad) (rt_g ty_kS) ad1 363) f1 f2 := by
    have u9 : ∀ a, ty_G (rl_G0 ad) (rt_g ty_kS) ad1 363 a = some 9 → a = ad1 359 := by
      intro a ha
      rcases ty_G_in ha with ⟨i, hi, rfl, ei⟩ | h
      · rw [ty_uq_ok 363 ty_u9 i hi ei]
      · have := (rl_G0_lt h).1
        omega
    obtain ⟨x1, y1, d1⟩ := ty_fld ((hW1.1 359 (by decide)).2 (by rw [zs1]; decide)) (by rw [zs1]; decide) (k := 1) (by rw [zs2]; decide)
    obtain ⟨x2, y2, d2⟩ := ty_fld ((hW1.1 0 (by decide)).2 (by rw [zs4]; decide)) (by rw [zs4]; decide) (k := 2) (by rw [zs5]; decide)
    obtain ⟨x3, y3, d3⟩ := ty_fld ((hW2.1 0 (by decide)).2 (by rw [zm1]; decide)) (by rw [zm1]; decide) (k := 4) (by rw [zm2]; decide)
    obtain ⟨x4, y4, d4⟩ := ty_fld ((hW2.1 0 (by decide)).2 (by rw [zm1]; decide)) (by rw [zm1]; decide) (k := 11) (by rw [zm2]; decide)
    rw [zs3] at d1
    rw [zs6] at d2
    rw [zm3] at d3
    rw [zm4] at d4
    have d1 : x1 = .int (rs_i 0) := d1
    have d2 : x2 = .null := d2
    have d3 : x3 = .int (rs_i 0) := d3
    have d4 : x4 = .int (rs_i 0) := d4
    subst d1 d2 d3 d4
    have z1 : rm_fi f1 (ad1 359) 1 = 0 := rm_fi_of y1
    have z3 : rm_fi f2 (ad2 0) 4 = 0 := rm_fi_of y3
    have z4 : rm_fi f2 (ad2 0) 11 = 0 := rm_fi_of y4
    exact ⟨fun a b ha hb => (u9 a ha).trans (u9 b hb).symm, fun t ht => by rw [u9 t ht, z1, z3], ⟨fun _ => z4, fun _ => y2⟩⟩
  refine lv_astore_n hx hb (k := 2) (i := 2) (lv' := [(2, .ref (ad2 0)), (1, .ref (ad1 0)), (0, .ref b)]) (by decide +kernel) rfl hl2 (by decide) rfl ?_
  intro ls3 hl3
  refine lv_iconst hx hb (n := 0) (v := 0) (by decide +kernel) rfl ?_
  refine lv_istore_n hx hb (k := 3) (i := 3) (lv' := [(3, .int 0), (2, .ref (ad2 0)), (1, .ref (ad1 0)), (0, .ref b)]) (by decide +kernel) rfl hl3 (by decide) rfl ?_
  intro ls4 hl4
  have h9 := rl_loop (e := e) (l := l) (below := below) hC hL 512 0 0 _ L1 f1 f2 H2 locs2 hSt hRR rfl rfl ls4 (rk_lvs hl4 (fun q hq => by
    rcases List.mem_cons.mp hq with h | hq
    · subst h; exact List.mem_cons_of_mem _ (List.mem_cons_of_mem _ (List.mem_cons_of_mem _ List.mem_cons_self))
    rcases List.mem_cons.mp hq with h | hq
    · subst h; exact List.mem_cons_of_mem _ (List.mem_cons_of_mem _ List.mem_cons_self)
    rcases List.mem_cons.mp hq with h | hq
    · subst h; exact List.mem_cons_of_mem _ List.mem_cons_self
    rcases List.mem_cons.mp hq with h | hq
    · subst h; exact List.mem_cons_self
    · cases hq))
  exact W.widen (by decide) (by decide) h9
