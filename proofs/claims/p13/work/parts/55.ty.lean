/-! the things that constructors make, typed -/
theorem ty_has_G {G G' : Nat → Option Nat} (h : ∀ a k, G a = some k → G' a = some k) {X : Int} {t : rk_AV} {v : Value} (hv : rk_has G X t v) : rk_has G' X t v := by
  obtain ⟨n, a, b⟩ := t
  rcases n with _ | _ | _ | _ | n
  · exact hv
  · exact hv
  · obtain ⟨q, e, hq⟩ := (hv : ∃ q : Nat, v = .ref q ∧ G q = some a.toNat)
    exact (⟨q, e, h _ _ hq⟩ : ∃ q : Nat, v = .ref q ∧ G' q = some a.toNat)
  · rcases (hv : v = .null ∨ ∃ q : Nat, v = .ref q ∧ G q = some a.toNat) with hv | ⟨q, e, hq⟩
    · exact (Or.inl hv : v = .null ∨ ∃ q : Nat, v = .ref q ∧ G' q = some a.toNat)
    · exact (Or.inr ⟨q, e, h _ _ hq⟩ : v = .null ∨ ∃ q : Nat, v = .ref q ∧ G' q = some a.toNat)
  · exact hv
theorem ty_cell_G {K : Nat → rk_KD} {E : Nat → Nat → rk_AV} {tys : List (ClassId × FieldType)} {G G' : Nat → Option Nat} (h : ∀ a k, G a = some k → G' a = some k) {X : Int} {k : Nat} {e : va_E} (hc : rk_cell K E tys G X k e) : rk_cell K E tys G' X k e := by
  unfold rk_cell at hc ⊢
  generalize K k = kd at hc ⊢
  obtain ⟨n, ci, t0, ts⟩ := kd
  rcases n with _ | _ | n
  · obtain ⟨fs, h1, h2, h3⟩ := hc
    exact ⟨fs, h1, h2, fun i t v ht hv => ty_has_G h (h3 i t v ht hv)⟩
  · obtain ⟨cA, g, h1, h2, h3⟩ := hc
    exact ⟨cA, g, h1, h2, fun i hi => ty_has_G h (h3 i hi)⟩
  · obtain ⟨cA, C, g, h1, h2, h3⟩ := hc
    exact ⟨cA, C, g, h1, h2, fun i hi => ty_has_G h (h3 i hi)⟩
noncomputable def ty_v (kd : Nat → Nat) (t : rk_AV) (v : rs_V) : Bool := match t with
  | (0, a, b) => Nat.beq v.1 0 && (decide (a ≤ (rs_i v.2.1).toInt) && decide ((rs_i v.2.1).toInt ≤ b))
  | (1, a, _) => Nat.beq v.1 0 && (decide (0 ≤ (rs_i v.2.1).toInt) && decide ((rs_i v.2.1).toInt ≤ a))
  | (2, k, _) => Nat.beq v.1 4 && Nat.beq (kd v.2.1) k.toNat
  | (3, k, _) => Nat.beq v.1 5 || (Nat.beq v.1 4 && Nat.beq (kd v.2.1) k.toNat)
  | _ => false
section TYO
variable {r : Nat → Int32} {sb nn : Nat} {ad : Nat → Nat} {G : Nat → Option Nat} {X : Int} {kd : Nat → Nat} {tys : List (ClassId × FieldType)}
theorem ty_v_ok (hG : ∀ i, i < nn → G (ad i) = some (kd i)) (hX : 0 ≤ X) {t : rk_AV} {v : rs_V} {x : Value} (h : ty_v kd t v = true) (hd : rs_den r sb ad nn v x) : rk_has G X t x := by
  obtain ⟨n, a, b⟩ := t
  obtain ⟨w, p, q⟩ := v
  rcases n with _ | _ | _ | _ | n
  · have h : (Nat.beq w 0 && (decide (a ≤ (rs_i p).toInt) && decide ((rs_i p).toInt ≤ b))) = true := h
    simp only [Bool.and_eq_true, decide_eq_true_eq, Nat.beq_eq] at h
    obtain ⟨rfl, h1, h2⟩ := h
    have hd : x = .int (rs_i p) := hd
    exact (⟨_, hd, h1, h2⟩ : ∃ y : Int32, x = .int y ∧ a ≤ y.toInt ∧ y.toInt ≤ b)
  · have h : (Nat.beq w 0 && (decide (0 ≤ (rs_i p).toInt) && decide ((rs_i p).toInt ≤ a))) = true := h
    simp only [Bool.and_eq_true, decide_eq_true_eq, Nat.beq_eq] at h
    obtain ⟨rfl, h1, h2⟩ := h
    have hd : x = .int (rs_i p) := hd
    exact (⟨_, hd, h1, by omega⟩ : ∃ y : Int32, x = .int y ∧ 0 ≤ y.toInt ∧ y.toInt ≤ X + a)
  · have h : (Nat.beq w 4 && Nat.beq (kd p) a.toNat) = true := h
    simp only [Bool.and_eq_true, Nat.beq_eq] at h
    obtain ⟨rfl, h1⟩ := h
    have hd : p < nn ∧ x = .ref (ad p) := hd
    exact (⟨ad p, hd.2, by rw [hG p hd.1, h1]⟩ : ∃ q : Nat, x = .ref q ∧ G q = some a.toNat)
  · have h : (Nat.beq w 5 || (Nat.beq w 4 && Nat.beq (kd p) a.toNat)) = true := h
    simp only [Bool.or_eq_true, Bool.and_eq_true, Nat.beq_eq] at h
    rcases h with rfl | ⟨rfl, h1⟩
    · have hd : x = .null := hd
      exact (Or.inl hd : x = .null ∨ ∃ q : Nat, x = .ref q ∧ G q = some a.toNat)
    · have hd : p < nn ∧ x = .ref (ad p) := hd
      exact (Or.inr ⟨ad p, hd.2, by rw [hG p hd.1, h1]⟩ : x = .null ∨ ∃ q : Nat, x = .ref q ∧ G q = some a.toNat)
  · cases h
noncomputable def ty_l (kd : Nat → Nat) (T : Lean.RArray rs_V) : List rk_AV → Nat → Bool
  | [], _ => true
  | t :: ts, j => ty_v kd t (rt_g T j) && ty_l kd T ts (j + 1)
theorem ty_l_ok {T : Lean.RArray rs_V} : ∀ (ts : List rk_AV) (j : Nat), ty_l kd T ts j = true → ∀ (i : Nat) (t : rk_AV), ts[i]? = some t → ty_v kd t (rt_g T (j + i)) = true
  | [], _, _, i, t, h => by cases h
  | t0 :: ts, j, h, i, t, hi => by
    have h : (ty_v kd t0 (rt_g T j) && ty_l kd T ts (j + 1)) = true := h
    rw [Bool.and_eq_true] at h
    cases i with
    | zero =>
      cases hi
      exact h.1
    | succ i =>
      have h2 := ty_l_ok ts (j + 1) h.2 i t hi
      rw [show j + (i + 1) = j + 1 + i by omega]
      exact h2
noncomputable def ty_r (kd : Nat → Nat) (E : Nat → rk_AV) (T : Lean.RArray rs_V) : Nat → Bool
  | 0 => true
  | n + 1 => ty_v kd (E n) (rt_g T n) && ty_r kd E T n
theorem ty_r_ok {E : Nat → rk_AV} {T : Lean.RArray rs_V} : ∀ (n : Nat), ty_r kd E T n = true → ∀ i, i < n → ty_v kd (E i) (rt_g T i) = true
  | 0, _, i, hi => absurd hi (Nat.not_lt_zero _)
  | n + 1, h, i, hi => by
    have h : (ty_v kd (E n) (rt_g T n) && ty_r kd E T n) = true := h
    rw [Bool.and_eq_true] at h
    by_cases hin : i = n
    · subst hin
      exact h.1
    · exact ty_r_ok n h.2 i (by omega)
noncomputable def ty_d (kd : Nat → Nat) (E : Nat → rk_AV) (o : rs_O) (K : rk_KD) : Bool := match K with
  | (0, ci, _, ts) => Nat.beq o.1 ci && (Nat.blt o.1 16 && (Nat.beq o.2.1 ts.length && ty_l kd o.2.2 ts 0))
  | (1, n, _, _) => Nat.beq o.1 16 && (Nat.beq o.2.1 n && ty_r kd E o.2.2 n)
  | (2, n, t0, _) => Nat.beq o.1 (16 + t0) && (Nat.blt 0 t0 && (Nat.blt t0 16 && (Nat.beq o.2.1 n && ty_r kd E o.2.2 n)))
  | _ => false
theorem ty_d_ok (hG : ∀ i, i < nn → G (ad i) = some (kd i)) (hX : 0 ≤ X) {ads : Nat → Nat} {k : Nat} {o : rs_O} {e : va_E} (hr : rs_rel tys (rs_den r sb ad nn) o e) (h : ty_d kd (rk_E ads k) o (rk_K k) = true) : rk_cell rk_K (rk_E ads) tys G X k e := by
  unfold rk_cell
  generalize hK : rk_K k = K at h ⊢
  obtain ⟨n, ci, t0, ts⟩ := K
  obtain ⟨o1, o2, o3⟩ := o
  obtain ⟨r1, r2, r3⟩ := hr
  rcases n with _ | _ | _ | n
  · have h : (Nat.beq o1 ci && (Nat.blt o1 16 && (Nat.beq o2 ts.length && ty_l kd o3 ts 0))) = true := h
    simp only [Bool.and_eq_true, Nat.beq_eq, Nat.blt_eq] at h
    obtain ⟨rfl, h2, rfl, h4⟩ := h
    obtain ⟨vs, e1, e2, -, e4⟩ := r1 h2
    refine ⟨vs, e1, e2, fun i t v ht hv => ?_⟩
    obtain ⟨x, ex, hx⟩ := e4 i (List.getElem?_eq_some_iff.mp ht).1
    have ex : vs[i]? = some x := ex
    rw [hv] at ex
    cases ex
    have h5 := ty_l_ok ts 0 h4 i t ht
    rw [Nat.zero_add] at h5
    exact ty_v_ok hG hX h5 hx
  · have h : (Nat.beq o1 16 && (Nat.beq o2 ci && ty_r kd (rk_E ads k) o3 ci)) = true := h
    simp only [Bool.and_eq_true, Nat.beq_eq] at h
    obtain ⟨rfl, rfl, h4⟩ := h
    obtain ⟨cA, g, e1, e2, -, e4⟩ := r2 rfl
    exact ⟨cA, g, e1, e2, fun i hi => ty_v_ok hG hX (ty_r_ok _ h4 i hi) (e4 i hi)⟩
  · have h : (Nat.beq o1 (16 + t0) && (Nat.blt 0 t0 && (Nat.blt t0 16 && (Nat.beq o2 ci && ty_r kd (rk_E ads k) o3 ci)))) = true := h
    simp only [Bool.and_eq_true, Nat.beq_eq, Nat.blt_eq] at h
    obtain ⟨rfl, h1, h2, rfl, h4⟩ := h
    obtain ⟨cA, C, g, e1, e2, -, e4⟩ := r3 (by show 17 ≤ 16 + t0; omega) (by show 16 + t0 ≤ 31; omega)
    have e2 : tys[t0]? = some (cA, .object C) := by
      rw [← e2]
      show tys[t0]? = tys[16 + t0 - 16]?
      rw [Nat.add_sub_cancel_left]
    exact ⟨cA, C, g, e1, e2, fun i hi => ty_v_ok hG hX (ty_r_ok _ h4 i hi) (e4 i hi)⟩
  · cases h
noncomputable def ty_all (kd : Nat → Nat) (hp : rs_H) : Nat → Bool
  | 0 => true
  | n + 1 => (Nat.blt (kd n) 1000 && (Nat.blt (rt_g hp n).1 32 && ty_d kd (rk_E (fun _ => 0) (kd n)) (rt_g hp n) (rk_K (kd n)))) && ty_all kd hp n
theorem rk_E_lt {ads ads' : Nat → Nat} {k : Nat} (hk : k < 1000) : rk_E ads k = rk_E ads' k := by
  funext j
  have h9 : ¬ Nat.ble 1000 k = true := by
    rw [Nat.ble_eq]
    omega
  unfold rk_E
  rw [if_neg h9, if_neg h9]
theorem ty_all_ok {hp : rs_H} : ∀ (n : Nat), ty_all kd hp n = true → ∀ i, i < n → kd i < 1000 ∧ (rt_g hp i).1 < 32 ∧ ∀ ads : Nat → Nat, ty_d kd (rk_E ads (kd i)) (rt_g hp i) (rk_K (kd i)) = true
  | 0, _, i, hi => absurd hi (Nat.not_lt_zero _)
  | n + 1, h, i, hi => by
    have h : ((Nat.blt (kd n) 1000 && (Nat.blt (rt_g hp n).1 32 && ty_d kd (rk_E (fun _ => 0) (kd n)) (rt_g hp n) (rk_K (kd n)))) && ty_all kd hp n) = true := h
    simp only [Bool.and_eq_true, Nat.blt_eq] at h
    obtain ⟨⟨h1, h2, h3⟩, h4⟩ := h
    by_cases hin : i = n
    · subst hin
      exact ⟨h1, h2, fun ads => by rw [rk_E_lt (ads' := fun _ => 0) h1]; exact h3⟩
    · exact ty_all_ok n h4 i (by omega)
theorem rk_K_9 {k : Nat} (h : (rk_K k).1 = 9) : 1000 ≤ k ∧ k ≤ 1004 := by
  by_cases hk : (Nat.ble 1000 k && Nat.ble k 1004) = true
  · rw [Bool.and_eq_true, Nat.ble_eq, Nat.ble_eq] at hk
    exact hk
  · unfold rk_K at h
    rw [if_neg hk] at h
    exfalso
    by_cases h34 : k < 34
    · have : ∀ k, k < 34 → (rk_kt.getD k (8, 0, 0, [])).1 ≠ 9 := by decide +kernel
      exact this k h34 h
    · have e : rk_kt[k]? = none := List.getElem?_eq_none (by
        have : rk_kt.length = 34 := by decide +kernel
        omega)
      rw [List.getD_eq_getElem?_getD, e] at h
      cases h
/-- the kinds, with those of new things -/
noncomputable def ty_G (G0 : Nat → Option Nat) (kd ad : Nat → Nat) (nn : Nat) : Nat → Option Nat := fun a => @dite (Option Nat) (∃ i, i < nn ∧ ad i = a) (Classical.propDecidable _) (fun h => some (kd (Classical.choose h))) (fun _ => G0 a)
theorem ty_G_ad {G0 : Nat → Option Nat} (hinj : ∀ i j, i < nn → j < nn → ad i = ad j → i = j) {i : Nat} (hi : i < nn) : ty_G G0 kd ad nn (ad i) = some (kd i) := by
  have h : ∃ j, j < nn ∧ ad j = ad i := ⟨i, hi, rfl⟩
  unfold ty_G
  rw [dif_pos h]
  have h2 := Classical.choose_spec h
  rw [hinj _ _ h2.1 hi h2.2]
theorem ty_G_ne {G0 : Nat → Option Nat} {a : Nat} (h : ¬ ∃ i, i < nn ∧ ad i = a) : ty_G G0 kd ad nn a = G0 a := by
  unfold ty_G
  rw [dif_neg h]
/-- a typed world, with new things that are typed -/
theorem ty_grow {G0 : Nat → Option Nat} {ads : Nat → Nat} {L0 L : List Nat} {f0 f : Nat → va_E} {hp : rs_H} (hX : 0 ≤ X) (hT0 : rk_TY rk_K (rk_E ads) tys G0 X L0 f0) (hW : rs_Wd tys r sb hp nn ad L f) (hty : ty_all kd hp nn = true) (hnew : ∀ i, i < nn → G0 (ad i) = none) (hL : ∀ a ∈ L0, a ∈ L) (hf : ∀ a ∈ L0, (∀ i, i < nn → ad i ≠ a) → f a = f0 a) :
    (∀ i, i < nn → ty_G G0 kd ad nn (ad i) = some (kd i)) ∧ (∀ a k, G0 a = some k → ty_G G0 kd ad nn a = some k) ∧ rk_TY rk_K (rk_E ads) tys (ty_G G0 kd ad nn) X L f := by
  obtain ⟨w1, w2, w3⟩ := hW
  have g1 : ∀ i, i < nn → ty_G G0 kd ad nn (ad i) = some (kd i) := fun i hi => ty_G_ad w2 hi
  have g2 : ∀ a k, G0 a = some k → ty_G G0 kd ad nn a = some k := by
    intro a k ha
    rw [ty_G_ne (fun ⟨i, hi, he⟩ => by
      have := hnew i hi
      rw [he, ha] at this
      cases this)]
    exact ha
  refine ⟨g1, g2, ⟨fun a k ha hk => ?_, fun a k hk => ?_⟩⟩
  · by_cases h : ∃ i, i < nn ∧ ad i = a
    · obtain ⟨i, hi, rfl⟩ := h
      rw [g1 i hi] at ha
      cases ha
      obtain ⟨t1, t2, t3⟩ := ty_all_ok nn hty i hi
      exact ⟨(w1 i hi).1, ty_d_ok g1 hX ((w1 i hi).2 t2) (t3 ads)⟩
    · rw [ty_G_ne h] at ha
      obtain ⟨q1, q2⟩ := hT0.1 a k ha hk
      refine ⟨hL a q1, ?_⟩
      rw [hf a q1 (fun i hi he => h ⟨i, hi, he⟩)]
      exact ty_cell_G g2 q2
  · have h1000 := (rk_K_9 hk).1
    by_cases h : ∃ i, i < nn ∧ ad i = a
    · obtain ⟨i, hi, rfl⟩ := h
      rw [g1 i hi]
      have t1 := (ty_all_ok nn hty i hi).1
      refine ⟨fun he => ?_, fun he => ?_⟩
      · cases he
        omega
      · have := (hT0.2 (ad i) k hk).mpr he
        rw [hnew i hi] at this
        cases this
    · rw [ty_G_ne h]
      exact hT0.2 a k hk
end TYO
/-- the end of a constructor: so many things, all typed -/
noncomputable def ty_kr (N : Nat) (kdl : Lean.RArray Nat) : rs_KR := fun _ _ hp nn => Nat.beq nn N && ty_all (rt_g kdl) hp N
noncomputable def rs_kc0 : rs_KC := fun q as en hp nn kr => rs_run rs_ct 1000000 q kr 0 [] as en (hp, nn, 0, 0)
def ty_kW : Lean.RArray Nat := (.branch 0 (.branch 0 (.branch 0 (.branch 0 (.branch 0 (.branch 0 (.branch 0 (.branch 0 (.branch 0 (.leaf 10) (.leaf 15)) (.branch 0 (.leaf 6) (.leaf 0))) (.branch 0 (.branch 0 (.leaf 8) (.leaf 1)) (.branch 0 (.leaf 2) (.leaf 0)))) (.branch 0 (.branch 0 (.branch 0 (.leaf 6) (.leaf 15)) (.branch 0 (.leaf 2) (.leaf 0))) (.branch 0 (.branch 0 (.leaf 14) (.leaf 4)) (.branch 0 (.leaf 15) (.leaf 0))))) (.branch 0 (.branch 0 (.branch 0 (.branch 0 (.leaf 8) (.leaf 4)) (.branch 0 (.leaf 2) (.leaf 0))) (.branch 0 (.branch 0 (.leaf 6) (.leaf 15)) (.branch 0 (.leaf 18) (.leaf 0)))) (.branch 0 (.branch 0 (.branch 0 (.leaf 14) (.leaf 0)) (.branch 0 (.leaf 2) (.leaf 0))) (.branch 0 (.branch 0 (.leaf 8) (.leaf 0)) (.branch 0 (.leaf 4) (.leaf 0)))))) (.branch 0 (.branch 0 (.branch 0 (.branch 0 (.branch 0 (.leaf 16) (.leaf 7)) (.branch 0 (.leaf 2) (.leaf 0))) (.branch 0 (.branch 0 (.leaf 14) (.leaf 15)) (.branch 0 (.leaf 5) (.leaf 0)))) (.branch 0 (.branch 0 (.branch 0 (.leaf 8) (.leaf 15)) (.branch 0 (.leaf 2) (.leaf 0))) (.branch 0 (.branch 0 (.leaf 6) (.leaf 0)) (.branch 0 (.leaf 4) (.leaf 0))))) (.branch 0 (.branch 0 (.branch 0 (.branch 0 (.leaf 14) (.leaf 4)) (.branch 0 (.leaf 2) (.leaf 0))) (.branch 0 (.branch 0 (.leaf 8) (.leaf 4)) (.branch 0 (.leaf 15) (.leaf 0)))) (.branch 0 (.branch 0 (.branch 0 (.leaf 6) (.leaf 4)) (.branch 0 (.leaf 2) (.leaf 0))) (.branch 0 (.branch 0 (.leaf 14) (.leaf 0)) (.branch 0 (.leaf 29) (.leaf 0))))))) (.branch 0 (.branch 0 (.branch 0 (.branch 0 (.branch 0 (.branch 0 (.leaf 28) (.leaf 15)) (.branch 0 (.leaf 2) (.leaf 0))) (.branch 0 (.branch 0 (.leaf 6) (.leaf 29)) (.branch 0 (.leaf 0) (.leaf 0)))) (.branch 0 (.branch 0 (.branch 0 (.leaf 14) (.leaf 15)) (.branch 0 (.leaf 2) (.leaf 0))) (.branch 0 (.branch 0 (.leaf 8) (.leaf 4)) (.branch 0 (.leaf 0) (.leaf 0))))) (.branch 0 (.branch 0 (.branch 0 (.branch 0 (.leaf 6) (.leaf 4)) (.branch 0 (.leaf 2) (.leaf 0))) (.branch 0 (.branch 0 (.leaf 14) (.leaf 7)) (.branch 0 (.leaf 15) (.leaf 0)))) (.branch 0 (.branch 0 (.branch 0 (.leaf 8) (.leaf 4)) (.branch 0 (.leaf 2) (.leaf 0))) (.branch 0 (.branch 0 (.leaf 6) (.leaf 0)) (.branch 0 (.leaf 1) (.leaf 0)))))) (.branch 0 (.branch 0 (.branch 0 (.branch 0 (.branch 0 (.leaf 14) (.leaf 4)) (.branch 0 (.leaf 2) (.leaf 0))) (.branch 0 (.branch 0 (.leaf 8) (.leaf 15)) (.branch 0 (.leaf 17) (.leaf 0)))) (.branch 0 (.branch 0 (.branch 0 (.leaf 6) (.leaf 15)) (.branch 0 (.leaf 2) (.leaf 0))) (.branch 0 (.branch 0 (.leaf 14) (.leaf 0)) (.branch 0 (.leaf 4) (.leaf 0))))) (.branch 0 (.branch 0 (.branch 0 (.branch 0 (.leaf 8) (.leaf 18)) (.branch 0 (.leaf 2) (.leaf 0))) (.branch 0 (.branch 0 (.leaf 6) (.leaf 4)) (.branch 0 (.leaf 15) (.leaf 0)))) (.branch 0 (.branch 0 (.branch 0 (.leaf 14) (.leaf 4)) (.branch 0 (.leaf 2) (.leaf 0))) (.branch 0 (.branch 0 (.leaf 8) (.leaf 0)) (.branch 0 (.leaf 15) (.leaf 0)))))))) (.branch 0 (.branch 0 (.branch 0 (.branch 0 (.branch 0 (.branch 0 (.branch 0 (.leaf 26) (.leaf 15)) (.branch 0 (.leaf 2) (.leaf 0))) (.branch 0 (.branch 0 (.leaf 14) (.leaf 18)) (.branch 0 (.leaf 5) (.leaf 0)))) (.branch 0 (.branch 0 (.branch 0 (.leaf 8) (.leaf 15)) (.branch 0 (.leaf 2) (.leaf 0))) (.branch 0 (.branch 0 (.leaf 6) (.leaf 4)) (.branch 0 (.leaf 7) (.leaf 0))))) (.branch 0 (.branch 0 (.branch 0 (.branch 0 (.leaf 14) (.leaf 4)) (.branch 0 (.leaf 2) (.leaf 0))) (.branch 0 (.branch 0 (.leaf 8) (.leaf 15)) (.branch 0 (.leaf 29) (.leaf 0)))) (.branch 0 (.branch 0 (.branch 0 (.leaf 6) (.leaf 4)) (.branch 0 (.leaf 2) (.leaf 0))) (.branch 0 (.branch 0 (.leaf 14) (.leaf 0)) (.branch 0 (.leaf 4) (.leaf 0)))))) (.branch 0 (.branch 0 (.branch 0 (.branch 0 (.branch 0 (.leaf 8) (.leaf 0)) (.branch 0 (.leaf 2) (.leaf 0))) (.branch 0 (.branch 0 (.leaf 6) (.leaf 15)) (.branch 0 (.leaf 0) (.leaf 0)))) (.branch 0 (.branch 0 (.branch 0 (.leaf 14) (.leaf 15)) (.branch 0 (.leaf 2) (.leaf 0))) (.branch 0 (.branch 0 (.leaf 8) (.leaf 0)) (.branch 0 (.leaf 4) (.leaf 0))))) (.branch 0 (.branch 0 (.branch 0 (.branch 0 (.leaf 6) (.leaf 1)) (.branch 0 (.leaf 2) (.leaf 0))) (.branch 0 (.branch 0 (.leaf 14) (.leaf 4)) (.branch 0 (.leaf 15) (.leaf 0)))) (.branch 0 (.branch 0 (.branch 0 (.leaf 8) (.leaf 4)) (.branch 0 (.leaf 2) (.leaf 0))) (.branch 0 (.branch 0 (.leaf 6) (.leaf 0)) (.branch 0 (.leaf 15) (.leaf 0))))))) (.branch 0 (.branch 0 (.branch 0 (.branch 0 (.branch 0 (.branch 0 (.leaf 16) (.leaf 15)) (.branch 0 (.leaf 2) (.leaf 0))) (.branch 0 (.branch 0 (.leaf 8) (.leaf 15)) (.branch 0 (.leaf 17) (.leaf 0)))) (.branch 0 (.branch 0 (.branch 0 (.leaf 6) (.leaf 15)) (.branch 0 (.leaf 2) (.leaf 0))) (.branch 0 (.branch 0 (.leaf 14) (.leaf 0)) (.branch 0 (.leaf 4) (.leaf 0))))) (.branch 0 (.branch 0 (.branch 0 (.branch 0 (.leaf 8) (.leaf 4)) (.branch 0 (.leaf 2) (.leaf 0))) (.branch 0 (.branch 0 (.leaf 6) (.leaf 0)) (.branch 0 (.leaf 15) (.leaf 0)))) (.branch 0 (.branch 0 (.branch 0 (.leaf 14) (.leaf 4)) (.branch 0 (.leaf 2) (.leaf 0))) (.branch 0 (.branch 0 (.leaf 8) (.leaf 0)) (.branch 0 (.leaf 18) (.leaf 0)))))) (.branch 0 (.branch 0 (.branch 0 (.branch 0 (.branch 0 (.leaf 6) (.leaf 4)) (.branch 0 (.leaf 2) (.leaf 0))) (.branch 0 (.branch 0 (.leaf 14) (.leaf 15)) (.branch 0 (.leaf 1) (.leaf 0)))) (.branch 0 (.branch 0 (.branch 0 (.leaf 8) (.leaf 7)) (.branch 0 (.leaf 2) (.leaf 0))) (.branch 0 (.branch 0 (.leaf 6) (.leaf 0)) (.branch 0 (.leaf 4) (.leaf 0))))) (.branch 0 (.branch 0 (.branch 0 (.branch 0 (.leaf 14) (.leaf 29)) (.branch 0 (.leaf 2) (.leaf 0))) (.branch 0 (.branch 0 (.leaf 8) (.leaf 4)) (.branch 0 (.leaf 15) (.leaf 0)))) (.branch 0 (.branch 0 (.branch 0 (.leaf 6) (.leaf 4)) (.branch 0 (.leaf 2) (.leaf 0))) (.branch 0 (.branch 0 (.leaf 14) (.leaf 0)) (.branch 0 (.leaf 15) (.leaf 0))))))))) (.branch 0 (.branch 0 (.branch 0 (.branch 0 (.branch 0 (.branch 0 (.branch 0 (.branch 0 (.leaf 25) (.leaf 4)) (.branch 0 (.leaf 14) (.leaf 0))) (.branch 0 (.branch 0 (.leaf 6) (.leaf 7)) (.branch 0 (.leaf 13) (.leaf 0)))) (.branch 0 (.branch 0 (.branch 0 (.leaf 14) (.leaf 4)) (.branch 0 (.leaf 13) (.leaf 0))) (.branch 0 (.branch 0 (.leaf 8) (.leaf 15)) (.branch 0 (.leaf 1) (.leaf 0))))) (.branch 0 (.branch 0 (.branch 0 (.branch 0 (.leaf 6) (.leaf 15)) (.branch 0 (.leaf 13) (.leaf 0))) (.branch 0 (.branch 0 (.leaf 14) (.leaf 4)) (.branch 0 (.leaf 0) (.leaf 0)))) (.branch 0 (.branch 0 (.branch 0 (.leaf 8) (.leaf 29)) (.branch 0 (.leaf 13) (.leaf 0))) (.branch 0 (.branch 0 (.leaf 6) (.leaf 0)) (.branch 0 (.leaf 15) (.leaf 0)))))) (.branch 0 (.branch 0 (.branch 0 (.branch 0 (.branch 0 (.leaf 21) (.leaf 18)) (.branch 0 (.leaf 13) (.leaf 0))) (.branch 0 (.branch 0 (.leaf 8) (.leaf 4)) (.branch 0 (.leaf 17) (.leaf 0)))) (.branch 0 (.branch 0 (.branch 0 (.leaf 6) (.leaf 4)) (.branch 0 (.leaf 13) (.leaf 0))) (.branch 0 (.branch 0 (.leaf 14) (.leaf 0)) (.branch 0 (.leaf 15) (.leaf 0))))) (.branch 0 (.branch 0 (.branch 0 (.branch 0 (.leaf 8) (.leaf 15)) (.branch 0 (.leaf 13) (.leaf 0))) (.branch 0 (.branch 0 (.leaf 6) (.leaf 15)) (.branch 0 (.leaf 4) (.leaf 0)))) (.branch 0 (.branch 0 (.branch 0 (.leaf 14) (.leaf 15)) (.branch 0 (.leaf 13) (.leaf 0))) (.branch 0 (.branch 0 (.leaf 8) (.leaf 0)) (.branch 0 (.leaf 4) (.leaf 0))))))) (.branch 0 (.branch 0 (.branch 0 (.branch 0 (.branch 0 (.branch 0 (.leaf 3) (.leaf 4)) (.branch 0 (.leaf 13) (.leaf 0))) (.branch 0 (.branch 0 (.leaf 14) (.leaf 4)) (.branch 0 (.leaf 5) (.leaf 0)))) (.branch 0 (.branch 0 (.branch 0 (.leaf 8) (.leaf 4)) (.branch 0 (.leaf 13) (.leaf 0))) (.branch 0 (.branch 0 (.leaf 6) (.leaf 15)) (.branch 0 (.leaf 29) (.leaf 0))))) (.branch 0 (.branch 0 (.branch 0 (.branch 0 (.leaf 14) (.leaf 15)) (.branch 0 (.leaf 13) (.leaf 0))) (.branch 0 (.branch 0 (.leaf 8) (.leaf 18)) (.branch 0 (.leaf 4) (.leaf 0)))) (.branch 0 (.branch 0 (.branch 0 (.leaf 6) (.leaf 15)) (.branch 0 (.leaf 13) (.leaf 0))) (.branch 0 (.branch 0 (.leaf 14) (.leaf 0)) (.branch 0 (.leaf 7) (.leaf 0)))))) (.branch 0 (.branch 0 (.branch 0 (.branch 0 (.branch 0 (.leaf 8) (.leaf 15)) (.branch 0 (.leaf 13) (.leaf 0))) (.branch 0 (.branch 0 (.leaf 6) (.leaf 4)) (.branch 0 (.leaf 0) (.leaf 0)))) (.branch 0 (.branch 0 (.branch 0 (.leaf 14) (.leaf 1)) (.branch 0 (.leaf 13) (.leaf 0))) (.branch 0 (.branch 0 (.leaf 8) (.leaf 0)) (.branch 0 (.leaf 15) (.leaf 0))))) (.branch 0 (.branch 0 (.branch 0 (.branch 0 (.leaf 6) (.leaf 0)) (.branch 0 (.leaf 13) (.leaf 0))) (.branch 0 (.branch 0 (.leaf 14) (.leaf 15)) (.branch 0 (.leaf 4) (.leaf 0)))) (.branch 0 (.branch 0 (.branch 0 (.leaf 8) (.leaf 15)) (.branch 0 (.leaf 13) (.leaf 0))) (.branch 0 (.branch 0 (.leaf 6) (.leaf 0)) (.branch 0 (.leaf 4) (.leaf 0)))))))) (.branch 0 (.branch 0 (.branch 0 (.branch 0 (.branch 0 (.branch 0 (.branch 0 (.leaf 27) (.leaf 4)) (.branch 0 (.leaf 13) (.leaf 0))) (.branch 0 (.branch 0 (.leaf 8) (.leaf 0)) (.branch 0 (.leaf 17) (.leaf 0)))) (.branch 0 (.branch 0 (.branch 0 (.leaf 6) (.leaf 4)) (.branch 0 (.leaf 13) (.leaf 0))) (.branch 0 (.branch 0 (.leaf 14) (.leaf 15)) (.branch 0 (.leaf 18) (.leaf 0))))) (.branch 0 (.branch 0 (.branch 0 (.branch 0 (.leaf 8) (.leaf 15)) (.branch 0 (.leaf 13) (.leaf 0))) (.branch 0 (.branch 0 (.leaf 6) (.leaf 1)) (.branch 0 (.leaf 4) (.leaf 0)))) (.branch 0 (.branch 0 (.branch 0 (.leaf 14) (.leaf 15)) (.branch 0 (.leaf 13) (.leaf 0))) (.branch 0 (.branch 0 (.leaf 8) (.leaf 0)) (.branch 0 (.leaf 15) (.leaf 0)))))) (.branch 0 (.branch 0 (.branch 0 (.branch 0 (.branch 0 (.leaf 6) (.leaf 29)) (.branch 0 (.leaf 13) (.leaf 0))) (.branch 0 (.branch 0 (.leaf 14) (.leaf 4)) (.branch 0 (.leaf 5) (.leaf 0)))) (.branch 0 (.branch 0 (.branch 0 (.leaf 8) (.leaf 4)) (.branch 0 (.leaf 13) (.leaf 0))) (.branch 0 (.branch 0 (.leaf 6) (.leaf 0)) (.branch 0 (.leaf 15) (.leaf 0))))) (.branch 0 (.branch 0 (.branch 0 (.branch 0 (.leaf 14) (.leaf 7)) (.branch 0 (.leaf 13) (.leaf 0))) (.branch 0 (.branch 0 (.leaf 8) (.leaf 15)) (.branch 0 (.leaf 4) (.leaf 0)))) (.branch 0 (.branch 0 (.branch 0 (.leaf 6) (.leaf 15)) (.branch 0 (.leaf 13) (.leaf 0))) (.branch 0 (.branch 0 (.leaf 14) (.leaf 0)) (.branch 0 (.leaf 4) (.leaf 0))))))) (.branch 0 (.branch 0 (.branch 0 (.branch 0 (.branch 0 (.branch 0 (.leaf 16) (.leaf 1)) (.branch 0 (.leaf 13) (.leaf 0))) (.branch 0 (.branch 0 (.leaf 6) (.leaf 4)) (.branch 0 (.leaf 0) (.leaf 0)))) (.branch 0 (.branch 0 (.branch 0 (.leaf 14) (.leaf 4)) (.branch 0 (.leaf 13) (.leaf 0))) (.branch 0 (.branch 0 (.leaf 8) (.leaf 0)) (.branch 0 (.leaf 15) (.leaf 0))))) (.branch 0 (.branch 0 (.branch 0 (.branch 0 (.leaf 6) (.leaf 15)) (.branch 0 (.leaf 13) (.leaf 0))) (.branch 0 (.branch 0 (.leaf 14) (.leaf 29)) (.branch 0 (.leaf 4) (.leaf 0)))) (.branch 0 (.branch 0 (.branch 0 (.leaf 8) (.leaf 15)) (.branch 0 (.leaf 13) (.leaf 0))) (.branch 0 (.branch 0 (.leaf 6) (.leaf 0)) (.branch 0 (.leaf 0) (.leaf 0)))))) (.branch 0 (.branch 0 (.branch 0 (.branch 0 (.branch 0 (.leaf 14) (.leaf 15)) (.branch 0 (.leaf 13) (.leaf 0))) (.branch 0 (.branch 0 (.leaf 8) (.leaf 4)) (.branch 0 (.leaf 7) (.leaf 0)))) (.branch 0 (.branch 0 (.branch 0 (.leaf 6) (.leaf 18)) (.branch 0 (.leaf 13) (.leaf 0))) (.branch 0 (.branch 0 (.leaf 14) (.leaf 0)) (.branch 0 (.leaf 15) (.leaf 0))))) (.branch 0 (.branch 0 (.branch 0 (.branch 0 (.leaf 8) (.leaf 4)) (.branch 0 (.leaf 13) (.leaf 0))) (.branch 0 (.branch 0 (.leaf 6) (.leaf 15)) (.branch 0 (.leaf 4) (.leaf 0)))) (.branch 0 (.branch 0 (.branch 0 (.leaf 14) (.leaf 15)) (.branch 0 (.leaf 13) (.leaf 0))) (.branch 0 (.branch 0 (.leaf 8) (.leaf 0)) (.branch 0 (.leaf 4) (.leaf 0))))))))))
def ty_hW : rs_H := .leaf (9, 10, (.branch 0 (.branch 0 (.branch 0 (.branch 0 (.leaf (5, 0, 0)) (.leaf (0, 0, 0))) (.branch 0 (.leaf (5, 0, 0)) (.leaf (0, 0, 0)))) (.branch 0 (.branch 0 (.leaf (5, 0, 0)) (.leaf (0, 0, 0))) (.branch 0 (.leaf (0, 0, 0)) (.leaf (0, 0, 0))))) (.branch 0 (.branch 0 (.branch 0 (.leaf (5, 0, 0)) (.leaf (0, 0, 0))) (.branch 0 (.leaf (5, 0, 0)) (.leaf (0, 0, 0)))) (.branch 0 (.branch 0 (.leaf (5, 0, 0)) (.leaf (0, 0, 0))) (.branch 0 (.leaf (0, 0, 0)) (.leaf (0, 0, 0)))))))
theorem ty_cW : rs_kc0 11 [(4, 0, 0)] [] ty_hW 1 (ty_kr 358 ty_kW) = true := by decide +kernel
def ty_kS : Lean.RArray Nat := (.branch 0 (.branch 0 (.branch 0 (.branch 0 (.branch 0 (.branch 0 (.branch 0 (.branch 0 (.branch 0 (.leaf 11) (.leaf 4)) (.branch 0 (.leaf 8) (.leaf 0))) (.branch 0 (.branch 0 (.leaf 14) (.leaf 15)) (.branch 0 (.leaf 13) (.leaf 0)))) (.branch 0 (.branch 0 (.branch 0 (.leaf 8) (.leaf 4)) (.branch 0 (.leaf 13) (.leaf 0))) (.branch 0 (.branch 0 (.leaf 6) (.leaf 15)) (.branch 0 (.leaf 4) (.leaf 0))))) (.branch 0 (.branch 0 (.branch 0 (.branch 0 (.leaf 14) (.leaf 15)) (.branch 0 (.leaf 13) (.leaf 0))) (.branch 0 (.branch 0 (.leaf 8) (.leaf 4)) (.branch 0 (.leaf 7) (.leaf 0)))) (.branch 0 (.branch 0 (.branch 0 (.leaf 6) (.leaf 18)) (.branch 0 (.leaf 13) (.leaf 0))) (.branch 0 (.branch 0 (.leaf 14) (.leaf 0)) (.branch 0 (.leaf 15) (.leaf 0)))))) (.branch 0 (.branch 0 (.branch 0 (.branch 0 (.branch 0 (.leaf 16) (.leaf 1)) (.branch 0 (.leaf 13) (.leaf 0))) (.branch 0 (.branch 0 (.leaf 6) (.leaf 4)) (.branch 0 (.leaf 0) (.leaf 0)))) (.branch 0 (.branch 0 (.branch 0 (.leaf 14) (.leaf 4)) (.branch 0 (.leaf 13) (.leaf 0))) (.branch 0 (.branch 0 (.leaf 8) (.leaf 20)) (.branch 0 (.leaf 15) (.leaf 0))))) (.branch 0 (.branch 0 (.branch 0 (.branch 0 (.leaf 6) (.leaf 15)) (.branch 0 (.leaf 13) (.leaf 0))) (.branch 0 (.branch 0 (.leaf 14) (.leaf 29)) (.branch 0 (.leaf 4) (.leaf 0)))) (.branch 0 (.branch 0 (.branch 0 (.leaf 8) (.leaf 15)) (.branch 0 (.leaf 13) (.leaf 0))) (.branch 0 (.branch 0 (.leaf 6) (.leaf 0)) (.branch 0 (.leaf 0) (.leaf 0))))))) (.branch 0 (.branch 0 (.branch 0 (.branch 0 (.branch 0 (.branch 0 (.leaf 27) (.leaf 4)) (.branch 0 (.leaf 13) (.leaf 0))) (.branch 0 (.branch 0 (.leaf 8) (.leaf 0)) (.branch 0 (.leaf 17) (.leaf 0)))) (.branch 0 (.branch 0 (.branch 0 (.leaf 6) (.leaf 4)) (.branch 0 (.leaf 13) (.leaf 0))) (.branch 0 (.branch 0 (.leaf 14) (.leaf 15)) (.branch 0 (.leaf 18) (.leaf 0))))) (.branch 0 (.branch 0 (.branch 0 (.branch 0 (.leaf 8) (.leaf 15)) (.branch 0 (.leaf 13) (.leaf 0))) (.branch 0 (.branch 0 (.leaf 6) (.leaf 1)) (.branch 0 (.leaf 4) (.leaf 0)))) (.branch 0 (.branch 0 (.branch 0 (.leaf 14) (.leaf 15)) (.branch 0 (.leaf 13) (.leaf 0))) (.branch 0 (.branch 0 (.leaf 8) (.leaf 0)) (.branch 0 (.leaf 15) (.leaf 0)))))) (.branch 0 (.branch 0 (.branch 0 (.branch 0 (.branch 0 (.leaf 6) (.leaf 29)) (.branch 0 (.leaf 13) (.leaf 0))) (.branch 0 (.branch 0 (.leaf 14) (.leaf 4)) (.branch 0 (.leaf 5) (.leaf 0)))) (.branch 0 (.branch 0 (.branch 0 (.leaf 8) (.leaf 4)) (.branch 0 (.leaf 13) (.leaf 0))) (.branch 0 (.branch 0 (.leaf 6) (.leaf 0)) (.branch 0 (.leaf 15) (.leaf 0))))) (.branch 0 (.branch 0 (.branch 0 (.branch 0 (.leaf 14) (.leaf 7)) (.branch 0 (.leaf 13) (.leaf 0))) (.branch 0 (.branch 0 (.leaf 8) (.leaf 15)) (.branch 0 (.leaf 4) (.leaf 0)))) (.branch 0 (.branch 0 (.branch 0 (.leaf 6) (.leaf 15)) (.branch 0 (.leaf 13) (.leaf 0))) (.branch 0 (.branch 0 (.leaf 14) (.leaf 0)) (.branch 0 (.leaf 4) (.leaf 0)))))))) (.branch 0 (.branch 0 (.branch 0 (.branch 0 (.branch 0 (.branch 0 (.branch 0 (.leaf 25) (.leaf 4)) (.branch 0 (.leaf 14) (.leaf 0))) (.branch 0 (.branch 0 (.leaf 6) (.leaf 7)) (.branch 0 (.leaf 13) (.leaf 0)))) (.branch 0 (.branch 0 (.branch 0 (.leaf 14) (.leaf 4)) (.branch 0 (.leaf 13) (.leaf 0))) (.branch 0 (.branch 0 (.leaf 8) (.leaf 15)) (.branch 0 (.leaf 1) (.leaf 0))))) (.branch 0 (.branch 0 (.branch 0 (.branch 0 (.leaf 6) (.leaf 15)) (.branch 0 (.leaf 13) (.leaf 0))) (.branch 0 (.branch 0 (.leaf 14) (.leaf 4)) (.branch 0 (.leaf 0) (.leaf 0)))) (.branch 0 (.branch 0 (.branch 0 (.leaf 8) (.leaf 29)) (.branch 0 (.leaf 13) (.leaf 0))) (.branch 0 (.branch 0 (.leaf 6) (.leaf 0)) (.branch 0 (.leaf 15) (.leaf 0)))))) (.branch 0 (.branch 0 (.branch 0 (.branch 0 (.branch 0 (.leaf 21) (.leaf 18)) (.branch 0 (.leaf 13) (.leaf 0))) (.branch 0 (.branch 0 (.leaf 8) (.leaf 4)) (.branch 0 (.leaf 17) (.leaf 0)))) (.branch 0 (.branch 0 (.branch 0 (.leaf 6) (.leaf 4)) (.branch 0 (.leaf 13) (.leaf 0))) (.branch 0 (.branch 0 (.leaf 14) (.leaf 19)) (.branch 0 (.leaf 15) (.leaf 0))))) (.branch 0 (.branch 0 (.branch 0 (.branch 0 (.leaf 8) (.leaf 15)) (.branch 0 (.leaf 13) (.leaf 0))) (.branch 0 (.branch 0 (.leaf 6) (.leaf 15)) (.branch 0 (.leaf 4) (.leaf 0)))) (.branch 0 (.branch 0 (.branch 0 (.leaf 14) (.leaf 15)) (.branch 0 (.leaf 13) (.leaf 0))) (.branch 0 (.branch 0 (.leaf 8) (.leaf 0)) (.branch 0 (.leaf 4) (.leaf 0))))))) (.branch 0 (.branch 0 (.branch 0 (.branch 0 (.branch 0 (.branch 0 (.leaf 3) (.leaf 4)) (.branch 0 (.leaf 13) (.leaf 0))) (.branch 0 (.branch 0 (.leaf 14) (.leaf 4)) (.branch 0 (.leaf 5) (.leaf 0)))) (.branch 0 (.branch 0 (.branch 0 (.leaf 8) (.leaf 4)) (.branch 0 (.leaf 13) (.leaf 0))) (.branch 0 (.branch 0 (.leaf 6) (.leaf 15)) (.branch 0 (.leaf 29) (.leaf 0))))) (.branch 0 (.branch 0 (.branch 0 (.branch 0 (.leaf 14) (.leaf 15)) (.branch 0 (.leaf 13) (.leaf 0))) (.branch 0 (.branch 0 (.leaf 8) (.leaf 18)) (.branch 0 (.leaf 4) (.leaf 0)))) (.branch 0 (.branch 0 (.branch 0 (.leaf 6) (.leaf 15)) (.branch 0 (.leaf 13) (.leaf 0))) (.branch 0 (.branch 0 (.leaf 14) (.leaf 0)) (.branch 0 (.leaf 7) (.leaf 0)))))) (.branch 0 (.branch 0 (.branch 0 (.branch 0 (.branch 0 (.leaf 8) (.leaf 15)) (.branch 0 (.leaf 13) (.leaf 0))) (.branch 0 (.branch 0 (.leaf 6) (.leaf 4)) (.branch 0 (.leaf 0) (.leaf 0)))) (.branch 0 (.branch 0 (.branch 0 (.leaf 14) (.leaf 1)) (.branch 0 (.leaf 13) (.leaf 0))) (.branch 0 (.branch 0 (.leaf 8) (.leaf 0)) (.branch 0 (.leaf 15) (.leaf 0))))) (.branch 0 (.branch 0 (.branch 0 (.branch 0 (.leaf 6) (.leaf 0)) (.branch 0 (.leaf 13) (.leaf 0))) (.branch 0 (.branch 0 (.leaf 14) (.leaf 15)) (.branch 0 (.leaf 4) (.leaf 0)))) (.branch 0 (.branch 0 (.branch 0 (.leaf 8) (.leaf 15)) (.branch 0 (.leaf 13) (.leaf 0))) (.branch 0 (.branch 0 (.leaf 6) (.leaf 0)) (.branch 0 (.leaf 4) (.leaf 0))))))))) (.branch 0 (.branch 0 (.branch 0 (.branch 0 (.branch 0 (.branch 0 (.branch 0 (.branch 0 (.leaf 10) (.leaf 15)) (.branch 0 (.leaf 6) (.leaf 0))) (.branch 0 (.branch 0 (.leaf 8) (.leaf 1)) (.branch 0 (.leaf 2) (.leaf 0)))) (.branch 0 (.branch 0 (.branch 0 (.leaf 6) (.leaf 15)) (.branch 0 (.leaf 2) (.leaf 0))) (.branch 0 (.branch 0 (.leaf 14) (.leaf 4)) (.branch 0 (.leaf 15) (.leaf 0))))) (.branch 0 (.branch 0 (.branch 0 (.branch 0 (.leaf 8) (.leaf 4)) (.branch 0 (.leaf 2) (.leaf 0))) (.branch 0 (.branch 0 (.leaf 6) (.leaf 15)) (.branch 0 (.leaf 18) (.leaf 0)))) (.branch 0 (.branch 0 (.branch 0 (.leaf 14) (.leaf 0)) (.branch 0 (.leaf 2) (.leaf 0))) (.branch 0 (.branch 0 (.leaf 8) (.leaf 0)) (.branch 0 (.leaf 4) (.leaf 0)))))) (.branch 0 (.branch 0 (.branch 0 (.branch 0 (.branch 0 (.leaf 16) (.leaf 7)) (.branch 0 (.leaf 2) (.leaf 0))) (.branch 0 (.branch 0 (.leaf 14) (.leaf 15)) (.branch 0 (.leaf 5) (.leaf 0)))) (.branch 0 (.branch 0 (.branch 0 (.leaf 8) (.leaf 15)) (.branch 0 (.leaf 2) (.leaf 0))) (.branch 0 (.branch 0 (.leaf 6) (.leaf 22)) (.branch 0 (.leaf 4) (.leaf 0))))) (.branch 0 (.branch 0 (.branch 0 (.branch 0 (.leaf 14) (.leaf 4)) (.branch 0 (.leaf 2) (.leaf 0))) (.branch 0 (.branch 0 (.leaf 8) (.leaf 4)) (.branch 0 (.leaf 15) (.leaf 0)))) (.branch 0 (.branch 0 (.branch 0 (.leaf 6) (.leaf 4)) (.branch 0 (.leaf 2) (.leaf 0))) (.branch 0 (.branch 0 (.leaf 14) (.leaf 0)) (.branch 0 (.leaf 29) (.leaf 0))))))) (.branch 0 (.branch 0 (.branch 0 (.branch 0 (.branch 0 (.branch 0 (.leaf 28) (.leaf 15)) (.branch 0 (.leaf 2) (.leaf 0))) (.branch 0 (.branch 0 (.leaf 6) (.leaf 29)) (.branch 0 (.leaf 0) (.leaf 0)))) (.branch 0 (.branch 0 (.branch 0 (.leaf 14) (.leaf 15)) (.branch 0 (.leaf 2) (.leaf 0))) (.branch 0 (.branch 0 (.leaf 8) (.leaf 4)) (.branch 0 (.leaf 0) (.leaf 0))))) (.branch 0 (.branch 0 (.branch 0 (.branch 0 (.leaf 6) (.leaf 4)) (.branch 0 (.leaf 2) (.leaf 0))) (.branch 0 (.branch 0 (.leaf 14) (.leaf 7)) (.branch 0 (.leaf 15) (.leaf 0)))) (.branch 0 (.branch 0 (.branch 0 (.leaf 8) (.leaf 4)) (.branch 0 (.leaf 2) (.leaf 0))) (.branch 0 (.branch 0 (.leaf 6) (.leaf 0)) (.branch 0 (.leaf 1) (.leaf 0)))))) (.branch 0 (.branch 0 (.branch 0 (.branch 0 (.branch 0 (.leaf 14) (.leaf 4)) (.branch 0 (.leaf 2) (.leaf 0))) (.branch 0 (.branch 0 (.leaf 8) (.leaf 15)) (.branch 0 (.leaf 17) (.leaf 0)))) (.branch 0 (.branch 0 (.branch 0 (.leaf 6) (.leaf 15)) (.branch 0 (.leaf 2) (.leaf 0))) (.branch 0 (.branch 0 (.leaf 14) (.leaf 0)) (.branch 0 (.leaf 4) (.leaf 0))))) (.branch 0 (.branch 0 (.branch 0 (.branch 0 (.leaf 8) (.leaf 18)) (.branch 0 (.leaf 2) (.leaf 0))) (.branch 0 (.branch 0 (.leaf 6) (.leaf 4)) (.branch 0 (.leaf 15) (.leaf 0)))) (.branch 0 (.branch 0 (.branch 0 (.leaf 14) (.leaf 4)) (.branch 0 (.leaf 2) (.leaf 0))) (.branch 0 (.branch 0 (.leaf 8) (.leaf 0)) (.branch 0 (.leaf 15) (.leaf 0)))))))) (.branch 0 (.branch 0 (.branch 0 (.branch 0 (.branch 0 (.branch 0 (.branch 0 (.leaf 26) (.leaf 15)) (.branch 0 (.leaf 2) (.leaf 0))) (.branch 0 (.branch 0 (.leaf 14) (.leaf 18)) (.branch 0 (.leaf 5) (.leaf 0)))) (.branch 0 (.branch 0 (.branch 0 (.leaf 8) (.leaf 15)) (.branch 0 (.leaf 2) (.leaf 0))) (.branch 0 (.branch 0 (.leaf 6) (.leaf 4)) (.branch 0 (.leaf 7) (.leaf 0))))) (.branch 0 (.branch 0 (.branch 0 (.branch 0 (.leaf 14) (.leaf 4)) (.branch 0 (.leaf 2) (.leaf 0))) (.branch 0 (.branch 0 (.leaf 8) (.leaf 15)) (.branch 0 (.leaf 29) (.leaf 0)))) (.branch 0 (.branch 0 (.branch 0 (.leaf 6) (.leaf 4)) (.branch 0 (.leaf 2) (.leaf 0))) (.branch 0 (.branch 0 (.leaf 14) (.leaf 0)) (.branch 0 (.leaf 4) (.leaf 0)))))) (.branch 0 (.branch 0 (.branch 0 (.branch 0 (.branch 0 (.leaf 8) (.leaf 0)) (.branch 0 (.leaf 2) (.leaf 0))) (.branch 0 (.branch 0 (.leaf 6) (.leaf 15)) (.branch 0 (.leaf 0) (.leaf 0)))) (.branch 0 (.branch 0 (.branch 0 (.leaf 14) (.leaf 15)) (.branch 0 (.leaf 2) (.leaf 0))) (.branch 0 (.branch 0 (.leaf 8) (.leaf 0)) (.branch 0 (.leaf 4) (.leaf 0))))) (.branch 0 (.branch 0 (.branch 0 (.branch 0 (.leaf 6) (.leaf 1)) (.branch 0 (.leaf 2) (.leaf 0))) (.branch 0 (.branch 0 (.leaf 14) (.leaf 4)) (.branch 0 (.leaf 15) (.leaf 0)))) (.branch 0 (.branch 0 (.branch 0 (.leaf 8) (.leaf 4)) (.branch 0 (.leaf 2) (.leaf 0))) (.branch 0 (.branch 0 (.leaf 6) (.leaf 0)) (.branch 0 (.leaf 15) (.leaf 0))))))) (.branch 0 (.branch 0 (.branch 0 (.branch 0 (.branch 0 (.branch 0 (.leaf 16) (.leaf 15)) (.branch 0 (.leaf 2) (.leaf 0))) (.branch 0 (.branch 0 (.leaf 8) (.leaf 15)) (.branch 0 (.leaf 17) (.leaf 0)))) (.branch 0 (.branch 0 (.branch 0 (.leaf 6) (.leaf 15)) (.branch 0 (.leaf 2) (.leaf 0))) (.branch 0 (.branch 0 (.leaf 14) (.leaf 9)) (.branch 0 (.leaf 4) (.leaf 0))))) (.branch 0 (.branch 0 (.branch 0 (.branch 0 (.leaf 8) (.leaf 4)) (.branch 0 (.leaf 2) (.leaf 0))) (.branch 0 (.branch 0 (.leaf 6) (.leaf 0)) (.branch 0 (.leaf 15) (.leaf 0)))) (.branch 0 (.branch 0 (.branch 0 (.leaf 14) (.leaf 4)) (.branch 0 (.leaf 2) (.leaf 0))) (.branch 0 (.branch 0 (.leaf 8) (.leaf 0)) (.branch 0 (.leaf 18) (.leaf 0)))))) (.branch 0 (.branch 0 (.branch 0 (.branch 0 (.branch 0 (.leaf 6) (.leaf 4)) (.branch 0 (.leaf 2) (.leaf 0))) (.branch 0 (.branch 0 (.leaf 14) (.leaf 15)) (.branch 0 (.leaf 1) (.leaf 0)))) (.branch 0 (.branch 0 (.branch 0 (.leaf 8) (.leaf 7)) (.branch 0 (.leaf 2) (.leaf 0))) (.branch 0 (.branch 0 (.leaf 6) (.leaf 0)) (.branch 0 (.leaf 4) (.leaf 0))))) (.branch 0 (.branch 0 (.branch 0 (.branch 0 (.leaf 14) (.leaf 29)) (.branch 0 (.leaf 2) (.leaf 0))) (.branch 0 (.branch 0 (.leaf 8) (.leaf 4)) (.branch 0 (.leaf 15) (.leaf 0)))) (.branch 0 (.branch 0 (.branch 0 (.leaf 6) (.leaf 4)) (.branch 0 (.leaf 2) (.leaf 0))) (.branch 0 (.branch 0 (.leaf 14) (.leaf 0)) (.branch 0 (.leaf 15) (.leaf 0))))))))))
def ty_hS : rs_H := .leaf (10, 4, (.branch 0 (.branch 0 (.leaf (5, 0, 0)) (.leaf (5, 0, 0))) (.branch 0 (.leaf (5, 0, 0)) (.leaf (5, 0, 0)))))
theorem ty_cS : rs_kc0 0 [(4, 0, 0)] [] ty_hS 1 (ty_kr 363 ty_kS) = true := by decide +kernel
def ty_kM : Lean.RArray Nat := (.branch 0 (.branch 0 (.branch 0 (.leaf 12) (.leaf 33)) (.branch 0 (.leaf 30) (.leaf 0))) (.branch 0 (.branch 0 (.leaf 24) (.leaf 31)) (.branch 0 (.leaf 32) (.leaf 0))))
def ty_hM : rs_H := .leaf (11, 13, (.branch 0 (.branch 0 (.branch 0 (.branch 0 (.leaf (0, 0, 0)) (.leaf (0, 0, 0))) (.branch 0 (.leaf (0, 0, 0)) (.leaf (5, 0, 0)))) (.branch 0 (.branch 0 (.leaf (5, 0, 0)) (.leaf (5, 0, 0))) (.branch 0 (.leaf (0, 0, 0)) (.leaf (0, 0, 0))))) (.branch 0 (.branch 0 (.branch 0 (.leaf (5, 0, 0)) (.leaf (0, 0, 0))) (.branch 0 (.leaf (0, 0, 0)) (.leaf (0, 0, 0)))) (.branch 0 (.branch 0 (.leaf (5, 0, 0)) (.leaf (0, 0, 0))) (.branch 0 (.leaf (0, 0, 0)) (.leaf (0, 0, 0)))))))
theorem ty_cM : rs_kc0 1 [(4, 0, 0)] [] ty_hM 1 (ty_kr 6 ty_kM) = true := by decide +kernel
