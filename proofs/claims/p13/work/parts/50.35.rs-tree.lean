/-! trees, lists, what is known of the script -/
theorem rs_andE {c x : Bool} (h : @Bool.rec (fun _ => Bool) false x c = true) : c = true ∧ x = true := by
  cases c
  · cases h
  · exact ⟨rfl, h⟩
theorem rs_ifE {c t e : Bool} (h : @Bool.rec (fun _ => Bool) e t c = true) : (c = true ∧ t = true) ∨ (c = false ∧ e = true) := by
  cases c
  · exact Or.inr ⟨rfl, h⟩
  · exact Or.inl ⟨rfl, h⟩
theorem rs_orE {c x : Bool} (h : @Bool.rec (fun _ => Bool) x true c = true) : c = true ∨ x = true := by
  cases c
  · exact Or.inr h
  · exact Or.inl rfl
theorem rs_notE {c : Bool} (h : @Bool.rec (fun _ => Bool) true false c = true) : c = false := by
  cases c
  · rfl
  · cases h
theorem rs_ltE {a b : Nat} (h : @Bool.rec (fun _ => Bool) true false (Nat.ble b a) = true) : a < b := by
  have h1 := rs_notE h
  cases hb : Nat.ble b a
  · exact Nat.lt_of_not_le (fun h2 => by
      rw [Nat.ble_eq_true_of_le h2] at hb
      cases hb)
  · rw [hb] at h1
    cases h1
theorem rs_leE {a b : Nat} (h : Nat.ble a b = true) : a ≤ b := Nat.le_of_ble_eq_true h
theorem rs_nle {a b : Nat} (h : Nat.ble a b = false) : b < a := Nat.lt_of_not_le (fun h2 => by
  rw [Nat.ble_eq_true_of_le h2] at h
  cases h)
theorem rs_eqE {a b : Nat} (h : Nat.beq a b = true) : a = b := Nat.eq_of_beq_eq_true h
theorem rs_neq {a b : Nat} (h : Nat.beq a b = false) : a ≠ b := Nat.ne_of_beq_eq_false h
theorem rs_nfE {x : Nat} {k : Nat → Bool} (h : rs_nf x k = true) : k x = true := by
  cases x
  · exact h
  · exact h
theorem rs_bE {c : Bool} (h : ¬ c = true) : c = false := by
  cases c
  · rfl
  · exact absurd rfl h
theorem rt_g_leaf {α : Type} (x : α) (i : Nat) : rt_g (.leaf x) i = x := rfl
theorem rt_g_branch {α : Type} (p : Nat) (a b : Lean.RArray α) (i : Nat) : rt_g (.branch p a b) i = if i % 2 = 0 then rt_g a (i / 2) else rt_g b (i / 2) := by
  show @Bool.rec (fun _ => α) (rt_g b (i / 2)) (rt_g a (i / 2)) (Nat.beq (i % 2) 0) = _
  cases h : Nat.beq (i % 2) 0
  · rw [if_neg (rs_neq h)]
  · rw [if_pos (rs_eqE h)]
/-- behind a store: the new value at its place, else the old ones -/
theorem rt_sE {α : Type} {v : α} : ∀ (d i : Nat) (t : Lean.RArray α) (k : Lean.RArray α → Bool), i < 2 ^ d → rt_s v d i t k = true → ∃ t' : Lean.RArray α, k t' = true ∧ rt_g t' i = v ∧ ∀ j, j < 2 ^ d → j ≠ i → rt_g t' j = rt_g t j
  | 0, i, t, k, hi, h => ⟨.leaf v, h, rfl, fun j hj hn => by
      have : (2 : Nat) ^ 0 = 1 := rfl
      omega⟩
  | d + 1, i, t, k, hi, h => by
    have hp : (2 : Nat) ^ (d + 1) = 2 * 2 ^ d := by rw [Nat.pow_succ, Nat.mul_comm]
    have hi2 : i / 2 < 2 ^ d := by omega
    cases t with
    | leaf x =>
      rcases rs_ifE (c := Nat.beq (i % 2) 0) h with ⟨h1, h2⟩ | ⟨h1, h2⟩
      · have h1 := rs_eqE h1
        obtain ⟨t', a1, a2, a3⟩ := rt_sE d (i / 2) (.leaf x) _ hi2 h2
        refine ⟨_, a1, ?_, fun j hj hn => ?_⟩
        · rw [rt_g_branch, if_pos h1]
          exact a2
        · rw [rt_g_branch]
          split
          · rw [a3 (j / 2) (by omega) (by omega)]
            rfl
          · rfl
      · have h1 := rs_neq h1
        obtain ⟨t', a1, a2, a3⟩ := rt_sE d (i / 2) (.leaf x) _ hi2 h2
        refine ⟨_, a1, ?_, fun j hj hn => ?_⟩
        · rw [rt_g_branch, if_neg h1]
          exact a2
        · rw [rt_g_branch]
          split
          · rfl
          · rw [a3 (j / 2) (by omega) (by omega)]
            rfl
    | branch p l r =>
      rcases rs_ifE (c := Nat.beq (i % 2) 0) h with ⟨h1, h2⟩ | ⟨h1, h2⟩
      · have h1 := rs_eqE h1
        obtain ⟨t', a1, a2, a3⟩ := rt_sE d (i / 2) l _ hi2 h2
        refine ⟨_, a1, ?_, fun j hj hn => ?_⟩
        · rw [rt_g_branch, if_pos h1]
          exact a2
        · rw [rt_g_branch, rt_g_branch]
          split
          · exact a3 (j / 2) (by omega) (by omega)
          · rfl
      · have h1 := rs_neq h1
        obtain ⟨t', a1, a2, a3⟩ := rt_sE d (i / 2) r _ hi2 h2
        refine ⟨_, a1, ?_, fun j hj hn => ?_⟩
        · rw [rt_g_branch, if_neg h1]
          exact a2
        · rw [rt_g_branch, rt_g_branch]
          split
          · rfl
          · exact a3 (j / 2) (by omega) (by omega)
theorem rs_lsE {v : rs_V} : ∀ (i : Nat) (lo : List rs_V) (k : List rs_V → Bool), rs_ls v i lo k = true → ∃ lo', k lo' = true ∧ rs_ln lo' i = v ∧ ∀ j, j ≠ i → rs_ln lo' j = rs_ln lo j
  | 0, [], k, h => ⟨[v], h, rfl, fun j hj => by
      cases j with
      | zero => exact absurd rfl hj
      | succ j => rfl⟩
  | 0, x :: t, k, h => ⟨v :: t, h, rfl, fun j hj => by
      cases j with
      | zero => exact absurd rfl hj
      | succ j => rfl⟩
  | i + 1, [], k, h => by
    obtain ⟨lo', a1, a2, a3⟩ := rs_lsE i [] _ h
    refine ⟨_, a1, a2, fun j hj => ?_⟩
    cases j with
    | zero => rfl
    | succ j => exact a3 j (by omega)
  | i + 1, x :: t, k, h => by
    obtain ⟨lo', a1, a2, a3⟩ := rs_lsE i t _ h
    refine ⟨_, a1, a2, fun j hj => ?_⟩
    cases j with
    | zero => rfl
    | succ j => exact a3 j (by omega)
/-- what is known of a number -/
def rs_iv (x : Int32) (v : Nat × Nat × Nat) : Prop := v.1 ≤ rs_b x ∧ rs_b x ≤ v.2.1 ∧ (v.2.2 = 1 → rs_b x % 2 = 0) ∧ (v.2.2 = 2 → rs_b x % 2 = 1) ∧ (3 ≤ v.2.2 → x &&& rs_i 31 = rs_i (v.2.2 - 3))
def rs_env (r : Nat → Int32) (en : rs_E) : Prop := ∀ k, rs_iv (r k) (rs_eg en k)
theorem rs_iv_all (x : Int32) : rs_iv x (0, 4294967295, 0) := by
  have h := rs_b_lt x
  refine ⟨Nat.zero_le _, ?_, fun h => absurd h (by decide), fun h => absurd h (by decide), fun h => absurd h (by decide)⟩
  dsimp only
  omega
theorem rs_env_nil (r : Nat → Int32) : rs_env r [] := fun k => rs_iv_all (r k)
theorem rs_env_tail {r : Nat → Int32} {v : Nat × Nat × Nat} {en : rs_E} (h : rs_env r (v :: en)) : rs_env (fun k => r (k + 1)) en := fun k => h (k + 1)
theorem rs_env_cons {r : Nat → Int32} {v : Nat × Nat × Nat} {en : rs_E} (h1 : rs_iv (r 0) v) (h2 : rs_env (fun k => r (k + 1)) en) : rs_env r (v :: en) := fun k => by
  cases k with
  | zero => exact h1
  | succ k => exact h2 k
theorem rs_esE {v : Nat × Nat × Nat} (i : Nat) (r : Nat → Int32) (en : rs_E) (k : rs_E → Bool) (h : rs_es v i en k = true) (hv : rs_iv (r i) v) (he : rs_env r en) : ∃ en', k en' = true ∧ rs_env r en' := by
  induction i generalizing r en k with
  | zero =>
    cases en with
    | nil => exact ⟨[], h, rs_env_nil r⟩
    | cons x t => exact ⟨v :: t, h, rs_env_cons hv (rs_env_tail he)⟩
  | succ i ih =>
    cases en with
    | nil => exact ⟨[], h, rs_env_nil r⟩
    | cons x t =>
      obtain ⟨e', a1, a2⟩ := ih (fun k => r (k + 1)) t _ h hv (rs_env_tail he)
      exact ⟨_, a1, rs_env_cons (he 0) a2⟩
theorem rs_badE {lo hi pa : Nat} {x : Int32} (h : rs_bad lo hi pa = true) (hv : rs_iv x (lo, hi, pa)) : False := by
  obtain ⟨h1, h2⟩ := rs_andE h
  have h1 := rs_eqE h1
  obtain ⟨v1, v2, v3, v4, -⟩ := hv
  dsimp only at v1 v2 v3 v4
  rcases rs_ifE h2 with ⟨a, b⟩ | ⟨a, b⟩
  · have a := rs_eqE a
    have b : lo % 2 = 1 := rs_eqE b
    have := v3 a
    omega
  · obtain ⟨c, d⟩ := rs_andE b
    have c := rs_eqE c
    have d : lo % 2 = 0 := rs_eqE d
    have := v4 c
    omega
theorem rs_ekE {lo hi pa a : Nat} {r : Nat → Int32} {en : rs_E} {k : rs_E → Bool} (h : rs_ek lo hi pa a en k = true) (hv : rs_iv (r a) (lo, hi, pa)) (he : rs_env r en) : ∃ en', k en' = true ∧ rs_env r en' := by
  rcases rs_orE h with h | h
  · exact absurd (rs_badE h hv) id
  · exact rs_esE a r en k h hv he
/-- less -/
theorem rs_ltE2 {r : Nat → Int32} {en : rs_E} {a c b : Nat} {kT kF : rs_E → Bool} (h : rs_lt en a c b kT kF = true) (he : rs_env r en) : ∃ en', rs_env r en' ∧ ((rs_b (r a + rs_i c) < b ∧ kT en' = true) ∨ (b ≤ rs_b (r a + rs_i c) ∧ kF en' = true)) := by
  have hv := he a
  unfold rs_lt at h
  rcases hE : rs_eg en a with ⟨lo, hi, pa⟩
  rw [hE] at h hv
  obtain ⟨h1, h⟩ := rs_andE h
  have h1 : (lo + c) / 4294967296 = (hi + c) / 4294967296 := rs_eqE h1
  obtain ⟨v1, v2, v3, v4, v5⟩ := hv
  dsimp only at v1 v2 v3 v4 v5
  rw [rs_b_add]
  generalize hB : rs_b (r a) = B at v1 v2 v3 v4 ⊢
  have hm : (B + c) % 4294967296 = (lo + c) % 4294967296 + (B - lo) ∧ (hi + c) % 4294967296 = (lo + c) % 4294967296 + (hi - lo) := by omega
  rcases rs_ifE h with ⟨h2, h⟩ | ⟨h2, h⟩
  · have h2 : b ≤ (lo + c) % 4294967296 := rs_leE h2
    exact ⟨en, he, Or.inr ⟨by omega, h⟩⟩
  · have h2 : (lo + c) % 4294967296 < b := rs_nle h2
    rcases rs_ifE h with ⟨h3, h⟩ | ⟨h3, h⟩
    · have h3 : b ≤ (hi + c) % 4294967296 := rs_leE h3
      have h := rs_nfE h
      obtain ⟨h4, h5⟩ := rs_andE h
      have h4 := rs_nfE h4
      by_cases hc : (B + c) % 4294967296 < b
      · obtain ⟨en', a1, a2⟩ := rs_ekE (r := r) h4 ⟨by dsimp only; omega, by
          show rs_b (r a) ≤ lo + (b - (lo + c) % 4294967296) - 1
          omega, by dsimp only; rw [hB]; exact v3, by dsimp only; rw [hB]; exact v4, v5⟩ he
        exact ⟨en', a2, Or.inl ⟨hc, a1⟩⟩
      · obtain ⟨en', a1, a2⟩ := rs_ekE (r := r) h5 ⟨by
          show lo + (b - (lo + c) % 4294967296) ≤ rs_b (r a)
          omega, by dsimp only; omega, by dsimp only; rw [hB]; exact v3, by dsimp only; rw [hB]; exact v4, v5⟩ he
        exact ⟨en', a2, Or.inr ⟨by omega, a1⟩⟩
    · have h3 : (hi + c) % 4294967296 < b := rs_nle h3
      exact ⟨en, he, Or.inl ⟨by omega, h⟩⟩
theorem rs_eqE2 {r : Nat → Int32} {en : rs_E} {a c b : Nat} {kT kF : rs_E → Bool} (h : rs_eq en a c b kT kF = true) (he : rs_env r en) : ∃ en', rs_env r en' ∧ ((rs_b (r a + rs_i c) = b ∧ kT en' = true) ∨ (rs_b (r a + rs_i c) ≠ b ∧ kF en' = true)) := by
  have hv := he a
  unfold rs_eq at h
  rcases hE : rs_eg en a with ⟨lo, hi, pa⟩
  rw [hE] at h hv
  obtain ⟨h1, h⟩ := rs_andE h
  have h1 : (lo + c) / 4294967296 = (hi + c) / 4294967296 := rs_eqE h1
  obtain ⟨v1, v2, v3, v4, v5⟩ := hv
  dsimp only at v1 v2 v3 v4 v5
  rw [rs_b_add]
  generalize hB : rs_b (r a) = B at v1 v2 v3 v4 ⊢
  have hm : (B + c) % 4294967296 = (lo + c) % 4294967296 + (B - lo) ∧ (hi + c) % 4294967296 = (lo + c) % 4294967296 + (hi - lo) := by omega
  rcases rs_ifE h with ⟨h2, h⟩ | ⟨h2, h⟩
  · obtain ⟨h2, h3⟩ := rs_andE h2
    have h2 : (lo + c) % 4294967296 ≤ b := rs_leE h2
    have h3 : b ≤ (hi + c) % 4294967296 := rs_leE h3
    have h := rs_nfE h
    obtain ⟨h4, h⟩ := rs_andE h
    obtain ⟨h5, h6⟩ := rs_andE h
    have ht : ∃ t : Nat, t = lo + (b - (lo + c) % 4294967296) := ⟨_, rfl⟩
    obtain ⟨t, ht⟩ := ht
    have h4 : rs_ek t t pa a en kT = true := by rw [ht]; exact h4
    have h5 : @Bool.rec (fun _ => Bool) (rs_nf (Nat.sub t 1) (fun t1 => rs_ek lo t1 pa a en kF)) true (Nat.beq t lo) = true := by rw [ht]; exact h5
    have h6 : @Bool.rec (fun _ => Bool) (rs_nf (Nat.add t 1) (fun t1 => rs_ek t1 hi pa a en kF)) true (Nat.beq t hi) = true := by rw [ht]; exact h6
    by_cases hc : B = t
    · obtain ⟨en', a1, a2⟩ := rs_ekE (r := r) h4 ⟨by dsimp only; omega, by dsimp only; omega, by dsimp only; rw [hB]; exact v3, by dsimp only; rw [hB]; exact v4, v5⟩ he
      exact ⟨en', a2, Or.inl ⟨by omega, a1⟩⟩
    · by_cases hl : B < t
      · rcases rs_orE h5 with h7 | h7
        · have := rs_eqE h7
          omega
        · obtain ⟨en', a1, a2⟩ := rs_ekE (r := r) (rs_nfE h7) ⟨by dsimp only; omega, by
            show rs_b (r a) ≤ t - 1
            omega, by dsimp only; rw [hB]; exact v3, by dsimp only; rw [hB]; exact v4, v5⟩ he
          exact ⟨en', a2, Or.inr ⟨by omega, a1⟩⟩
      · rcases rs_orE h6 with h7 | h7
        · have := rs_eqE h7
          omega
        · obtain ⟨en', a1, a2⟩ := rs_ekE (r := r) (rs_nfE h7) ⟨by
            show t + 1 ≤ rs_b (r a)
            omega, by dsimp only; omega, by dsimp only; rw [hB]; exact v3, by dsimp only; rw [hB]; exact v4, v5⟩ he
          exact ⟨en', a2, Or.inr ⟨by omega, a1⟩⟩
  · refine ⟨en, he, Or.inr ⟨?_, h⟩⟩
    intro hc
    have h2 : Nat.ble ((lo + c) % 4294967296) b = true := Nat.ble_eq_true_of_le (by omega)
    have h3 : Nat.ble b ((hi + c) % 4294967296) = true := Nat.ble_eq_true_of_le (by omega)
    rename_i h9
    have h9 : @Bool.rec (fun _ => Bool) false (Nat.ble b ((hi + c) % 4294967296)) (Nat.ble ((lo + c) % 4294967296) b) = false := h9
    rw [h2] at h9
    have h9 : Nat.ble b ((hi + c) % 4294967296) = false := h9
    rw [h3] at h9
    cases h9
theorem rs_allE {f : Nat → Bool} : ∀ (n v : Nat), rs_all f n v = true → ∀ u, v ≤ u → u < v + n → f u = true
  | 0, v, _, u, h1, h2 => by omega
  | n + 1, v, h, u, h1, h2 => by
    obtain ⟨h3, h4⟩ := rs_andE (c := f v) h
    by_cases hu : u = v
    · rw [hu]; exact h3
    · exact rs_allE n (v + 1) (rs_nfE h4) u (by omega) (by omega)
theorem rs_spE {r : Nat → Int32} {en : rs_E} {a : Nat} {kk : rs_E → Bool} (h : rs_sp en a kk = true) (he : rs_env r en) : ∃ en', kk en' = true ∧ rs_env r en' := by
  have hv := he a
  unfold rs_sp at h
  rcases hE : rs_eg en a with ⟨lo, hi, pa⟩
  rw [hE] at h hv
  obtain ⟨h1, h⟩ := rs_andE h
  obtain ⟨v1, v2, v3, v4, v5⟩ := hv
  dsimp only at v1 v2 v3 v4 v5
  have h := rs_allE _ _ h (rs_b (r a)) v1 (by
    show rs_b (r a) < lo + (hi - lo + 1)
    omega)
  exact rs_ekE (r := r) h ⟨Nat.le_refl _, Nat.le_refl _, v3, v4, v5⟩ he
