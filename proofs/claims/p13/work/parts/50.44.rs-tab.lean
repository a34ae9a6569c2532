/-! the tables' checks; the law's start -/
section RSF
/-- a field's words, out of the nest's words and the tables -/
theorem rs_fckE {s : State} {args : Array Value} (hts : ∀ w ∈ rk_tbl, w.before args s = true) (hN : rs_NU s) {own : String} {q : Nat × Nat × Nat × Nat} {pl : Nat × Bool} (h : rk_fck own q pl = true) : rk_F1 s args rk_tbl own q := by
  obtain ⟨idx, ci, k, w⟩ := q
  unfold rk_fck at h
  dsimp only at h
  split at h
  · cases h
  · rename_i c hc
    obtain ⟨C, T, N⟩ := c
    dsimp only at h
    simp only [Bool.and_eq_true] at h
    obtain ⟨⟨⟨⟨⟨h1, h2⟩, h3⟩, h4⟩, h5⟩, h6⟩ := h
    obtain ⟨g1, g2, g3⟩ := rk_clsOk ci C T N hc
    have h1 : k < N := by rw [Nat.blt_eq] at h1; exact h1
    refine ⟨C, T, N, rk_ty ci, hc, h1, g1, g2, g3, ?_, ?_, ?_, ?_, ?_⟩
    · split at h2
      · exact Or.inr ⟨"SpaceLinks", va_Nw.use rfl (hN.1.1 _ (List.mem_of_getElem? (of_decide_eq_true h2)))⟩
      · exact Or.inl (hts _ (rk_tat_ok h2))
    · intro hw
      rcases Bool.or_eq_true _ _ ▸ h3 with h | h
      · rw [Nat.ble_eq] at h
        exact absurd hw (by dsimp only; omega)
      · simpa using h
    · intro hw
      dsimp only at hw
      subst hw
      simpa using h4
    · intro hw
      dsimp only at hw
      subst hw
      simpa using h5
    · intro hw
      dsimp only at hw
      subst hw
      exact rk_isO_ok (by simpa using h6)
theorem rs_fcksE {s : State} {args : Array Value} (hts : ∀ w ∈ rk_tbl, w.before args s = true) (hN : rs_NU s) {own : String} : ∀ (l : List (Nat × Nat × Nat × Nat)) (m : List (Nat × Bool)), rk_fcks own l m = true → ∀ q ∈ l, rk_F1 s args rk_tbl own q
  | [], _, _ => fun _ h => absurd h List.not_mem_nil
  | q :: l, p :: m, h => by
    unfold rk_fcks at h
    rw [Bool.and_eq_true] at h
    exact List.forall_mem_cons.mpr ⟨rs_fckE hts hN h.1, rs_fcksE hts hN l m h.2⟩
  | _ :: _, [], h => by cases h
theorem rs_MokE {M : rk_Mt × Nat × Nat} {ft : List (Nat × Nat × Nat × Nat)} {own : String} {pl : List (Nat × Bool)} (h1 : plainName M.1.1.cls = true) (h2 : M.1.1.cls = own) (h3 : rk_fcks own ft pl = true) : rs_Mok M ft := ⟨h1, fun s args hts hN => by
  rw [h2]
  exact rk_FlOk_of (rs_fcksE hts hN ft pl h3)⟩
def rs_lvs {α : Type} : Lean.RArray α → List α
  | .leaf a => [a]
  | .branch _ a b => rs_lvs a ++ rs_lvs b
theorem rs_lvsE {α : Type} : ∀ (t : Lean.RArray α) (i : Nat), rt_g t i ∈ rs_lvs t
  | .leaf a, i => List.mem_singleton.mpr rfl
  | .branch _ a b, i => by
    rw [rt_g_branch]
    split
    · exact List.mem_append_left _ (rs_lvsE a _)
    · exact List.mem_append_right _ (rs_lvsE b _)
noncomputable def rs_op1 (MT : Nat → rk_Mt × Nat × Nat) (ds : Lean.RArray rs_Dc) (M : rk_Mt × Nat × Nat) (ft : List (Nat × Nat × Nat × Nat)) (op : rs_I) : Bool := Nat.beq op.2.1 0 || (decide (decode M.1.2.1 op.1 = .ok (rt_g ds op.2.1 op.1 op.2.2.1 op.2.2.2.1 op.2.2.2.2.1 op.2.2.2.2.2)) && rt_g (rs_cks MT) op.2.1 M.1 M.2 ft op.1 op.2.2.1 op.2.2.2.1 op.2.2.2.2.1 op.2.2.2.2.2)
noncomputable def rs_opA (MT : Nat → rk_Mt × Nat × Nat) (ds : Lean.RArray rs_Dc) (M : rk_Mt × Nat × Nat) (ft : List (Nat × Nat × Nat × Nat)) (t : Lean.RArray rs_I) : Bool := (rs_lvs t).all (rs_op1 MT ds M ft)
theorem rs_TokE {MT : Nat → rk_Mt × Nat × Nat} {ds : Lean.RArray rs_Dc} {M : rk_Mt × Nat × Nat} {ft : List (Nat × Nat × Nat × Nat)} {t : Lean.RArray rs_I} (h : rs_opA MT ds M ft t = true) : rs_Tok MT ds t M ft := by
  intro pc cd a b c l hop
  have h1 := List.all_eq_true.mp h _ (rs_lvsE t pc)
  rw [hop] at h1
  unfold rs_op1 at h1
  dsimp only at h1
  rw [Bool.or_eq_true, Bool.and_eq_true] at h1
  rcases h1 with h1 | ⟨h1, h2⟩
  · exact Or.inl (rs_eqE h1)
  · exact Or.inr ⟨of_decide_eq_true h1, h2⟩
end RSF
def rs_x0 (xs : Nat → Int32) (L : Nat) : Nat → Int32 := fun k => if k = 6 then Int32.ofNat L else xs k
noncomputable def rs_one : rs_KR := fun v _ _ _ => (@Bool.rec (fun _ => Bool) false (Nat.beq v.2.1 1) (Nat.beq v.1 0))
def rs_h0 : rs_H := .leaf (99, 0, .leaf (9, 0, 0))
