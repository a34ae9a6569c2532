/-! the tables' words by one decision each -/
def rk_tyl : List (Nat → FieldType) := [tyX0, tyX1, tyX2, tyX3, tyX4, tyX6, tyX7, tyX8, tyX9, tyX10, tyX11, tyX12]
def rk_ty (ci : Nat) : Nat → FieldType := rk_tyl.getD ci tyX0
theorem rk_clsOk : ∀ (ci : Nat) (C : String) (T : u_T) (N : Nat), vwCl[ci]? = some (C, T, N) → (∀ z ∈ u_ws C T N, z ∈ rk_tbl) ∧ (∀ j, j < N → parseFieldDescriptor (T j).2.2.1 = some (rk_ty ci j)) ∧ (∀ a, a < N → ∀ b, b < N → a ≠ b → (T a).2.1 ≠ (T b).2.1)
  | 0, _, _, _, h => by cases h; exact ⟨rk_inX0, tyX0_ok, nmX0⟩
  | 1, _, _, _, h => by cases h; exact ⟨rk_inX1, tyX1_ok, nmX1⟩
  | 2, _, _, _, h => by cases h; exact ⟨rk_inX2, tyX2_ok, nmX2⟩
  | 3, _, _, _, h => by cases h; exact ⟨rk_inX3, tyX3_ok, nmX3⟩
  | 4, _, _, _, h => by cases h; exact ⟨rk_inX4, tyX4_ok, nmX4⟩
  | 5, _, _, _, h => by cases h; exact ⟨rk_inX6, tyX6_ok, nmX6⟩
  | 6, _, _, _, h => by cases h; exact ⟨rk_inX7, tyX7_ok, nmX7⟩
  | 7, _, _, _, h => by cases h; exact ⟨rk_inX8, tyX8_ok, nmX8⟩
  | 8, _, _, _, h => by cases h; exact ⟨rk_inX9, tyX9_ok, nmX9⟩
  | 9, _, _, _, h => by cases h; exact ⟨rk_inX10, tyX10_ok, nmX10⟩
  | 10, _, _, _, h => by cases h; exact ⟨rk_inX11, tyX11_ok, nmX11⟩
  | 11, _, _, _, h => by cases h; exact ⟨rk_inX12, tyX12_ok, nmX12⟩
  | n + 12, _, _, _, h => by cases h
/-- one word of the tables at a place -/
def rk_tat (w : Jvm.Cond) (i : Nat) : Bool := decide (lw_tbl[i]? = some w) && goodWord w
theorem rk_tat_ok {w : Jvm.Cond} {i : Nat} (h : rk_tat w i = true) : w ∈ rk_tbl := by
  unfold rk_tat at h
  rw [Bool.and_eq_true, decide_eq_true_eq] at h
  exact rk_in_tbl i h.1 h.2
def rk_isO : FieldType → Bool
  | .object _ => true
  | _ => false
theorem rk_isO_ok {t : FieldType} (h : rk_isO t = true) : ∃ n, t = .object n := by
  cases t <;> first | exact ⟨_, rfl⟩ | cases h
def rk_fck (own : String) (q : Nat × Nat × Nat × Nat) (pl : Nat × Bool) : Bool :=
  match vwCl[q.2.1]? with
  | none => false
  | some c => Nat.blt q.2.2.1 c.2.2 && (if pl.2 then decide (rk_nf[pl.1]? = some (own, q.1, (c.2.1 q.2.2.1).1, (c.2.1 q.2.2.1).2.1, (c.2.1 q.2.2.1).2.2.1, "SpaceLinks")) else rk_tat (.fieldLink own q.1 (c.2.1 q.2.2.1).1 (c.2.1 q.2.2.1).2.1 (c.2.1 q.2.2.1).2.2.1) pl.1) &&
    (Nat.ble 3 q.2.2.2 || !(c.2.1 q.2.2.1).2.2.2) && (!Nat.beq q.2.2.2 0 || decide (rk_ty q.2.1 q.2.2.1 = .int)) && (!Nat.beq q.2.2.2 1 || decide (rk_ty q.2.1 q.2.2.1 = .boolean)) && (!Nat.beq q.2.2.2 2 || rk_isO (rk_ty q.2.1 q.2.2.1))
theorem rk_fck_ok {base : Nat} {ad adV : Nat → Nat} {s : State} {args : Array Value} {Ts : List Jvm.Cond} (hT : ∀ w ∈ rk_tbl, w ∈ Ts) (hts : ∀ w ∈ Ts, w.before args s = true) (hN : rk_NU base ad adV s) {own : String} {q : Nat × Nat × Nat × Nat} {pl : Nat × Bool} (h : rk_fck own q pl = true) : rk_F1 s args Ts own q := by
  obtain ⟨idx, ci, k, w⟩ := q
  unfold rk_fck at h
  dsimp only at h
  split at h
  · cases h
  · rename_i c hc
    obtain ⟨C, T, N⟩ := c
    dsimp only at h
    simp only [Bool.and_eq_true] at h
    obtain ⟨⟨⟨⟨⟨h1, h2⟩, h3⟩, h4⟩, h5⟩, h6⟩ := h
    obtain ⟨g1, g2, g3⟩ := rk_clsOk ci C T N hc
    have h1 : k < N := by rw [Nat.blt_eq] at h1; exact h1
    refine ⟨C, T, N, rk_ty ci, hc, h1, fun z hz => hT z (g1 z hz), g2, g3, ?_, ?_, ?_, ?_, ?_⟩
    · split at h2
      · exact Or.inr ⟨"SpaceLinks", va_Nw.use rfl (hN.1.1 _ (List.mem_of_getElem? (of_decide_eq_true h2)))⟩
      · exact Or.inl (hts _ (hT _ (rk_tat_ok h2)))
    · intro hw
      rcases Bool.or_eq_true _ _ ▸ h3 with h | h
      · rw [Nat.ble_eq] at h
        exact absurd hw (by dsimp only; omega)
      · simpa using h
    · intro hw
      dsimp only at hw
      subst hw
      simpa using h4
    · intro hw
      dsimp only at hw
      subst hw
      simpa using h5
    · intro hw
      dsimp only at hw
      subst hw
      exact rk_isO_ok (by simpa using h6)
def rk_fcks (own : String) : List (Nat × Nat × Nat × Nat) → List (Nat × Bool) → Bool
  | [], _ => true
  | q :: l, p :: m => rk_fck own q p && rk_fcks own l m
  | _ :: _, [] => false
theorem rk_fcks_ok {base : Nat} {ad adV : Nat → Nat} {s : State} {args : Array Value} {Ts : List Jvm.Cond} (hT : ∀ w ∈ rk_tbl, w ∈ Ts) (hts : ∀ w ∈ Ts, w.before args s = true) (hN : rk_NU base ad adV s) {own : String} : ∀ (l : List (Nat × Nat × Nat × Nat)) (m : List (Nat × Bool)), rk_fcks own l m = true → ∀ q ∈ l, rk_F1 s args Ts own q
  | [], _, _ => fun _ h => absurd h List.not_mem_nil
  | q :: l, p :: m, h => by
    unfold rk_fcks at h
    rw [Bool.and_eq_true] at h
    exact List.forall_mem_cons.mpr ⟨rk_fck_ok hT hts hN h.1, rk_fcks_ok hT hts hN l m h.2⟩
  | _ :: _, [], h => by cases h
/-- a call's words but its code: the places of initialized, of the link, of static or instanceMethod, of selects -/
def rk_mck (own : String) (idx : Nat) (M : rk_Mt) (n cr : Nat) (p1 : Nat) (p2 : Nat × Bool) (p3 p4 : Nat) : Bool :=
  rk_tat (.initialized M.1.cls) p1 && !decide (M.1.cls = "java/lang/invoke/MethodHandle") && !decide (M.1.cls = "java/lang/invoke/VarHandle") &&
  (if p2.2 then decide (rk_nm[p2.1]? = some (own, idx, M.1, "SpaceLinks")) else rk_tat (.methodLink own idx M.1) p2.1) &&
  (match cr with
   | 0 => rk_tat (.static M.1) p3 && decide ((parseMethodDescriptor M.1.desc).map (fun d => d.parameters.length) = some n)
   | ci + 1 => rk_tat (.instanceMethod M.1) p3 && rk_tat (.selects M.1.cls M.1 M.1) p4 && decide ((vwCl[ci]?).map (fun q => q.1) = some M.1.cls) && Nat.ble 1 n && decide ((parseMethodDescriptor M.1.desc).map (fun d => d.parameters.length) = some (n - 1)))
theorem rk_mck_ok {base : Nat} {ad adV : Nat → Nat} {s : State} {args : Array Value} {Ts : List Jvm.Cond} (hT : ∀ w ∈ rk_tbl, w ∈ Ts) (hts : ∀ w ∈ Ts, w.before args s = true) (hN : rk_NU base ad adV s) {own : String} {idx : Nat} {M : rk_Mt} {n cr p1 : Nat} {p2 : Nat × Bool} {p3 p4 : Nat} (hc : Jvm.Cond.code M.1 M.2.1 M.2.2.1 M.2.2.2.1 ∈ rk_tbl) (h : rk_mck own idx M n cr p1 p2 p3 p4 = true) : rk_M1 s args own idx M n cr := by
  unfold rk_mck at h
  simp only [Bool.and_eq_true] at h
  obtain ⟨⟨⟨⟨h1, h2⟩, h3⟩, h4⟩, h5⟩ := h
  have use : ∀ {w : Jvm.Cond} {i : Nat}, rk_tat w i = true → w.before args s = true := fun h => hts _ (hT _ (rk_tat_ok h))
  refine ⟨hc, use h1, ⟨by simpa using h2, by simpa using h3⟩, ?_, ?_, ?_⟩
  · split at h4
    · exact Or.inr ⟨"SpaceLinks", hN.1.2 _ (List.mem_of_getElem? (of_decide_eq_true h4))⟩
    · exact Or.inl (use h4)
  · intro hr
    subst hr
    dsimp only at h5
    rw [Bool.and_eq_true] at h5
    exact ⟨use h5.1, of_decide_eq_true h5.2⟩
  · intro ci hr
    subst hr
    dsimp only at h5
    simp only [Bool.and_eq_true] at h5
    obtain ⟨⟨⟨⟨g1, g2⟩, g3⟩, g4⟩, g5⟩ := h5
    have g3 := of_decide_eq_true g3
    rw [Nat.ble_eq] at g4
    refine ⟨use g1, use g2, ?_, n - 1, by omega, of_decide_eq_true g5⟩
    cases hq : vwCl[ci]? with
    | none => rw [hq] at g3; cases g3
    | some q => rw [hq] at g3; exact ⟨q, rfl, by simpa using g3⟩
