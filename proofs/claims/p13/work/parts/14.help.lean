/-! tables out of lists -/
abbrev rk_Ent : Type := Nat × List rk_AV × List rk_Alt × Int × Nat
def rk_les : List rk_AV → List rk_AV → Bool
  | [], [] => true
  | a :: l, b :: m => rk_le a b && rk_les l m
  | _, _ => false
theorem rk_les_ok {G : Nat → Option Nat} {X : Int} (hX : 0 ≤ X) : ∀ (a b : List rk_AV) (av : List Value), rk_les a b = true → rk_all G X a av → rk_all G X b av
  | [], [], av, _, h => h
  | a :: l, b :: m, av, h, ha => by
    unfold rk_les at h
    rw [Bool.and_eq_true] at h
    cases av with
    | nil => exact absurd ha.1 (by simp)
    | cons v vs =>
      have ih := rk_les_ok hX l m vs h.2 ⟨by have := ha.1; simpa using this, fun i t w ht hw => ha.2 (i + 1) t w (by rw [List.getElem?_cons_succ]; exact ht) (by rw [List.getElem?_cons_succ]; exact hw)⟩
      refine ⟨by simp [ih.1], fun i t w ht hw => ?_⟩
      rcases i with _ | i
      · simp only [List.getElem?_cons_zero, Option.some.injEq] at ht hw
        subst ht hw
        exact rk_le_ok hX h.1 (ha.2 0 a v rfl rfl)
      · rw [List.getElem?_cons_succ] at ht hw
        exact ih.2 i t w ht hw
  | [], _ :: _, _, h, _ => by simp [rk_les] at h
  | _ :: _, [], _, h, _ => by simp [rk_les] at h
def rk_look : List rk_Ent → Nat → List rk_AV → Option (List rk_Alt × Int × Nat)
  | [], _, _ => none
  | q :: l, z, avs => if Nat.beq q.1 z && rk_les avs q.2.1 then some q.2.2 else rk_look l z avs
theorem rk_look_ok {base : Nat} {l : Launch} {K : Nat → rk_KD} {E : Nat → Nat → rk_AV} {tys : List (ClassId × FieldType)} {D : va_G} {NU : State → Prop} {Lv : rk_Lvt} {Pw : rk_Pwt} {mt : Nat → rk_Mt} : ∀ (es : List rk_Ent), (∀ q ∈ es, rk_Met base l K E tys D NU Lv Pw (mt q.1) q.2.1 q.2.2.1 q.2.2.2.1 q.2.2.2.2) → ∀ z avs alts C pu, rk_look es z avs = some (alts, C, pu) → rk_Met base l K E tys D NU Lv Pw (mt z) avs alts C pu
  | [], _, z, avs, alts, C, pu, h => by cases h
  | q :: es, hq, z, avs, alts, C, pu, h => by
    unfold rk_look at h
    split at h
    · rename_i hc
      rw [Bool.and_eq_true, Nat.beq_eq] at hc
      have h1 := hq q List.mem_cons_self
      obtain ⟨z', ps, alts', C', pu'⟩ := q
      dsimp only at hc h h1
      obtain ⟨rfl, hle⟩ := hc
      cases h
      intro G X L f av sz hX hXC hall
      exact h1 G X L f av sz hX hXC (rk_les_ok hX _ _ _ hle hall)
    · exact rk_look_ok es (fun p hp => hq p (List.mem_cons_of_mem _ hp)) z avs alts C pu h
def rk_flf : List (Nat × Nat × Nat × Nat) → rk_Fl
  | [], _ => none
  | q :: l, i => if Nat.beq q.1 i then some q.2 else rk_flf l i
theorem rk_flf_ok {i : Nat} {w : Nat × Nat × Nat} : ∀ l : List (Nat × Nat × Nat × Nat), rk_flf l i = some w → (i, w) ∈ l
  | [], h => by cases h
  | q :: l, h => by
    unfold rk_flf at h
    split at h
    · rename_i hq
      rw [Nat.beq_eq] at hq
      cases h
      subst hq
      exact List.mem_cons_self
    · exact List.mem_cons_of_mem _ (rk_flf_ok l h)
def rk_F1 (s : State) (args : Array Value) (Ts : List Jvm.Cond) (own : String) (q : Nat × Nat × Nat × Nat) : Prop := ∃ (C : String) (T : u_T) (N : Nat) (ty0 : Nat → FieldType), vwCl[q.2.1]? = some (C, T, N) ∧ q.2.2.1 < N ∧ (∀ z ∈ u_ws C T N, z ∈ Ts) ∧ (∀ j, j < N → parseFieldDescriptor (T j).2.2.1 = some (ty0 j)) ∧ (∀ a, a < N → ∀ b, b < N → a ≠ b → (T a).2.1 ≠ (T b).2.1) ∧
  ((Jvm.Cond.fieldLink own q.1 (T q.2.2.1).1 (T q.2.2.1).2.1 (T q.2.2.1).2.2.1).before args s = true ∨ ∃ host : String, (Jvm.Cond.fieldLinkNest own q.1 (T q.2.2.1).1 (T q.2.2.1).2.1 (T q.2.2.1).2.2.1 host).before args s = true) ∧
  (q.2.2.2 < 3 → (T q.2.2.1).2.2.2 = false) ∧ (q.2.2.2 = 0 → ty0 q.2.2.1 = .int) ∧ (q.2.2.2 = 1 → ty0 q.2.2.1 = .boolean) ∧ (q.2.2.2 = 2 → ∃ n, ty0 q.2.2.1 = .object n)
theorem rk_FlOk_of {s : State} {args : Array Value} {Ts : List Jvm.Cond} {own : String} {tbl : List (Nat × Nat × Nat × Nat)} (h : ∀ q ∈ tbl, rk_F1 s args Ts own q) : rk_FlOk s args Ts own (rk_flf tbl) := fun idx ci k w hi => h (idx, ci, k, w) (rk_flf_ok tbl hi)
def rk_mlf : List (Nat × Nat × Nat × Nat) → rk_Ml := rk_flf
def rk_mt (l : List rk_Mt) (z : Nat) : rk_Mt := l.getD z (⟨"", "", ""⟩, ⟨#[]⟩, 0, none, 0, 0)
/-- a call's words, but its room -/
def rk_M1 (s : State) (args : Array Value) (own : String) (idx : Nat) (M : rk_Mt) (n cr : Nat) : Prop := Jvm.Cond.code M.1 M.2.1 M.2.2.1 M.2.2.2.1 ∈ rk_tbl ∧ (Jvm.Cond.initialized M.1.cls).before args s = true ∧ (M.1.cls ≠ "java/lang/invoke/MethodHandle" ∧ M.1.cls ≠ "java/lang/invoke/VarHandle") ∧
  ((Jvm.Cond.methodLink own idx M.1).before args s = true ∨ ∃ host : String, va_Nw (.methodLinkNest own idx M.1 host) s) ∧
  (cr = 0 → (Jvm.Cond.static M.1).before args s = true ∧ (parseMethodDescriptor M.1.desc).map (fun d => d.parameters.length) = some n) ∧
  (∀ ci, cr = ci + 1 → (Jvm.Cond.instanceMethod M.1).before args s = true ∧ (Jvm.Cond.selects M.1.cls M.1 M.1).before args s = true ∧ (∃ q, vwCl[ci]? = some q ∧ q.1 = M.1.cls) ∧ ∃ k, n = k + 1 ∧ (parseMethodDescriptor M.1.desc).map (fun d => d.parameters.length) = some k)
def rk_roomOk (fr lc : Nat) (mt : Nat → rk_Mt) (tbl : List (Nat × Nat × Nat × Nat)) : Bool := tbl.all (fun q => Nat.ble ((mt q.2.1).2.2.2.2.1 + 1) fr && Nat.ble (8 + ((mt q.2.1).2.2.1 + 11) + (mt q.2.1).2.2.2.2.2) lc)
theorem rk_MlOk_of {s : State} {args : Array Value} {fr lc : Nat} {own : String} {mt : Nat → rk_Mt} {tbl : List (Nat × Nat × Nat × Nat)} (h : ∀ q ∈ tbl, rk_M1 s args own q.1 (mt q.2.1) q.2.2.1 q.2.2.2) (hr : rk_roomOk fr lc mt tbl = true) : rk_MlOk s args { frames := fr, cells := 0, slots := 0, locals := lc } own mt (rk_mlf tbl) := by
  intro idx z n cr hi
  have hm := rk_flf_ok tbl hi
  obtain ⟨h1, h2, h3, h4, h5, h6⟩ := h _ hm
  have h7 := List.all_eq_true.mp hr _ hm
  rw [Bool.and_eq_true, Nat.ble_eq, Nat.ble_eq] at h7
  exact ⟨h1, h2, h3, h4, h7, h5, h6⟩
def rk_csf : List (Nat × Int32) → Nat → Option Int32
  | [], _ => none
  | q :: l, i => if Nat.beq q.1 i then some q.2 else rk_csf l i
theorem rk_csf_ok {i : Nat} {v : Int32} : ∀ l : List (Nat × Int32), rk_csf l i = some v → (i, v) ∈ l
  | [], h => by cases h
  | q :: l, h => by
    unfold rk_csf at h
    split at h
    · rename_i hq
      rw [Nat.beq_eq] at hq
      cases h
      subst hq
      exact List.mem_cons_self
    · exact List.mem_cons_of_mem _ (rk_csf_ok l h)
def rk_ssf : List (Nat × Nat) → Nat → Option Nat := rk_lk
def rk_acf (a m : List Nat) (i : Nat) : Nat := if a.any (fun x => Nat.beq x i) then 1 else if m.any (fun x => Nat.beq x i) then 2 else 0
theorem rk_acf_ok {a m : List Nat} {P Q : Nat → Prop} (ha : ∀ i ∈ a, P i) (hm : ∀ i ∈ m, Q i) : ∀ idx, (rk_acf a m idx = 1 → P idx) ∧ (rk_acf a m idx = 2 → Q idx) := by
  intro idx
  have inl : ∀ l : List Nat, l.any (fun x => Nat.beq x idx) = true → idx ∈ l := by
    intro l h
    obtain ⟨x, h1, h2⟩ := List.any_eq_true.mp h
    rw [Nat.beq_eq] at h2
    exact h2 ▸ h1
  unfold rk_acf
  split
  · rename_i h
    exact ⟨fun _ => ha _ (inl _ h), fun h => absurd h (by decide)⟩
  · split
    · rename_i h
      exact ⟨fun h => absurd h (by decide), fun _ => hm _ (inl _ h)⟩
    · exact ⟨fun h => absurd h (by decide), fun h => absurd h (by decide)⟩
theorem rk_in_tbl (i : Nat) {w : Jvm.Cond} (h : lw_tbl[i]? = some w) (hg : goodWord w = true) : w ∈ rk_tbl := List.mem_filter.mpr ⟨List.mem_of_getElem? h, hg⟩
theorem rk_wk {base : Nat} {l : Launch} {K : Nat → rk_KD} {E : Nat → Nat → rk_AV} {tys : List (ClassId × FieldType)} {D : va_G} {NU : State → Prop} {Lv : rk_Lvt} {Pw : rk_Pwt} {M : rk_Mt} {avs : List rk_AV} {alts : List rk_Alt} {C : Int} {lv : Nat} (h : rk_Met base l K E tys D NU Lv (fun _ _ => True) M avs alts C lv) : rk_Met base l K E tys D NU Lv Pw M avs alts C lv := fun G X L f av sz h1 h2 h3 h4 _ h5 h6 => h G X L f av sz h1 h2 h3 h4 trivial h5 h6
