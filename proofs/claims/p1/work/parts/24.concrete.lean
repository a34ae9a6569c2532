/-! constructors: a run over known things -/
/-- (0, n): the number n; (1, i): the i-th thing; (2, _): null -/
abbrev rc_V : Type := Nat × Int
/-- (0, class, fields); (1, n, _): n zeros; (2, array class, places) -/
abbrev rc_O : Type := Nat × Nat × List rc_V
def rc_val (ad : Nat → Nat) (v : rc_V) : Value := match v with
  | (0, n) => .int (Int32.ofInt n)
  | (1, i) => .ref (ad i.toNat)
  | _ => .null
def rc_ref (ad : Nat → Nat) (v : rc_V) : Option Nat := match v with
  | (1, i) => some (ad i.toNat)
  | _ => none
def rc_E (tys : List (ClassId × FieldType)) (ad : Nat → Nat) (o : rc_O) : va_E := match o with
  | (0, ci, fs) => .inr (ci, fs.map (rc_val ad))
  | (1, n, _) => .inl ((tys.getD 0 (0, .int)).1, n, .inl (fun _ => 0))
  | (_, t0, es) => .inl ((tys.getD t0 (0, .int)).1, es.length, .inr (.inr (.inr (.inr (fun i => rc_ref ad (es.getD i (2, 0)))))))
def rc_vok (n : Nat) (v : rc_V) : Prop := v.1 = 1 → v.2.toNat < n
def rc_ook (n : Nat) (o : rc_O) : Prop := ∀ v ∈ o.2.2, rc_vok n v
theorem rc_vok_le {n k : Nat} (h : n ≤ k) {v : rc_V} (hv : rc_vok n v) : rc_vok k v := fun h1 => Nat.lt_of_lt_of_le (hv h1) h
theorem rc_val_ext {n : Nat} {ad ad' : Nat → Nat} (h : ∀ i, i < n → ad' i = ad i) {v : rc_V} (hv : rc_vok n v) : rc_val ad' v = rc_val ad v := by
  obtain ⟨t, x⟩ := v
  rcases t with _ | _ | t
  · rfl
  · show Value.ref (ad' x.toNat) = .ref (ad x.toNat)
    rw [h _ (hv rfl)]
  · rfl
theorem rc_ref_ext {n : Nat} {ad ad' : Nat → Nat} (h : ∀ i, i < n → ad' i = ad i) {v : rc_V} (hv : rc_vok n v) : rc_ref ad' v = rc_ref ad v := by
  obtain ⟨t, x⟩ := v
  rcases t with _ | _ | t
  · rfl
  · show some (ad' x.toNat) = some (ad x.toNat)
    rw [h _ (hv rfl)]
  · rfl
theorem rc_val_cat (ad : Nat → Nat) (v : rc_V) : (rc_val ad v).category = 1 := by
  obtain ⟨t, x⟩ := v
  rcases t with _ | _ | t <;> rfl
theorem rc_E_ext {tys : List (ClassId × FieldType)} {n : Nat} {ad ad' : Nat → Nat} (h : ∀ i, i < n → ad' i = ad i) {o : rc_O} (ho : rc_ook n o) : rc_E tys ad' o = rc_E tys ad o := by
  obtain ⟨t, ci, fs⟩ := o
  rcases t with _ | _ | t
  · show Sum.inr (ci, fs.map (rc_val ad')) = Sum.inr (ci, fs.map (rc_val ad))
    rw [List.map_congr_left (fun v hv => rc_val_ext h (ho v hv))]
  · rfl
  · have e : (fun i => rc_ref ad' (fs.getD i (2, 0))) = fun i => rc_ref ad (fs.getD i (2, 0)) := by
      funext i
      refine rc_ref_ext h ?_
      by_cases hi : i < fs.length
      · have hm : fs.getD i (2, 0) ∈ fs := by
          rw [List.getD_eq_getElem?_getD, List.getElem?_eq_getElem hi]
          exact List.getElem_mem hi
        exact ho _ hm
      · rw [List.getD_eq_getElem?_getD, List.getElem?_eq_none (by omega)]
        intro h1
        cases h1
    show Sum.inl ((tys.getD ci (0, .int)).1, fs.length, Sum.inr (Sum.inr (Sum.inr (Sum.inr (fun i => rc_ref ad' (fs.getD i (2, 0))))))) = Sum.inl ((tys.getD ci (0, .int)).1, fs.length, Sum.inr (Sum.inr (Sum.inr (Sum.inr (fun i => rc_ref ad (fs.getD i (2, 0)))))))
    rw [e]
/-- the world: the things made, where they lie, all cells -/
def rc_w (tys : List (ClassId × FieldType)) (D : va_G) (A : Nat → Prop) (H0 : Heap) (os : List rc_O) (ad : Nat → Nat) (L : List Nat) (f : Nat → va_E) (H : Heap) (locs : List Loc) : Prop :=
  va_P D vwCl (va_pl L f) H ∧ va_D A (va_pl L f) ∧ va_S A H0 H locs ∧ (∀ i o, os[i]? = some o → ad i ∈ L ∧ f (ad i) = rc_E tys ad o) ∧ (∀ i j, i < os.length → j < os.length → ad i = ad j → i = j) ∧ ∀ o ∈ os, rc_ook os.length o
/-- what stays of the entry's world -/
def rc_fr (n0 : Nat) (ad0 : Nat → Nat) (L0 : List Nat) (f0 : Nat → va_E) (n : Nat) (ad : Nat → Nat) (L : List Nat) (f : Nat → va_E) : Prop :=
  n0 ≤ n ∧ (∀ i, i < n0 → ad i = ad0 i) ∧ (∀ a ∈ L0, a ∈ L) ∧ (∀ i, n0 ≤ i → i < n → ad i ∉ L0) ∧ (∀ a ∈ L0, (∀ i, i < n0 → a ≠ ad0 i) → f a = f0 a) ∧ ∀ a ∈ L, a ∈ L0 ∨ ∃ i, n0 ≤ i ∧ i < n ∧ a = ad i
theorem rc_fr_rf {n : Nat} {ad : Nat → Nat} {L : List Nat} {f : Nat → va_E} : rc_fr n ad L f n ad L f := ⟨Nat.le_refl _, fun _ _ => rfl, fun _ h => h, fun i h1 h2 => absurd h2 (by omega), fun _ _ _ => rfl, fun a h => Or.inl h⟩
theorem rc_fr_tr {n0 n1 n2 : Nat} {ad0 ad1 ad2 : Nat → Nat} {L0 L1 L2 : List Nat} {f0 f1 f2 : Nat → va_E} (h1 : rc_fr n0 ad0 L0 f0 n1 ad1 L1 f1) (h2 : rc_fr n1 ad1 L1 f1 n2 ad2 L2 f2) : rc_fr n0 ad0 L0 f0 n2 ad2 L2 f2 := by
  obtain ⟨a1, a2, a3, a4, a5, a6⟩ := h1
  obtain ⟨b1, b2, b3, b4, b5, b6⟩ := h2
  refine ⟨by omega, fun i hi => (b2 i (by omega)).trans (a2 i hi), fun a ha => b3 a (a3 a ha), fun i h1 h2 hm => ?_, fun a ha hn => ?_, fun a ha => ?_⟩
  · by_cases hi : i < n1
    · rw [b2 i hi] at hm
      exact a4 i h1 hi hm
    · exact b4 i (by omega) h2 (a3 _ hm)
  · rw [b5 a (a3 a ha) (fun i hi e => ?_), a5 a ha hn]
    by_cases h0 : i < n0
    · exact hn i h0 (e.trans (a2 i h0))
    · exact a4 i (by omega) hi (e ▸ ha)
  · rcases b6 a ha with h | ⟨i, i1, i2, i3⟩
    · rcases a6 a h with h | ⟨i, i1, i2, i3⟩
      · exact Or.inl h
      · exact Or.inr ⟨i, i1, by omega, by rw [b2 i i2]; exact i3⟩
    · exact Or.inr ⟨i, by omega, i2, i3⟩
theorem rc_at {tys : List (ClassId × FieldType)} {D : va_G} {A : Nat → Prop} {H0 : Heap} {os : List rc_O} {ad : Nat → Nat} {L : List Nat} {f : Nat → va_E} {H : Heap} {locs : List Loc} (hw : rc_w tys D A H0 os ad L f H locs) {i : Nat} {o : rc_O} (ho : os[i]? = some o) : ad i ∈ L ∧ f (ad i) = rc_E tys ad o ∧ ∃ k : Nat, (va_pl L f)[k]? = some (ad i, f (ad i)) := by
  obtain ⟨h1, h2⟩ := hw.2.2.2.1 i o ho
  obtain ⟨k, hk⟩ := va_pl_get (X := []) (f := f) h1
  exact ⟨h1, h2, k, hk⟩
/-- one thing changed -/
theorem rc_up {tys : List (ClassId × FieldType)} {D : va_G} {A : Nat → Prop} {H0 : Heap} {os : List rc_O} {ad : Nat → Nat} {L : List Nat} {f : Nat → va_E} {H : Heap} {locs : List Loc} (hw : rc_w tys D A H0 os ad L f H locs) {i : Nat} {o o' : rc_O} (ho : os[i]? = some o) (hok : rc_ook os.length o') {k : Nat} (hk : (va_pl L f)[k]? = some (ad i, f (ad i))) {H1 : Heap} {locs1 : List Loc} (hP : va_P D vwCl ((va_pl L f).set k (ad i, rc_E tys ad o')) H1) (hD : va_D A ((va_pl L f).set k (ad i, rc_E tys ad o'))) (hS : va_S A H0 H1 locs1) : rc_w tys D A H0 (os.set i o') ad L (va_up f (ad i) (rc_E tys ad o')) H1 locs1 := by
  obtain ⟨w1, w2, w3, w4, w5, w6⟩ := hw
  have hi : i < os.length := (List.getElem?_eq_some_iff.mp ho).1
  have e : (va_pl L f).set k (ad i, rc_E tys ad o') = va_pl L (va_up f (ad i) (rc_E tys ad o')) := va_pl_set (X := []) w2 (w4 i o ho).1 hk
  rw [e] at hP hD
  refine ⟨hP, hD, hS, fun j oj hj => ?_, by rw [List.length_set]; exact w5, fun x hx => ?_⟩
  · by_cases hji : j = i
    · subst hji
      rw [List.getElem?_set_self hi] at hj
      cases hj
      exact ⟨(w4 j o ho).1, va_up_self _ _ _⟩
    · rw [List.getElem?_set_ne (Ne.symm hji)] at hj
      have hjl : j < os.length := (List.getElem?_eq_some_iff.mp hj).1
      refine ⟨(w4 j oj hj).1, ?_⟩
      rw [va_up_ne _ _ (fun h => hji (w5 j i hjl hi h))]
      exact (w4 j oj hj).2
  · rw [List.length_set]
    rcases List.mem_or_eq_of_mem_set hx with h | h
    · exact w6 x h
    · exact h ▸ hok
/-- one thing more -/
theorem rc_new {tys : List (ClassId × FieldType)} {D : va_G} {A : Nat → Prop} {H0 : Heap} {os : List rc_O} {ad : Nat → Nat} {L : List Nat} {f : Nat → va_E} {H : Heap} {locs : List Loc} (hw : rc_w tys D A H0 os ad L f H locs) {o' : rc_O} (hok : rc_ook os.length o') {q : Nat} {H1 : Heap} (hP : va_P D vwCl (va_pl L f ++ [(q, rc_E tys ad o')]) H1) (hD : va_D A (va_pl L f ++ [(q, rc_E tys ad o')])) (hS : va_S A H0 H1 locs) : q ∉ L ∧ rc_w tys D A H0 (os ++ [o']) (va_up ad os.length q) (L ++ [q]) (va_up f q (rc_E tys ad o')) H1 locs := by
  obtain ⟨w1, w2, w3, w4, w5, w6⟩ := hw
  have hq : q ∉ L := by
    intro hq
    obtain ⟨k, hk⟩ := va_pl_get (X := []) (f := f) hq
    have hk : (va_pl L f)[k]? = some (q, f q) := hk
    have hl := (List.getElem?_eq_some_iff.mp hk).1
    have := hD.1 k (va_pl L f).length (q, f q) (q, rc_E tys ad o') (by rw [List.getElem?_append_left hl]; exact hk) (by simp) rfl
    omega
  have e := va_pl_push (f := f) (e := rc_E tys ad o') hq
  rw [e] at hP hD
  have hext : ∀ i, i < os.length → va_up ad os.length q i = ad i := fun i hi => va_up_ne _ _ (by omega)
  refine ⟨hq, hP, hD, hS, fun j oj hj => ?_, fun i j hi hj hij => ?_, fun x hx => ?_⟩
  · by_cases hjl : j < os.length
    · rw [List.getElem?_append_left hjl] at hj
      obtain ⟨h1, h2⟩ := w4 j oj hj
      rw [hext j hjl, rc_E_ext hext (w6 oj (List.mem_of_getElem? hj)), va_up_ne (j := ad j) (k := q) _ _ (fun h => hq (by rw [← h]; exact h1))]
      exact ⟨List.mem_append_left _ h1, h2⟩
    · have hjj : j < (os ++ [o']).length := (List.getElem?_eq_some_iff.mp hj).1
      rw [List.length_append, List.length_singleton] at hjj
      have : j = os.length := by omega
      subst this
      rw [List.getElem?_append_right (Nat.le_refl _), Nat.sub_self] at hj
      cases hj
      rw [va_up_self, rc_E_ext hext hok, va_up_self]
      exact ⟨List.mem_append_right _ (List.mem_singleton.mpr rfl), rfl⟩
  · rw [List.length_append, List.length_singleton] at hi hj
    by_cases h1 : i < os.length
    · by_cases h2 : j < os.length
      · rw [hext i h1, hext j h2] at hij
        exact w5 i j h1 h2 hij
      · have : j = os.length := by omega
        subst this
        rw [hext i h1, va_up_self] at hij
        have := (w4 i _ (List.getElem?_eq_getElem h1)).1
        exact absurd (hij ▸ this) hq
    · have : i = os.length := by omega
      subst this
      by_cases h2 : j < os.length
      · rw [hext j h2, va_up_self] at hij
        have := (w4 j _ (List.getElem?_eq_getElem h2)).1
        exact absurd (hij ▸ this) hq
      · omega
  · rw [List.length_append, List.length_singleton]
    rcases List.mem_append.mp hx with h | h
    · exact fun v hv => rc_vok_le (by omega) (w6 x h v hv)
    · rw [List.mem_singleton.mp h]
      exact fun v hv => rc_vok_le (by omega) (hok v hv)
theorem rc_fr_up {n0 n : Nat} {ad0 ad : Nat → Nat} {L0 L : List Nat} {f0 f : Nat → va_E} (h : rc_fr n0 ad0 L0 f0 n ad L f) {i : Nat} (hi : i < n) (e : va_E) : rc_fr n0 ad0 L0 f0 n ad L (va_up f (ad i) e) := by
  obtain ⟨a1, a2, a3, a4, a5, a6⟩ := h
  refine ⟨a1, a2, a3, a4, fun a ha hn => ?_, a6⟩
  rw [va_up_ne _ _ (fun h => ?_), a5 a ha hn]
  by_cases h0 : i < n0
  · exact hn i h0 (h.trans (a2 i h0))
  · exact a4 i (by omega) hi (h ▸ ha)
theorem rc_fr_new {n0 n : Nat} {ad0 ad : Nat → Nat} {L0 L : List Nat} {f0 f : Nat → va_E} (h : rc_fr n0 ad0 L0 f0 n ad L f) {q : Nat} (hq : q ∉ L) (e : va_E) : rc_fr n0 ad0 L0 f0 (n + 1) (va_up ad n q) (L ++ [q]) (va_up f q e) := by
  obtain ⟨a1, a2, a3, a4, a5, a6⟩ := h
  refine ⟨by omega, fun i hi => ?_, fun a ha => List.mem_append_left _ (a3 a ha), fun i h1 h2 hm => ?_, fun a ha hn => ?_, fun a ha => ?_⟩
  · rw [va_up_ne _ _ (by omega)]
    exact a2 i hi
  · by_cases hi : i = n
    · subst hi
      rw [va_up_self] at hm
      exact hq (a3 _ hm)
    · rw [va_up_ne _ _ hi] at hm
      exact a4 i h1 (by omega) hm
  · rw [va_up_ne (j := a) (k := q) _ _ (fun h => hq (by rw [← h]; exact a3 a ha))]
    exact a5 a ha hn
  · rcases List.mem_append.mp ha with h | h
    · rcases a6 a h with h | ⟨i, i1, i2, i3⟩
      · exact Or.inl h
      · exact Or.inr ⟨i, i1, by omega, by rw [va_up_ne _ _ (by omega)]; exact i3⟩
    · exact Or.inr ⟨n, a1, by omega, by rw [List.mem_singleton.mp h, va_up_self]⟩
