/-! straight rows run by computation: a goal at a place of the code becomes the goals where it stops -/
abbrev rv_T : Type := Lean.RArray (Nat × Instr × Nat)
noncomputable def rv_g {α : Type} (t : Lean.RArray α) : Nat → α :=
  @Lean.RArray.rec α (fun _ => Nat → α) (fun x _ => x) (fun _ _ _ gl gr i => @Bool.rec (fun _ => α) (gr (Nat.div i 2)) (gl (Nat.div i 2)) (Nat.beq (Nat.mod i 2) 0)) t
def rv_lvs {α : Type} : Lean.RArray α → List α
  | .leaf x => [x]
  | .branch _ l r => rv_lvs l ++ rv_lvs r
theorem rv_lvsE {α : Type} : ∀ (t : Lean.RArray α) (i : Nat), rv_g t i ∈ rv_lvs t
  | .leaf x, i => List.mem_singleton.mpr rfl
  | .branch _ l r, i => by
    show @Bool.rec (fun _ => α) (rv_g r (Nat.div i 2)) (rv_g l (Nat.div i 2)) (Nat.beq (Nat.mod i 2) 0) ∈ rv_lvs l ++ rv_lvs r
    cases Nat.beq (Nat.mod i 2) 0
    · exact List.mem_append_right _ (rv_lvsE r _)
    · exact List.mem_append_left _ (rv_lvsE l _)
/-- each row of a table (but the empty ones, at place 99999) is what the code has there -/
def rv_tok (cc : ByteArray) (T : rv_T) : Bool := (rv_lvs T).all (fun q => Nat.beq q.1 99999 || decide (decode cc q.1 = .ok q.2))
theorem rv_tokE {cc : ByteArray} {T : rv_T} (h : rv_tok cc T = true) {pc : Nat} {ins : Instr} {len : Nat} (hg : rv_g T pc = (pc, ins, len)) (h9 : Nat.beq pc 99999 = false) : decode cc pc = .ok (ins, len) := by
  have h1 := List.all_eq_true.mp h _ (rv_lvsE T pc)
  rw [hg] at h1
  simp only [h9, Bool.false_or, decide_eq_true_eq] at h1
  exact h1
def rv_lk : List (Nat × Value) → Nat → Value
  | [], _ => .null
  | q :: l, i => match Nat.beq q.1 i with
    | true => q.2
    | false => rv_lk l i
theorem rv_lkE {i : Nat} : ∀ lo : List (Nat × Value), rv_lk lo i ≠ .null → (i, rv_lk lo i) ∈ lo
  | [], h => absurd rfl h
  | q :: l, h => by
    unfold rv_lk at h ⊢
    cases hq : Nat.beq q.1 i with
    | true =>
      rw [hq] at h
      have : q.1 = i := Nat.eq_of_beq_eq_true hq
      subst this
      exact List.mem_cons_self
    | false =>
      rw [hq] at h
      exact List.mem_cons_of_mem _ (rv_lkE l h)
/-- a local is set -/
def rv_up (lo : List (Nat × Value)) (i : Nat) (v : Value) : List (Nat × Value) := match lo with
  | [] => [(i, v)]
  | q :: l => match Nat.beq q.1 i with
    | true => (i, v) :: l
    | false => q :: rv_up l i v
def rv_dup (lo : List (Nat × Value)) : Bool := match lo with
  | [] => true
  | q :: l => !(l.any (fun z => Nat.beq z.1 q.1)) && (Nat.beq q.2.category 1 && rv_dup l)
theorem rv_dup_cat : ∀ lo : List (Nat × Value), rv_dup lo = true → ∀ q ∈ lo, q.2.category = 1
  | [], _, q, hq => absurd hq List.not_mem_nil
  | z :: l, h, q, hq => by
    unfold rv_dup at h
    rw [Bool.and_eq_true, Bool.and_eq_true] at h
    rcases List.mem_cons.mp hq with rfl | hq
    · exact Nat.eq_of_beq_eq_true h.2.1
    · exact rv_dup_cat l h.2.2 q hq
def rv_c (cd : ClassFile.Cond) (x y : Int) : Prop := match cd with
  | .eq => x = y
  | .ne => ¬ x = y
  | .lt => x < y
  | .ge => y ≤ x
  | .gt => y < x
  | .le => x ≤ y
def rv_n (cd : ClassFile.Cond) (x y : Int) : Prop := match cd with
  | .eq => ¬ x = y
  | .ne => x = y
  | .lt => y ≤ x
  | .ge => x < y
  | .gt => x ≤ y
  | .le => y < x
theorem rv_cE (cd : ClassFile.Cond) (x y : Int) : (rk_rel (rk_ct cd) x y → rv_c cd x y) ∧ (rk_rel (rk_cn cd) x y → rv_n cd x y) := by
  cases cd <;> exact ⟨fun h => h, fun h => h⟩
/-- one instruction; k: what is wanted behind it; z: what is wanted here, where it isn't a straight one -/
def rv_1 (nL pc : Nat) (ins : Instr) (len : Nat) (sk : List Value) (lo : List (Nat × Value)) (k : Nat → List Value → List (Nat × Value) → Prop) (z : Prop) : Prop := match ins with
  | .iconst n => k (pc + 1) (.int (Int32.ofInt n) :: sk) lo
  | .bipush n => k (pc + 2) (.int (Int8.ofInt n).toInt32 :: sk) lo
  | .sipush n => k (pc + 3) (.int (Int16.ofInt n).toInt32 :: sk) lo
  | .iload i => (match rv_lk lo i with
    | .int x => k (pc + 2) (.int x :: sk) lo
    | _ => z)
  | .iload_n i => (match rv_lk lo i.val with
    | .int x => k (pc + 1) (.int x :: sk) lo
    | _ => z)
  | .aload i => (match rv_lk lo i with
    | .ref x => k (pc + 2) (.ref x :: sk) lo
    | _ => z)
  | .aload_n i => (match rv_lk lo i.val with
    | .ref x => k (pc + 1) (.ref x :: sk) lo
    | _ => z)
  | .istore i => (match sk with
    | .int x :: sk => (match Nat.blt i nL && rv_dup lo with
      | true => k (pc + 2) sk (rv_up lo i (.int x))
      | false => z)
    | _ => z)
  | .istore_n i => (match sk with
    | .int x :: sk => (match Nat.blt i.val nL && rv_dup lo with
      | true => k (pc + 1) sk (rv_up lo i.val (.int x))
      | false => z)
    | _ => z)
  | .iinc i n => (match rv_lk lo i with
    | .int x => (match Nat.blt i nL && rv_dup lo with
      | true => k (pc + 3) sk (rv_up lo i (.int (x + Int32.ofInt n)))
      | false => z)
    | _ => z)
  | .iadd => (match sk with
    | .int y :: .int x :: sk => k (pc + 1) (.int (x + y) :: sk) lo
    | _ => z)
  | .isub => (match sk with
    | .int y :: .int x :: sk => k (pc + 1) (.int (x - y) :: sk) lo
    | _ => z)
  | .imul => (match sk with
    | .int y :: .int x :: sk => k (pc + 1) (.int (x * y) :: sk) lo
    | _ => z)
  | .idiv => (match sk with
    | .int y :: .int x :: sk => ¬ y = 0 ∧ k (pc + 1) (.int (x / y) :: sk) lo
    | _ => z)
  | .irem => (match sk with
    | .int y :: .int x :: sk => ¬ y = 0 ∧ k (pc + 1) (.int (x - x / y * y) :: sk) lo
    | _ => z)
  | .ishl => (match sk with
    | .int y :: .int x :: sk => k (pc + 1) (.int (x <<< (y &&& 31)) :: sk) lo
    | _ => z)
  | .ishr => (match sk with
    | .int y :: .int x :: sk => k (pc + 1) (.int (x >>> (y &&& 31)) :: sk) lo
    | _ => z)
  | .iand => (match sk with
    | .int y :: .int x :: sk => k (pc + 1) (.int (x &&& y) :: sk) lo
    | _ => z)
  | .pop => (match sk with
    | .int _ :: sk => k (pc + 1) sk lo
    | _ => z)
  | .dup => (match sk with
    | .int x :: sk => k (pc + 1) (.int x :: .int x :: sk) lo
    | .ref x :: sk => k (pc + 1) (.ref x :: .ref x :: sk) lo
    | _ => z)
  | .goto o => (match rk_tok pc o with
    | true => k (rk_tgt pc o) sk lo
    | false => z)
  | .if_icmp cd o => (match sk with
    | .int y :: .int x :: sk => (match rk_tok pc o with
      | true => (rv_c cd x.toInt y.toInt → k (rk_tgt pc o) sk lo) ∧ (rv_n cd x.toInt y.toInt → k (pc + 3) sk lo)
      | false => z)
    | _ => z)
  | .ifCond cd o => (match sk with
    | .int x :: sk => (match rk_tok pc o with
      | true => (rv_c cd x.toInt 0 → k (rk_tgt pc o) sk lo) ∧ (rv_n cd x.toInt 0 → k (pc + 3) sk lo)
      | false => z)
    | _ => z)
  | _ => z
/-- the run: n instructions at most -/
def rv_wp (nL : Nat) (T : rv_T) (Gd : Nat → List Value → List (Nat × Value) → Prop) : Nat → Nat → List Value → List (Nat × Value) → Prop
  | 0, pc, sk, lo => Gd pc sk lo
  | n + 1, pc, sk, lo => match rv_g T pc with
    | (p1, ins, len) => match Nat.beq p1 pc && (rk_lenOk ins len && !(Nat.beq pc 99999)) with
      | true => rv_1 nL pc ins len sk lo (rv_wp nL T Gd n) (Gd pc sk lo)
      | false => Gd pc sk lo
section RV
variable {p : Program} {l : Launch} {e : Env} {R : Room} {s : State} {m : MethodId} {args : Array Value} {below : List Frame} {meth : Method} {c : Code} {H : Heap} {locs : List Loc} {cells slots : Nat} {Q : State → Prop} {cc : ByteArray} {nL : Nat}
/-- the machine at a place, with such locals and such a stack -/
def rv_G (p : Program) (l : Launch) (e : Env) (R : Room) (s : State) (m : MethodId) (args : Array Value) (below : List Frame) (meth : Method) (c : Code) (Q : State → Prop) (nL : Nat) (cells slots : Nat) (H : Heap) (locs : List Loc) (pc : Nat) (sk : List Value) (lo : List (Nat × Value)) : Prop :=
  ∀ ls : Array Slot, lv_has ls nL lo → W p l e R s m args below meth c H locs cells slots Q (F0 m pc ls sk)
theorem rv_up_mem {lo : List (Nat × Value)} {i : Nat} {v : Value} : ∀ {q : Nat × Value}, rv_dup lo = true → q ∈ rv_up lo i v → q = (i, v) ∨ (q ∈ lo ∧ q.1 ≠ i) := by
  induction lo with
  | nil =>
    intro q _ h
    exact Or.inl (List.mem_singleton.mp h)
  | cons z l ih =>
    intro q hd h
    unfold rv_dup at hd
    rw [Bool.and_eq_true, Bool.and_eq_true] at hd
    unfold rv_up at h
    cases hz : Nat.beq z.1 i with
    | true =>
      rw [hz] at h
      have hzi : z.1 = i := Nat.eq_of_beq_eq_true hz
      rcases List.mem_cons.mp h with h | h
      · exact Or.inl h
      · refine Or.inr ⟨List.mem_cons_of_mem _ h, fun e => ?_⟩
        have h1 := hd.1
        rw [Bool.not_eq_true', List.any_eq_false] at h1
        exact h1 q h (by rw [hzi, e]; exact Nat.beq_refl i)
    | false =>
      rw [hz] at h
      rcases List.mem_cons.mp h with h | h
      · subst h
        exact Or.inr ⟨List.mem_cons_self, fun e => by rw [e, Nat.beq_refl] at hz; cases hz⟩
      · rcases ih hd.2.2 h with h1 | h1
        · exact Or.inl h1
        · exact Or.inr ⟨List.mem_cons_of_mem _ h1.1, h1.2⟩
/-- locals behind a store: the list in its old order -/
theorem rv_sto {ls : Array Slot} {lo : List (Nat × Value)} {i : Nat} {x : Int32} (hd : rv_dup lo = true) (h : lv_has ls nL ((i, .int x) :: lo.filter (fun q => !(q.1 == i) && !(q.1 + 1 == i && q.2.category == 2)))) : lv_has ls nL (rv_up lo i (.int x)) := by
  refine rk_lvs h (fun q hq => ?_)
  rcases rv_up_mem hd hq with rfl | ⟨h1, h2⟩
  · exact List.mem_cons_self
  · refine List.mem_cons_of_mem _ (List.mem_filter.mpr ⟨h1, ?_⟩)
    rw [Bool.and_eq_true, Bool.not_eq_true', Bool.not_eq_true']
    refine ⟨by simpa using h2, ?_⟩
    rw [rv_dup_cat lo hd q h1]
    simp
theorem rv_loc {ls : Array Slot} {lo : List (Nat × Value)} {i : Nat} {v : Value} (h : lv_has ls nL lo) (hv : rv_lk lo i = v) (hn : v ≠ .null) : ls[i]? = some (.val v) := by
  subst hv
  exact h.2.2 _ (rv_lkE lo hn)
theorem rv_idx {lo : List (Nat × Value)} {i : Nat} {v : Value} (hv : rv_lk lo i = v) (hn : v ≠ .null) : ∃ k : Nat, lo[k]? = some (i, v) := by
  subst hv
  exact List.getElem?_of_mem (rv_lkE lo hn)
set_option maxHeartbeats 1000000 in
theorem rv_run (hx : p.tables.exec = Jvm.exec) (hb : c.code = cc) {T : rv_T} (hT : rv_tok cc T = true) : ∀ (n : Nat) {pc : Nat} {sk : List Value} {lo : List (Nat × Value)}, rv_wp nL T (rv_G p l e R s m args below meth c Q nL cells slots H locs) n pc sk lo → rv_G p l e R s m args below meth c Q nL cells slots H locs pc sk lo
  | 0, _, _, _, h => h
  | n + 1, pc, sk, lo, h => by
    unfold rv_wp at h
    rcases hg : rv_g T pc with ⟨p1, ins, len⟩
    rw [hg] at h
    dsimp only at h
    cases hc : (Nat.beq p1 pc && (rk_lenOk ins len && !(Nat.beq pc 99999))) with
    | false =>
      rw [hc] at h
      exact h
    | true =>
      rw [hc] at h
      rw [Bool.and_eq_true, Bool.and_eq_true, Bool.not_eq_true'] at hc
      obtain ⟨h1, h2, h3⟩ := hc
      have h1 := Nat.eq_of_beq_eq_true h1
      subst h1
      have hdg := rv_tokE hT hg h3
      have ih := @rv_run hx hb T hT n
      have kone : ∀ k, Nat.beq len k = true → len = k := fun k h => Nat.eq_of_beq_eq_true h
      have knn : ∀ x : Int32, Value.int x ≠ .null := fun x h => by cases h
      have knr : ∀ x : Nat, Value.ref x ≠ .null := fun x h => by cases h
      intro ls hl
      cases ins with
      | iconst k =>
        have := kone _ h2; subst this
        exact lv_iconst hx hb hdg rfl (ih h ls hl)
      | bipush k =>
        have := kone _ h2; subst this
        exact lv_bipush hx hb hdg rfl (ih h ls hl)
      | sipush k =>
        have := kone _ h2; subst this
        exact lv_sipush hx hb hdg rfl (ih h ls hl)
      | iload i =>
        have := kone _ h2; subst this
        simp only [rv_1] at h
        generalize hv : rv_lk lo i = v at h
        cases v with
        | int x => exact lv_iload hx hb hdg (rv_loc hl hv (knn x)) (ih h ls hl)
        | _ => exact h ls hl
      | iload_n i =>
        have := kone _ h2; subst this
        simp only [rv_1] at h
        generalize hv : rv_lk lo i.val = v at h
        cases v with
        | int x => exact lv_iload_n hx hb hdg rfl (rv_loc hl hv (knn x)) (ih h ls hl)
        | _ => exact h ls hl
      | aload i =>
        have := kone _ h2; subst this
        simp only [rv_1] at h
        generalize hv : rv_lk lo i = v at h
        cases v with
        | ref x => exact lv_aload hx hb hdg (rv_loc hl hv (knr x)) (ih h ls hl)
        | _ => exact h ls hl
      | aload_n i =>
        have := kone _ h2; subst this
        simp only [rv_1] at h
        generalize hv : rv_lk lo i.val = v at h
        cases v with
        | ref x => exact lv_aload_n hx hb hdg rfl (rv_loc hl hv (knr x)) (ih h ls hl)
        | _ => exact h ls hl
      | istore i =>
        have := kone _ h2; subst this
        rcases sk with _ | ⟨v, sk⟩
        · exact h ls hl
        · cases v with
          | int x =>
            simp only [rv_1] at h
            cases hd : (Nat.blt i nL && rv_dup lo) with
            | false => rw [hd] at h; exact h ls hl
            | true =>
              rw [hd] at h
              rw [Bool.and_eq_true, Nat.blt_eq] at hd
              exact lv_istore hx hb hdg hl hd.1 rfl (fun ls' hl' => ih h ls' (rv_sto hd.2 hl'))
          | _ => exact h ls hl
      | istore_n i =>
        have := kone _ h2; subst this
        rcases sk with _ | ⟨v, sk⟩
        · exact h ls hl
        · cases v with
          | int x =>
            simp only [rv_1] at h
            cases hd : (Nat.blt i.val nL && rv_dup lo) with
            | false => rw [hd] at h; exact h ls hl
            | true =>
              rw [hd] at h
              rw [Bool.and_eq_true, Nat.blt_eq] at hd
              exact lv_istore_n hx hb hdg rfl hl hd.1 rfl (fun ls' hl' => ih h ls' (rv_sto hd.2 hl'))
          | _ => exact h ls hl
      | iinc i k =>
        have := kone _ h2; subst this
        simp only [rv_1] at h
        generalize hv : rv_lk lo i = v at h
        cases v with
        | int x =>
          dsimp only at h
          cases hd : (Nat.blt i nL && rv_dup lo) with
          | false => rw [hd] at h; exact h ls hl
          | true =>
            rw [hd] at h
            rw [Bool.and_eq_true, Nat.blt_eq] at hd
            obtain ⟨z, hz⟩ := rv_idx hv (knn x)
            exact lv_iinc hx hb hdg hl hz rfl hd.1 rfl (fun ls' hl' => ih h ls' (rv_sto hd.2 hl'))
        | _ => exact h ls hl
      | iadd =>
        have := kone _ h2; subst this
        rcases sk with _ | ⟨v, _ | ⟨u, sk⟩⟩
        · exact h ls hl
        · cases v <;> exact h ls hl
        · cases v with
          | int y => cases u with
            | int x => exact rk_arW hx hb hdg rfl (ih h ls hl)
            | _ => exact h ls hl
          | _ => exact h ls hl
      | isub =>
        have := kone _ h2; subst this
        rcases sk with _ | ⟨v, _ | ⟨u, sk⟩⟩
        · exact h ls hl
        · cases v <;> exact h ls hl
        · cases v with
          | int y => cases u with
            | int x => exact rk_arW hx hb hdg rfl (ih h ls hl)
            | _ => exact h ls hl
          | _ => exact h ls hl
      | imul =>
        have := kone _ h2; subst this
        rcases sk with _ | ⟨v, _ | ⟨u, sk⟩⟩
        · exact h ls hl
        · cases v <;> exact h ls hl
        · cases v with
          | int y => cases u with
            | int x => exact rk_arW hx hb hdg rfl (ih h ls hl)
            | _ => exact h ls hl
          | _ => exact h ls hl
      | idiv =>
        have := kone _ h2; subst this
        rcases sk with _ | ⟨v, _ | ⟨u, sk⟩⟩
        · exact h ls hl
        · cases v <;> exact h ls hl
        · cases v with
          | int y => cases u with
            | int x => exact rk_arW hx hb hdg (by simp only [rk_mop]; rw [if_neg h.1]) (ih h.2 ls hl)
            | _ => exact h ls hl
          | _ => exact h ls hl
      | irem =>
        have := kone _ h2; subst this
        rcases sk with _ | ⟨v, _ | ⟨u, sk⟩⟩
        · exact h ls hl
        · cases v <;> exact h ls hl
        · cases v with
          | int y => cases u with
            | int x => exact rk_arW hx hb hdg (by simp only [rk_mop]; rw [if_neg h.1]) (ih h.2 ls hl)
            | _ => exact h ls hl
          | _ => exact h ls hl
      | ishl =>
        have := kone _ h2; subst this
        rcases sk with _ | ⟨v, _ | ⟨u, sk⟩⟩
        · exact h ls hl
        · cases v <;> exact h ls hl
        · cases v with
          | int y => cases u with
            | int x => exact rk_arW hx hb hdg rfl (ih h ls hl)
            | _ => exact h ls hl
          | _ => exact h ls hl
      | ishr =>
        have := kone _ h2; subst this
        rcases sk with _ | ⟨v, _ | ⟨u, sk⟩⟩
        · exact h ls hl
        · cases v <;> exact h ls hl
        · cases v with
          | int y => cases u with
            | int x => exact rk_arW hx hb hdg rfl (ih h ls hl)
            | _ => exact h ls hl
          | _ => exact h ls hl
      | iand =>
        have := kone _ h2; subst this
        rcases sk with _ | ⟨v, _ | ⟨u, sk⟩⟩
        · exact h ls hl
        · cases v <;> exact h ls hl
        · cases v with
          | int y => cases u with
            | int x => exact rk_arW hx hb hdg rfl (ih h ls hl)
            | _ => exact h ls hl
          | _ => exact h ls hl
      | pop =>
        have := kone _ h2; subst this
        rcases sk with _ | ⟨v, sk⟩
        · exact h ls hl
        · cases v with
          | int y => exact lv_pop hx hb hdg rfl (ih h ls hl)
          | _ => exact h ls hl
      | dup =>
        have := kone _ h2; subst this
        rcases sk with _ | ⟨v, sk⟩
        · exact h ls hl
        · cases v with
          | int y => exact lv_dup hx hb hdg rfl (ih h ls hl)
          | ref y => exact lv_dup hx hb hdg rfl (ih h ls hl)
          | _ => exact h ls hl
      | goto o =>
        have := kone _ h2; subst this
        simp only [rv_1] at h
        cases ht : rk_tok p1 o with
        | false => rw [ht] at h; exact h ls hl
        | true => rw [ht] at h; exact lv_goto hx hb hdg (rk_tgt_ok ht) (ih h ls hl)
      | if_icmp cd o =>
        have := kone _ h2; subst this
        rcases sk with _ | ⟨v, _ | ⟨u, sk⟩⟩
        · exact h ls hl
        · cases v <;> exact h ls hl
        · cases v with
          | int y => cases u with
            | int x =>
              simp only [rv_1] at h
              cases ht : rk_tok p1 o with
              | false => rw [ht] at h; exact h ls hl
              | true =>
                rw [ht] at h
                exact rk_icmp hx hb hdg (rk_tgt_ok ht) (fun h9 => ih (h.1 ((rv_cE cd _ _).1 h9)) ls hl) (fun h9 => ih (h.2 ((rv_cE cd _ _).2 h9)) ls hl)
            | _ => exact h ls hl
          | _ => exact h ls hl
      | ifCond cd o =>
        have := kone _ h2; subst this
        rcases sk with _ | ⟨v, sk⟩
        · exact h ls hl
        · cases v with
          | int x =>
            simp only [rv_1] at h
            cases ht : rk_tok p1 o with
            | false => rw [ht] at h; exact h ls hl
            | true =>
              rw [ht] at h
              exact rk_if0 hx hb hdg (rk_tgt_ok ht) (fun h9 => ih (h.1 ((rv_cE cd _ _).1 h9)) ls hl) (fun h9 => ih (h.2 ((rv_cE cd _ _).2 h9)) ls hl)
          | _ => exact h ls hl
      | _ => exact h ls hl
end RV
