/-! instructions that touch neither cells nor methods -/
def rk_lk : List (Nat × Nat) → Nat → Option Nat
  | [], _ => none
  | q :: l, i => if Nat.beq q.1 i then some q.2 else rk_lk l i
theorem rk_lk_ok {i y : Nat} : ∀ lo : List (Nat × Nat), rk_lk lo i = some y → (i, y) ∈ lo
  | [], h => by cases h
  | q :: l, h => by
    unfold rk_lk at h
    split at h
    · rename_i hq
      rw [Nat.beq_eq] at hq
      cases h
      subst hq
      exact List.mem_cons_self
    · exact List.mem_cons_of_mem _ (rk_lk_ok l h)
def rk_up (lo : List (Nat × Nat)) (i y : Nat) : List (Nat × Nat) := (i, y) :: lo.filter (fun q => !(Nat.beq q.1 i))
def rk_isR (t : rk_AV) : Bool := Nat.beq t.1 2 || Nat.beq t.1 3
theorem rk_isR_ok {G : Nat → Option Nat} {X : Int} {t : rk_AV} {v : Value} (h : rk_isR t = true) (hv : rk_has G X t v) : v = .null ∨ ∃ a : Nat, v = .ref a := by
  obtain ⟨n, a, b⟩ := t
  rcases n with _ | _ | _ | _ | n
  · simp [rk_isR] at h
  · simp [rk_isR] at h
  · obtain ⟨x, rfl, -⟩ := hv; exact Or.inr ⟨_, rfl⟩
  · rcases hv with rfl | ⟨x, rfl, -⟩
    · exact Or.inl rfl
    · exact Or.inr ⟨_, rfl⟩
  · simp [rk_isR] at h
abbrev rk_Sc : Type := Option (List (Nat × rk_St))
def rk_tgt (pc : Nat) (off : Int) : Nat := ((pc : Int) + off).toNat
def rk_tok (pc : Nat) (off : Int) : Bool := decide (0 ≤ (pc : Int) + off)
theorem rk_tgt_ok {pc : Nat} {off : Int} (h : rk_tok pc off = true) : (pc : Int) + off = (rk_tgt pc off : Int) := by
  simp only [rk_tok, decide_eq_true_eq] at h
  unfold rk_tgt
  omega
def rk_mk (nE pc : Nat) (S : rk_St) (t : rk_AV) : rk_Sc := match S with
  | (lo, sk, en, kn, fc, co) => if rk_wf nE S then some [(pc, (lo, en.length :: sk, en ++ [t], kn, fc, co))] else none
def rk_ld (pc i : Nat) (S : rk_St) (ok : rk_AV → Bool) : rk_Sc := match S with
  | (lo, sk, en, kn, fc, co) => match rk_lk lo i with
    | none => none
    | some y => match en[y]? with
      | none => none
      | some t => if ok t then some [(pc, (lo, y :: sk, en, kn, fc, co))] else none
def rk_sto (nE nL pc i : Nat) (S : rk_St) (ok : rk_AV → Bool) : rk_Sc := match S with
  | (lo, sk, en, kn, fc, co) => match sk with
    | [] => none
    | y :: sk => match en[y]? with
      | none => none
      | some t => if ok t && (Nat.blt i nL && rk_wf nE S) then some [(pc, (rk_up lo i y, sk, en, kn, fc, co))] else none
def rk_inc (nE nL pc i : Nat) (c : Int) (S : rk_St) : rk_Sc := match S with
  | (lo, sk, en, kn, fc, co) => match rk_lk lo i with
    | none => none
    | some y => match en[y]? with
      | none => none
      | some t => if rk_isI t && (Nat.blt i nL && (rk_wf nE S && (decide (-32768 ≤ c) && decide (c ≤ 32767)))) then some [(pc, (rk_up lo i en.length, sk, en ++ [rk_add t (0, c, c)], kn, rk_lin en.length y t c ++ fc, co))] else none
/-- the sum is there already -/
def rk_cse (ins : Instr) (x y : Nat) : List (Nat × Nat × Nat × Int) → Option Nat
  | [] => none
  | q :: l => match ins with
    | .iadd => if Nat.beq q.1 3 && (Nat.beq q.2.2.1 x && decide (q.2.2.2 = (y : Int))) then some q.2.1 else rk_cse ins x y l
    | _ => none
def rk_ari (nE pc : Nat) (ins : Instr) (S : rk_St) : rk_Sc := match S with
  | (lo, sk, en, kn, fc, co) => match sk with
    | y :: x :: sk => (match en[x]? with
      | none => none
      | some tx => match en[y]? with
        | none => none
        | some ty => match rk_cse ins x y fc with
          | some z => some [(pc, (lo, z :: sk, en, kn, fc, co))]
          | none => match rk_op ins fc en.length x y tx ty with
            | none => none
            | some (t, fs) => if rk_wf nE S then some [(pc, (lo, en.length :: sk, en ++ [t], kn, fs ++ fc, co))] else none)
    | _ => none
def rk_at (pc : Nat) (l : List rk_St) : List (Nat × rk_St) := l.map (fun S => (pc, S))
def rk_two (pt pf : Nat) (a b : Option (List rk_St)) : rk_Sc := match a with
  | none => none
  | some la => match b with
    | none => none
    | some lb => some (rk_at pt la ++ rk_at pf lb)
def rk_cmpS (pc : Nat) (cd : ClassFile.Cond) (off : Int) (S : rk_St) : rk_Sc := match S with
  | (lo, sk, en, kn, fc, co) => match sk with
    | y :: x :: sk => if rk_tok pc off then rk_two (rk_tgt pc off) (pc + 3) (rk_brn (lo, sk, en, kn, fc, co) (rk_ct cd) x y) (rk_brn (lo, sk, en, kn, fc, co) (rk_cn cd) x y) else none
    | _ => none
def rk_if0S (pc : Nat) (cd : ClassFile.Cond) (off : Int) (S : rk_St) : rk_Sc := match S with
  | (lo, sk, en, kn, fc, co) => match sk with
    | x :: sk => if rk_tok pc off then rk_two (rk_tgt pc off) (pc + 3) (rk_br0 (lo, sk, en, kn, fc, co) (rk_ct cd) x) (rk_br0 (lo, sk, en, kn, fc, co) (rk_cn cd) x) else none
    | _ => none
/-- null or not: tn behind null, tr behind a cell -/
def rk_nul (tn tr : Nat) (S : rk_St) : rk_Sc := match S with
  | (lo, sk, en, kn, fc, co) => match sk with
    | x :: sk => (match en[x]? with
      | none => none
      | some t => match t with
        | (2, _, _) => some [(tr, (lo, sk, en, kn, fc, co))]
        | (3, k, _) => some [(tn, (lo, sk, en, kn, fc, co)), (tr, (lo, sk, en.set x (2, k, 0), kn, fc, co))]
        | _ => none)
    | _ => none
/-- a table's places, one behind the other -/
def rk_tc (pc x : Nat) (a b : Int) (S : rk_St) : Int → List Int → List (Nat × rk_St)
  | _, [] => []
  | k, o :: l => if a ≤ k ∧ k ≤ b then (rk_tgt pc o, (S.1, S.2.1, S.2.2.1.set x (0, k, k), S.2.2.2)) :: rk_tc pc x a b S (k + 1) l else rk_tc pc x a b S (k + 1) l
def rk_tsw (pc : Nat) (d lo hi : Int) (offs : Array Int) (S : rk_St) : rk_Sc := match S with
  | (l0, sk, en, kn, fc, co) => match sk with
    | x :: sk => (match en[x]? with
      | none => none
      | some t => match rk_iv t with
        | none => none
        | some (a, b) => if rk_tok pc d && (offs.toList.all (rk_tok pc) && decide ((offs.toList.length : Int) = hi - lo + 1)) then
            some ((if lo ≤ a ∧ b ≤ hi then [] else [(rk_tgt pc d, (l0, sk, en, kn, fc, co))]) ++ rk_tc pc x a b (l0, sk, en, kn, fc, co) lo offs.toList) else none)
    | _ => none
def rk_s1 (nE nL : Nat) (cs : Nat → Option Int32) (pc : Nat) (ins : Instr) (S : rk_St) : rk_Sc := match ins with
  | .iconst n => rk_mk nE (pc + 1) S (0, (Int32.ofInt n).toInt, (Int32.ofInt n).toInt)
  | .bipush n => rk_mk nE (pc + 2) S (0, (Int8.ofInt n).toInt32.toInt, (Int8.ofInt n).toInt32.toInt)
  | .sipush n => rk_mk nE (pc + 3) S (0, (Int16.ofInt n).toInt32.toInt, (Int16.ofInt n).toInt32.toInt)
  | .ldc i => (match cs i with
    | none => none
    | some v => rk_mk nE (pc + 2) S (0, v.toInt, v.toInt))
  | .ldc_w i => (match cs i with
    | none => none
    | some v => rk_mk nE (pc + 3) S (0, v.toInt, v.toInt))
  | .aconst_null => rk_mk nE (pc + 1) S (3, 4, 0)
  | .iload i => rk_ld (pc + 2) i S rk_isI
  | .iload_n i => rk_ld (pc + 1) i S rk_isI
  | .aload i => rk_ld (pc + 2) i S rk_isR
  | .aload_n i => rk_ld (pc + 1) i S rk_isR
  | .istore i => rk_sto nE nL (pc + 2) i S rk_isI
  | .istore_n i => rk_sto nE nL (pc + 1) i S rk_isI
  | .astore i => rk_sto nE nL (pc + 2) i S rk_isR
  | .astore_n i => rk_sto nE nL (pc + 1) i S rk_isR
  | .iinc i c => rk_inc nE nL (pc + 3) i c S
  | .iadd => rk_ari nE (pc + 1) .iadd S
  | .isub => rk_ari nE (pc + 1) .isub S
  | .imul => rk_ari nE (pc + 1) .imul S
  | .idiv => rk_ari nE (pc + 1) .idiv S
  | .irem => rk_ari nE (pc + 1) .irem S
  | .iand => rk_ari nE (pc + 1) .iand S
  | .ior => rk_ari nE (pc + 1) .ior S
  | .ishl => rk_ari nE (pc + 1) .ishl S
  | .ishr => rk_ari nE (pc + 1) .ishr S
  | .iushr => rk_ari nE (pc + 1) .iushr S
  | .pop => (match S with
    | (lo, sk, en, kn, fc, co) => match sk with
      | y :: sk => if (en[y]?).isSome then some [(pc + 1, (lo, sk, en, kn, fc, co))] else none
      | _ => none)
  | .dup => (match S with
    | (lo, sk, en, kn, fc, co) => match sk with
      | y :: sk => if (en[y]?).isSome then some [(pc + 1, (lo, y :: y :: sk, en, kn, fc, co))] else none
      | _ => none)
  | .dup2 => (match S with
    | (lo, sk, en, kn, fc, co) => match sk with
      | y :: x :: sk => if (en[y]?).isSome && (en[x]?).isSome then some [(pc + 1, (lo, y :: x :: y :: x :: sk, en, kn, fc, co))] else none
      | _ => none)
  | .goto o => if rk_tok pc o then some [(rk_tgt pc o, S)] else none
  | .if_icmp cd o => rk_cmpS pc cd o S
  | .ifCond cd o => rk_if0S pc cd o S
  | .ifnull o => if rk_tok pc o then rk_nul (rk_tgt pc o) (pc + 3) S else none
  | .ifnonnull o => if rk_tok pc o then rk_nul (pc + 3) (rk_tgt pc o) S else none
  | .tableswitch d lo hi offs => rk_tsw pc d lo hi offs S
  | _ => none
def rk_lenOk (ins : Instr) (len : Nat) : Bool := match ins with
  | .tableswitch _ _ _ _ => true
  | .lookupswitch _ _ => true
  | .iload _ => Nat.beq len 2
  | .aload _ => Nat.beq len 2
  | .istore _ => Nat.beq len 2
  | .astore _ => Nat.beq len 2
  | .bipush _ => Nat.beq len 2
  | .ldc _ => Nat.beq len 2
  | .newarray _ => Nat.beq len 2
  | .sipush _ => Nat.beq len 3
  | .ldc_w _ => Nat.beq len 3
  | .iinc _ _ => Nat.beq len 3
  | .if_icmp _ _ => Nat.beq len 3
  | .ifCond _ _ => Nat.beq len 3
  | .ifnull _ => Nat.beq len 3
  | .ifnonnull _ => Nat.beq len 3
  | .goto _ => Nat.beq len 3
  | .getfield _ => Nat.beq len 3
  | .putfield _ => Nat.beq len 3
  | .invokevirtual _ => Nat.beq len 3
  | .invokestatic _ => Nat.beq len 3
  | .invokespecial _ => Nat.beq len 3
  | .new _ => Nat.beq len 3
  | .anewarray _ => Nat.beq len 3
  | _ => Nat.beq len 1
