/-! the run: one instruction -/
/-- the method; fields; classes; rows; constructors (0: Object's); Math.max -/
abbrev rc_C : Type := rk_Mt × (Nat → Option (Nat × Nat)) × (Nat → Option Nat) × (Nat → Option Nat) × (Nat → Option Nat) × (Nat → Bool)
def rc_lk : List (Nat × rc_V) → Nat → Option rc_V
  | [], _ => none
  | q :: l, i => if Nat.beq q.1 i then some q.2 else rc_lk l i
theorem rc_lk_ok {i : Nat} {v : rc_V} : ∀ l : List (Nat × rc_V), rc_lk l i = some v → (i, v) ∈ l
  | [], h => by cases h
  | q :: l, h => by
    unfold rc_lk at h
    split at h
    · rename_i hq
      rw [Nat.beq_eq] at hq
      cases h
      subst hq
      exact List.mem_cons_self
    · exact List.mem_cons_of_mem _ (rc_lk_ok l h)
def rc_fit (ty : FieldType) (v : rc_V) : Bool := match ty with
  | .int => Nat.beq v.1 0
  | .boolean => Nat.beq v.1 0 && (decide (v.2 = 0) || decide (v.2 = 1))
  | .object _ => !(Nat.beq v.1 0)
  | .array _ => !(Nat.beq v.1 0)
  | _ => false
theorem rc_fit_ok {ty : FieldType} {v : rc_V} (ad : Nat → Nat) (h : rc_fit ty v = true) : narrow ty (rc_val ad v) = rc_val ad v ∧ fits ty (rc_val ad v) = true := by
  obtain ⟨t, x⟩ := v
  cases ty with
  | int =>
    rcases t with _ | t
    · exact ⟨rfl, rfl⟩
    · simp [rc_fit] at h
  | boolean =>
    rcases t with _ | t
    · simp only [rc_fit, Bool.and_eq_true, Bool.or_eq_true, decide_eq_true_eq] at h
      rcases h.2 with h | h
      · subst h
        exact ⟨rfl, rfl⟩
      · subst h
        exact ⟨rfl, rfl⟩
    · simp [rc_fit] at h
  | object n =>
    rcases t with _ | _ | t
    · simp [rc_fit] at h
    · exact ⟨rfl, rfl⟩
    · exact ⟨rfl, rfl⟩
  | array n =>
    rcases t with _ | _ | t
    · simp [rc_fit] at h
    · exact ⟨rfl, rfl⟩
    · exact ⟨rfl, rfl⟩
  | _ => simp [rc_fit] at h
abbrev rc_R : Type := Nat × List (Nat × rc_V) × List rc_V × List rc_O
def rc_s1 (C : rc_C) (dv : Nat → Option (List rc_V)) (aa : Nat → Option Nat) (pc : Nat) (ins : Instr) (lo : List (Nat × rc_V)) (sk : List rc_V) (os : List rc_O) : Option rc_R := match ins with
  | .iconst n => some (pc + 1, lo, (0, (Int32.ofInt n).toInt) :: sk, os)
  | .bipush n => some (pc + 2, lo, (0, (Int8.ofInt n).toInt32.toInt) :: sk, os)
  | .sipush n => some (pc + 3, lo, (0, (Int16.ofInt n).toInt32.toInt) :: sk, os)
  | .aload_n i => (match rc_lk lo i with
    | some (1, j) => some (pc + 1, lo, (1, j) :: sk, os)
    | _ => none)
  | .iload_n i => (match rc_lk lo i with
    | some (0, j) => some (pc + 1, lo, (0, j) :: sk, os)
    | _ => none)
  | .istore_n i => (match sk with
    | (0, j) :: sk => if Nat.blt i C.1.2.2.1 then some (pc + 1, (i, (0, j)) :: lo.filter (fun q => !(Nat.beq q.1 i)), sk, os) else none
    | _ => none)
  | .iinc i k => (match rc_lk lo i with
    | some (0, j) => if Nat.blt i C.1.2.2.1 then some (pc + 3, (i, (0, (Int32.ofInt j + Int32.ofInt k).toInt)) :: lo.filter (fun q => !(Nat.beq q.1 i)), sk, os) else none
    | _ => none)
  | .dup => (match sk with
    | v :: sk => some (pc + 1, lo, v :: v :: sk, os)
    | _ => none)
  | .goto o => if rk_tok pc o then some (rk_tgt pc o, lo, sk, os) else none
  | .if_icmp cd o => (match cd with
    | .ge => (match sk with
      | (0, y) :: (0, x) :: sk => if rk_tok pc o then (if (Int32.ofInt y).toInt ≤ (Int32.ofInt x).toInt then some (rk_tgt pc o, lo, sk, os) else some (pc + 3, lo, sk, os)) else none
      | _ => none)
    | _ => none)
  | .getfield idx => (match C.2.1 idx with
    | some (ci, k) => (match sk with
      | (1, i) :: sk => (match os[i.toNat]? with
        | some (0, cj, fs) => (match fs[k]? with
          | some v => if Nat.beq ci cj then some (pc + 3, lo, v :: sk, os) else none
          | none => none)
        | _ => none)
      | _ => none)
    | none => none)
  | .putfield idx => (match C.2.1 idx with
    | some (ci, k) => (match sk with
      | v :: (1, i) :: sk => (match os[i.toNat]? with
        | some (0, cj, fs) => if Nat.beq ci cj && (Nat.blt k fs.length && rc_fit (rk_ty ci k) v) then some (pc + 3, lo, sk, os.set i.toNat (0, cj, fs.set k v)) else none
        | _ => none)
      | _ => none)
    | none => none)
  | .aastore => (match sk with
    | (1, v) :: (0, j) :: (1, i) :: sk => (match os[i.toNat]? with
      | some (2, t0, es) => (match os[v.toNat]? with
        | some (0, ci, _) => if decide (aa t0 = some ci) && (decide (0 ≤ (Int32.ofInt j).toInt) && decide ((Int32.ofInt j).toInt < (es.length : Int))) then some (pc + 1, lo, sk, os.set i.toNat (2, t0, es.set (Int32.ofInt j).toInt.toNat (1, v))) else none
        | _ => none)
      | _ => none)
    | _ => none)
  | .new idx => (match C.2.2.1 idx with
    | some ci => (match dv ci with
      | some fs => some (pc + 3, lo, (1, (os.length : Int)) :: sk, os ++ [(0, ci, fs)])
      | none => none)
    | none => none)
  | .newarray .int => (match sk with
    | (0, n) :: sk => if decide (0 ≤ (Int32.ofInt n).toInt) && decide ((Int32.ofInt n).toInt ≤ 100000) then some (pc + 2, lo, (1, (os.length : Int)) :: sk, os ++ [(1, (Int32.ofInt n).toInt.toNat, [])]) else none
    | _ => none)
  | .anewarray idx => (match C.2.2.2.1 idx with
    | some t0 => (match sk with
      | (0, n) :: sk => if decide (0 ≤ (Int32.ofInt n).toInt) && decide ((Int32.ofInt n).toInt ≤ 100000) then some (pc + 3, lo, (1, (os.length : Int)) :: sk, os ++ [(2, t0, List.replicate (Int32.ofInt n).toInt.toNat (2, 0))]) else none
      | _ => none)
    | none => none)
  | .invokespecial idx => (match C.2.2.2.2.1 idx with
    | some 0 => (match sk with
      | (1, _) :: sk => if Nat.ble sk.length 8 then some (pc + 3, lo, sk, os) else none
      | _ => none)
    | _ => none)
  | .invokestatic idx => if C.2.2.2.2.2 idx then (match sk with
    | (0, y) :: (0, x) :: sk => if Nat.ble sk.length 8 then some (pc + 3, lo, (0, if (Int32.ofInt x).toInt < (Int32.ofInt y).toInt then y else x) :: sk, os) else none
    | _ => none) else none
  | _ => none
def rc_sz (o : rc_O) : Nat := match o with
  | (0, _, fs) => fs.length
  | (1, n, _) => n
  | (_, _, es) => es.length
def rc_szs (os : List rc_O) : Nat := (os.map rc_sz).sum
