/-! a run over known things: trees -/
/-- (0, a, _): the number a (without sign); (1, k, c): number k of the script and c; (2, k, m): number k of the script, masked by m; (3, _, _): any number; (4, i, _): the i-th thing; (5, _, _): null; (6, _, _): the script; else nothing -/
abbrev rs_V : Type := Nat × Nat × Nat
/-- (0, class, fields' number, fields); (1, _, length, numbers); (2, array class, length, places); else nothing -/
abbrev rs_O : Type := Nat × Nat × Nat × Lean.RArray rs_V
abbrev rs_H : Type := Lean.RArray rs_O
/-- for each number of the script: from, to (each 2^31 more), what is known of its lowest bits -/
abbrev rs_E : Type := List (Nat × Nat × Nat)
/-- an instruction: its place, its kind, three numbers, more -/
abbrev rs_I : Type := Nat × Nat × Nat × Nat × Nat × List Nat
noncomputable def rt_g {α : Type} (t : Lean.RArray α) : Nat → α :=
  Lean.RArray.rec (motive := fun _ => Nat → α) (fun x _ => x) (fun _ _ _ gl gr i => match Nat.beq (Nat.mod i 2) 0 with
    | true => gl (Nat.div i 2)
    | false => gr (Nat.div i 2)) t
noncomputable def rt_s {α : Type} (v : α) (d : Nat) : Nat → Lean.RArray α → (Lean.RArray α → Bool) → Bool :=
  Nat.rec (motive := fun _ => Nat → Lean.RArray α → (Lean.RArray α → Bool) → Bool) (fun _ _ k => k (.leaf v))
    (fun _ ih i t k => Lean.RArray.rec (motive := fun _ => Bool)
      (fun x => match Nat.beq (Nat.mod i 2) 0 with
        | true => ih (Nat.div i 2) (.leaf x) (fun l => k (.branch 0 l (.leaf x)))
        | false => ih (Nat.div i 2) (.leaf x) (fun r => k (.branch 0 (.leaf x) r)))
      (fun p l r _ _ => match Nat.beq (Nat.mod i 2) 0 with
        | true => ih (Nat.div i 2) l (fun l' => k (.branch p l' r))
        | false => ih (Nat.div i 2) r (fun r' => k (.branch p l r'))) t) d
/-- a number as such -/
noncomputable def rs_nf (x : Nat) (k : Nat → Bool) : Bool := Nat.rec (motive := fun _ => Bool) (k 0) (fun m _ => k (Nat.succ m)) x
noncomputable def rs_ln (lo : List rs_V) : Nat → rs_V := List.rec (motive := fun _ => Nat → rs_V) (fun _ => (9, 0, 0)) (fun v _ ih i => Nat.rec (motive := fun _ => rs_V) v (fun j _ => ih j) i) lo
noncomputable def rs_ls (v : rs_V) (i : Nat) : List rs_V → (List rs_V → Bool) → Bool :=
  Nat.rec (motive := fun _ => List rs_V → (List rs_V → Bool) → Bool) (fun lo k => match lo with
      | [] => k [v]
      | _ :: t => k (v :: t))
    (fun _ ih lo k => match lo with
      | [] => ih [] (fun t => k ((9, 0, 0) :: t))
      | x :: t => ih t (fun t' => k (x :: t'))) i
noncomputable def rs_eg (en : rs_E) : Nat → Nat × Nat × Nat := List.rec (motive := fun _ => Nat → Nat × Nat × Nat) (fun _ => (0, 4294967295, 0)) (fun v _ ih i => Nat.rec (motive := fun _ => Nat × Nat × Nat) v (fun j _ => ih j) i) en
noncomputable def rs_es (v : Nat × Nat × Nat) (i : Nat) : rs_E → (rs_E → Bool) → Bool :=
  Nat.rec (motive := fun _ => rs_E → (rs_E → Bool) → Bool) (fun en k => match en with
      | [] => k []
      | _ :: t => k (v :: t))
    (fun _ ih en k => match en with
      | [] => k []
      | x :: t => ih t (fun t' => k (x :: t'))) i
/-- one number alone, of the wrong parity: it can't be -/
def rs_bad (v : Nat × Nat × Nat) : Bool := match v with
  | (lo, hi, pa) => match pa with
    | 1 => (match Nat.beq lo hi with
      | false => false
      | true => Nat.beq (Nat.mod lo 2) 1)
    | 2 => (match Nat.beq lo hi with
      | false => false
      | true => Nat.beq (Nat.mod lo 2) 0)
    | _ => false
noncomputable def rs_ek (v : Nat × Nat × Nat) (a : Nat) (en : rs_E) (k : rs_E → Bool) : Bool := match rs_bad v with
  | true => true
  | false => rs_es v a en k
/-- what a number of the script is, if it is known -/
noncomputable def rs_res (en : rs_E) (v : rs_V) (k : rs_V → Bool) : Bool := match v with
  | (t, a, c) => match Nat.beq t 1 with
    | false => k (t, a, c)
    | true => match rs_eg en a with
      | (lo, hi, _) => match Nat.beq lo hi with
        | true => rs_nf (Nat.mod (Nat.add (Nat.add lo 2147483648) c) 4294967296) (fun x => k (0, x, 0))
        | false => k (1, a, c)
/-- number a of the script and c is less than b (each 2^31 more) -/
noncomputable def rs_lt (en : rs_E) (a c b : Nat) (kT kF : rs_E → Bool) : Bool := match rs_eg en a with
  | (lo, hi, pa) => match Nat.beq (Nat.div (Nat.add lo c) 4294967296) (Nat.div (Nat.add hi c) 4294967296) with
    | false => false
    | true => match Nat.ble b (Nat.mod (Nat.add lo c) 4294967296) with
      | true => kF en
      | false => match Nat.ble b (Nat.mod (Nat.add hi c) 4294967296) with
        | false => kT en
        | true => rs_nf (Nat.add lo (Nat.sub b (Nat.mod (Nat.add lo c) 4294967296))) (fun t => match rs_nf (Nat.sub t 1) (fun t1 => rs_ek (lo, t1, pa) a en kT) with
          | false => false
          | true => rs_ek (t, hi, pa) a en kF)
noncomputable def rs_eq (en : rs_E) (a c b : Nat) (kT kF : rs_E → Bool) : Bool := match rs_eg en a with
  | (lo, hi, pa) => match Nat.beq (Nat.div (Nat.add lo c) 4294967296) (Nat.div (Nat.add hi c) 4294967296) with
    | false => false
    | true => match Nat.ble (Nat.mod (Nat.add lo c) 4294967296) b with
      | false => kF en
      | true => match Nat.ble b (Nat.mod (Nat.add hi c) 4294967296) with
        | false => kF en
        | true => rs_nf (Nat.add lo (Nat.sub b (Nat.mod (Nat.add lo c) 4294967296))) (fun t => match rs_ek (t, t, pa) a en kT with
          | false => false
          | true => match (match Nat.beq t lo with
              | true => true
              | false => rs_nf (Nat.sub t 1) (fun t1 => rs_ek (lo, t1, pa) a en kF)) with
            | false => false
            | true => match Nat.beq t hi with
              | true => true
              | false => rs_nf (Nat.add t 1) (fun t1 => rs_ek (t1, hi, pa) a en kF))
noncomputable def rs_all (f : Nat → Bool) (n : Nat) : Nat → Bool := Nat.rec (motive := fun _ => Nat → Bool) (fun _ => true) (fun _ ih v => match f v with
  | false => false
  | true => rs_nf (Nat.add v 1) (fun w => ih w)) n
/-- number a of the script is each of what it may be -/
noncomputable def rs_sp (en : rs_E) (a : Nat) (kk : rs_E → Bool) : Bool := match rs_eg en a with
  | (lo, hi, pa) => match Nat.ble (Nat.sub hi lo) 300 with
    | false => false
    | true => rs_all (fun v => rs_ek (v, v, pa) a en kk) (Nat.add (Nat.sub hi lo) 1) lo
def rs_bi (x : Nat) : Nat := Nat.mod (Nat.add x 2147483648) 4294967296
def rs_tst (cd x y : Nat) : Bool := match cd with
  | 0 => Nat.beq x y
  | 1 => (match Nat.beq x y with
    | true => false
    | false => true)
  | 2 => (match Nat.ble y x with
    | true => false
    | false => true)
  | 3 => Nat.ble y x
  | 4 => (match Nat.ble x y with
    | true => false
    | false => true)
  | _ => Nat.ble x y
/-- number a of the script and c against the number b -/
noncomputable def rs_cs (en : rs_E) (cd a c b : Nat) (kT kF : rs_E → Bool) : Bool := match cd with
  | 0 => rs_eq en a c b kT kF
  | 1 => rs_eq en a c b kF kT
  | 2 => rs_lt en a c b kT kF
  | 3 => rs_lt en a c b kF kT
  | 4 => rs_lt en a c (Nat.add b 1) kF kT
  | _ => rs_lt en a c (Nat.add b 1) kT kF
def rs_sw (cd : Nat) : Nat := match cd with
  | 0 => 0
  | 1 => 1
  | 2 => 4
  | 3 => 5
  | 4 => 2
  | _ => 3
noncomputable def rs_cmp (en : rs_E) (cd : Nat) (x y : rs_V) (kT kF : rs_E → Bool) (ks : Nat → Bool) : Bool := match x with
  | (tx, ax, cx) => match y with
    | (ty, ay, cy) => match tx with
      | 0 => (match ty with
        | 0 => (match rs_tst cd (rs_bi ax) (rs_bi ay) with
          | true => kT en
          | false => kF en)
        | 1 => rs_cs en (rs_sw cd) ay cy (rs_bi ax) kT kF
        | _ => false)
      | 1 => (match ty with
        | 0 => rs_cs en cd ax cx (rs_bi ay) kT kF
        | 1 => ks ax
        | _ => false)
      | 2 => (match Nat.beq ty 0 with
        | false => false
        | true => match Nat.beq ay 0 with
          | false => false
          | true => match Nat.beq cx 1 with
            | false => false
            | true => match rs_eg en ax with
              | (lo, hi, pa) => match pa with
                | 1 => (match cd with
                  | 0 => kT en
                  | 1 => kF en
                  | _ => false)
                | 2 => (match cd with
                  | 0 => kF en
                  | 1 => kT en
                  | _ => false)
                | 0 => (match cd with
                  | 0 => rs_es (lo, hi, 1) ax en (fun e1 => rs_es (lo, hi, 2) ax en (fun e2 => match kT e1 with
                    | false => false
                    | true => kF e2))
                  | 1 => rs_es (lo, hi, 1) ax en (fun e1 => rs_es (lo, hi, 2) ax en (fun e2 => match kF e1 with
                    | false => false
                    | true => kT e2))
                  | _ => false)
                | _ => false)
      | 3 => (match Nat.ble ty 3 with
        | false => false
        | true => match kT en with
          | false => false
          | true => kF en)
      | _ => false
abbrev rs_KT : Type := Nat → rs_E → List rs_V → List rs_V → rs_H → Nat → Nat → Nat → Bool
abbrev rs_KR : Type := rs_E → rs_V → rs_H → Nat → Bool
abbrev rs_KC : Type := Nat → rs_E → List rs_V → rs_H → Nat → rs_KR → Bool
abbrev rs_Hd : Type := rs_I → rs_KT → rs_KC → rs_KR → Nat → rs_E → List rs_V → List rs_V → rs_H → Nat → Nat → Nat → Bool
def rs_h_no : rs_Hd := fun _ _ _ _ _ _ _ _ _ _ _ _ => false
/-- a number: a; b bytes -/
def rs_h_con : rs_Hd := fun op kt _ _ pc en lo sk hp nn cs ss => match op with
  | (_, _, a, b, _, _) => kt (Nat.add pc b) en lo ((0, a, 0) :: sk) hp nn cs ss
def rs_h_nul : rs_Hd := fun _ kt _ _ pc en lo sk hp nn cs ss => kt (Nat.add pc 1) en lo ((5, 0, 0) :: sk) hp nn cs ss
/-- local a; b bytes -/
noncomputable def rs_h_ild : rs_Hd := fun op kt _ _ pc en lo sk hp nn cs ss => match op with
  | (_, _, a, b, _, _) => match rs_ln lo a with
    | (t, x, y) => match Nat.ble t 3 with
      | false => false
      | true => kt (Nat.add pc b) en lo ((t, x, y) :: sk) hp nn cs ss
noncomputable def rs_h_ald : rs_Hd := fun op kt _ _ pc en lo sk hp nn cs ss => match op with
  | (_, _, a, b, _, _) => match rs_ln lo a with
    | (t, x, y) => match Nat.beq t 4 with
      | true => kt (Nat.add pc b) en lo ((4, x, y) :: sk) hp nn cs ss
      | false => match Nat.beq t 5 with
        | false => false
        | true => kt (Nat.add pc b) en lo ((5, x, y) :: sk) hp nn cs ss
/-- to local a (of c); b bytes -/
noncomputable def rs_h_ist : rs_Hd := fun op kt _ _ pc en lo sk hp nn cs ss => match op with
  | (_, _, a, b, _, _) => match sk with
    | [] => false
    | (t, x, y) :: sk => match Nat.ble t 3 with
      | false => false
      | true => rs_ls (t, x, y) a lo (fun lo => kt (Nat.add pc b) en lo sk hp nn cs ss)
noncomputable def rs_h_ast : rs_Hd := fun op kt _ _ pc en lo sk hp nn cs ss => match op with
  | (_, _, a, b, _, _) => match sk with
    | [] => false
    | (t, x, y) :: sk => match Nat.beq t 4 with
      | true => rs_ls (4, x, y) a lo (fun lo => kt (Nat.add pc b) en lo sk hp nn cs ss)
      | false => match Nat.beq t 5 with
        | false => false
        | true => rs_ls (5, x, y) a lo (fun lo => kt (Nat.add pc b) en lo sk hp nn cs ss)
/-- local a, b more -/
noncomputable def rs_h_inc : rs_Hd := fun op kt _ _ pc en lo sk hp nn cs ss => match op with
  | (_, _, a, b, _, _) => match rs_ln lo a with
    | (t, x, y) => match t with
      | 0 => rs_nf (Nat.mod (Nat.add x b) 4294967296) (fun z => rs_ls (0, z, 0) a lo (fun lo => kt (Nat.add pc 3) en lo sk hp nn cs ss))
      | 1 => rs_nf (Nat.mod (Nat.add y b) 4294967296) (fun z => rs_ls (1, x, z) a lo (fun lo => kt (Nat.add pc 3) en lo sk hp nn cs ss))
      | 3 => rs_ls (3, 0, 0) a lo (fun lo => kt (Nat.add pc 3) en lo sk hp nn cs ss)
      | _ => false
/-- two numbers: x below, y ahead -/
noncomputable def rs_two (f : rs_E → rs_V → rs_V → (rs_V → Bool) → (Nat → Bool) → Bool) : rs_Hd := fun _ kt _ _ pc en lo sk hp nn cs ss => match sk with
  | y :: x :: sk => rs_res en y (fun y => rs_res en x (fun x => f en x y (fun v => kt (Nat.add pc 1) en lo (v :: sk) hp nn cs ss) (fun a => rs_sp en a (fun en => kt pc en lo (y :: x :: sk) hp nn cs ss))))
  | _ => false
/-- can't be said by forms: each number of the script, or any number -/
noncomputable def rs_gen (en : rs_E) (x y : rs_V) (kv : rs_V → Bool) (ks : Nat → Bool) : Bool := match x with
  | (tx, ax, _) => match y with
    | (ty, ay, _) => match Nat.beq tx 1 with
      | true => (match rs_eg en ax with
        | (lo, hi, _) => match Nat.ble (Nat.sub hi lo) 300 with
          | true => ks ax
          | false => match Nat.ble ty 3 with
            | false => false
            | true => kv (3, 0, 0))
      | false => match Nat.beq ty 1 with
        | true => (match rs_eg en ay with
          | (lo, hi, _) => match Nat.ble (Nat.sub hi lo) 300 with
            | true => ks ay
            | false => match Nat.ble tx 3 with
              | false => false
              | true => kv (3, 0, 0))
        | false => match Nat.ble tx 3 with
          | false => false
          | true => match Nat.ble ty 3 with
            | false => false
            | true => kv (3, 0, 0)
noncomputable def rs_f_add (en : rs_E) (x y : rs_V) (kv : rs_V → Bool) (ks : Nat → Bool) : Bool := match x with
  | (tx, ax, cx) => match y with
    | (ty, ay, cy) => match tx with
      | 0 => (match ty with
        | 0 => rs_nf (Nat.mod (Nat.add ax ay) 4294967296) (fun z => kv (0, z, 0))
        | 1 => rs_nf (Nat.mod (Nat.add cy ax) 4294967296) (fun z => kv (1, ay, z))
        | _ => rs_gen en (0, ax, cx) (ty, ay, cy) kv ks)
      | 1 => (match ty with
        | 0 => rs_nf (Nat.mod (Nat.add cx ay) 4294967296) (fun z => kv (1, ax, z))
        | _ => rs_gen en (1, ax, cx) (ty, ay, cy) kv ks)
      | _ => rs_gen en (tx, ax, cx) (ty, ay, cy) kv ks
noncomputable def rs_f_sub (en : rs_E) (x y : rs_V) (kv : rs_V → Bool) (ks : Nat → Bool) : Bool := match x with
  | (tx, ax, cx) => match y with
    | (ty, ay, cy) => match tx with
      | 0 => (match ty with
        | 0 => rs_nf (Nat.mod (Nat.add (Nat.sub 4294967296 (Nat.mod ay 4294967296)) ax) 4294967296) (fun z => kv (0, z, 0))
        | _ => rs_gen en (0, ax, cx) (ty, ay, cy) kv ks)
      | 1 => (match ty with
        | 0 => rs_nf (Nat.mod (Nat.add (Nat.sub 4294967296 (Nat.mod ay 4294967296)) cx) 4294967296) (fun z => kv (1, ax, z))
        | _ => rs_gen en (1, ax, cx) (ty, ay, cy) kv ks)
      | _ => rs_gen en (tx, ax, cx) (ty, ay, cy) kv ks
/-- by numbers alone, else by rs_gen -/
noncomputable def rs_f_nn (f : Nat → Nat → Nat) (en : rs_E) (x y : rs_V) (kv : rs_V → Bool) (ks : Nat → Bool) : Bool := match x with
  | (tx, ax, cx) => match y with
    | (ty, ay, cy) => match tx with
      | 0 => (match ty with
        | 0 => rs_nf (f ax ay) (fun z => kv (0, z, 0))
        | _ => rs_gen en (0, ax, cx) (ty, ay, cy) kv ks)
      | _ => rs_gen en (tx, ax, cx) (ty, ay, cy) kv ks
noncomputable def rs_f_and (en : rs_E) (x y : rs_V) (kv : rs_V → Bool) (ks : Nat → Bool) : Bool := match x with
  | (tx, ax, cx) => match y with
    | (ty, ay, cy) => match tx with
      | 0 => (match ty with
        | 0 => rs_nf (Nat.mod (Nat.land ax ay) 4294967296) (fun z => kv (0, z, 0))
        | _ => rs_gen en (0, ax, cx) (ty, ay, cy) kv ks)
      | 1 => (match Nat.beq ty 0 with
        | false => rs_gen en (1, ax, cx) (ty, ay, cy) kv ks
        | true => match Nat.beq cx 0 with
          | false => rs_gen en (1, ax, cx) (0, ay, cy) kv ks
          | true => kv (2, ax, ay))
      | _ => rs_gen en (tx, ax, cx) (ty, ay, cy) kv ks
/-- a split alone -/
noncomputable def rs_only (en : rs_E) (x y : rs_V) (ks : Nat → Bool) : Bool := match x with
  | (tx, ax, _) => match y with
    | (ty, ay, _) => match Nat.beq tx 1 with
      | true => ks ax
      | false => match Nat.beq ty 1 with
        | true => ks ay
        | false => false
/-- both at least 0, the second above 0 -/
def rs_pos (ax ay : Nat) : Bool := match Nat.ble ax 2147483647 with
  | false => false
  | true => match Nat.ble ay 2147483647 with
    | false => false
    | true => Nat.ble 1 ay
noncomputable def rs_f_div (en : rs_E) (x y : rs_V) (kv : rs_V → Bool) (ks : Nat → Bool) : Bool := match x with
  | (tx, ax, cx) => match y with
    | (ty, ay, cy) => match tx with
      | 0 => (match ty with
        | 0 => (match rs_pos ax ay with
          | false => false
          | true => rs_nf (Nat.div ax ay) (fun z => kv (0, z, 0)))
        | _ => rs_only en (0, ax, cx) (ty, ay, cy) ks)
      | _ => rs_only en (tx, ax, cx) (ty, ay, cy) ks
noncomputable def rs_f_rem (en : rs_E) (x y : rs_V) (kv : rs_V → Bool) (ks : Nat → Bool) : Bool := match x with
  | (tx, ax, cx) => match y with
    | (ty, ay, cy) => match tx with
      | 0 => (match ty with
        | 0 => (match rs_pos ax ay with
          | false => false
          | true => rs_nf (Nat.mod ax ay) (fun z => kv (0, z, 0)))
        | _ => rs_only en (0, ax, cx) (ty, ay, cy) ks)
      | 1 => (match Nat.beq ty 0 with
        | false => rs_only en (1, ax, cx) (ty, ay, cy) ks
        | true => match Nat.beq ay 2 with
          | false => rs_only en (1, ax, cx) (0, ay, cy) ks
          | true => match Nat.beq cx 0 with
            | false => rs_only en (1, ax, cx) (0, ay, cy) ks
            | true => match rs_eg en ax with
              | (l, _, _) => match Nat.ble 2147483648 l with
                | false => rs_only en (1, ax, cx) (0, ay, cy) ks
                | true => kv (2, ax, 1))
      | _ => rs_only en (tx, ax, cx) (ty, ay, cy) ks
/-- to the right, of what is at least 0 -/
noncomputable def rs_f_shr (en : rs_E) (x y : rs_V) (kv : rs_V → Bool) (ks : Nat → Bool) : Bool := match x with
  | (tx, ax, cx) => match y with
    | (ty, ay, cy) => match tx with
      | 0 => (match ty with
        | 0 => (match Nat.ble ax 2147483647 with
          | false => false
          | true => rs_nf (Nat.shiftRight ax (Nat.mod ay 32)) (fun z => kv (0, z, 0)))
        | _ => rs_gen en (0, ax, cx) (ty, ay, cy) kv ks)
      | _ => rs_gen en (tx, ax, cx) (ty, ay, cy) kv ks
noncomputable def rs_h_pop : rs_Hd := fun _ kt _ _ pc en lo sk hp nn cs ss => match sk with
  | _ :: sk => kt (Nat.add pc 1) en lo sk hp nn cs ss
  | [] => false
noncomputable def rs_h_dup : rs_Hd := fun _ kt _ _ pc en lo sk hp nn cs ss => match sk with
  | v :: sk => kt (Nat.add pc 1) en lo (v :: v :: sk) hp nn cs ss
  | [] => false
noncomputable def rs_h_dup2 : rs_Hd := fun _ kt _ _ pc en lo sk hp nn cs ss => match sk with
  | v :: w :: sk => kt (Nat.add pc 1) en lo (v :: w :: v :: w :: sk) hp nn cs ss
  | _ => false
def rs_h_goto : rs_Hd := fun op kt _ _ _ en lo sk hp nn cs ss => match op with
  | (_, _, a, _, _, _) => kt a en lo sk hp nn cs ss
/-- if two stand so (b), to a -/
noncomputable def rs_h_icmp : rs_Hd := fun op kt _ _ pc en lo sk hp nn cs ss => match op with
  | (_, _, a, b, _, _) => match sk with
    | y :: x :: sk => rs_res en y (fun y => rs_res en x (fun x => rs_cmp en b x y (fun en => kt a en lo sk hp nn cs ss) (fun en => kt (Nat.add pc 3) en lo sk hp nn cs ss) (fun z => rs_sp en z (fun en => kt pc en lo (y :: x :: sk) hp nn cs ss))))
    | _ => false
noncomputable def rs_h_if0 : rs_Hd := fun op kt _ _ pc en lo sk hp nn cs ss => match op with
  | (_, _, a, b, _, _) => match sk with
    | x :: sk => rs_res en x (fun x => rs_cmp en b x (0, 0, 0) (fun en => kt a en lo sk hp nn cs ss) (fun en => kt (Nat.add pc 3) en lo sk hp nn cs ss) (fun _ => false))
    | _ => false
/-- null: to a; a thing: to b -/
noncomputable def rs_h_nulls : rs_Hd := fun op kt _ _ _ en lo sk hp nn cs ss => match op with
  | (_, _, a, b, _, _) => match sk with
    | (t, _, _) :: sk => (match Nat.beq t 5 with
      | true => kt a en lo sk hp nn cs ss
      | false => match Nat.beq t 4 with
        | true => kt b en lo sk hp nn cs ss
        | false => false)
    | _ => false
noncomputable def rs_nth (l : List Nat) (d : Nat) : Nat → Nat := List.rec (motive := fun _ => Nat → Nat) (fun _ => d) (fun v _ ih i => Nat.rec (motive := fun _ => Nat) v (fun j _ => ih j) i) l
/-- from a on, b of them; else to c -/
noncomputable def rs_h_tsw : rs_Hd := fun op kt _ _ pc en lo sk hp nn cs ss => match op with
  | (_, _, a, b, c, l) => match sk with
    | x :: sk => rs_res en x (fun x => match x with
      | (t, ax, cx) => match t with
        | 0 => (match Nat.ble a ax with
          | false => kt c en lo sk hp nn cs ss
          | true => match Nat.ble b (Nat.sub ax a) with
            | true => kt c en lo sk hp nn cs ss
            | false => kt (rs_nth l c (Nat.sub ax a)) en lo sk hp nn cs ss)
        | 1 => rs_lt en ax cx (Nat.add a 2147483648) (fun en => kt c en lo sk hp nn cs ss) (fun en => rs_lt en ax cx (Nat.add (Nat.add a b) 2147483648) (fun en => rs_sp en ax (fun en => kt pc en lo ((1, ax, cx) :: sk) hp nn cs ss)) (fun en => kt c en lo sk hp nn cs ss))
        | 2 => (match Nat.beq cx 31 with
          | false => false
          | true => match rs_eg en ax with
            | (_, _, pa) => match Nat.ble 3 pa with
              | false => false
              | true => match Nat.ble b (Nat.sub pa 3) with
                | true => false
                | false => match Nat.beq a 0 with
                  | false => false
                  | true => kt (rs_nth l c (Nat.sub pa 3)) en lo sk hp nn cs ss)
        | _ => false)
    | _ => false
/-- a: to b; c: to the first of l; else to the second -/
noncomputable def rs_h_lsw : rs_Hd := fun op kt _ _ _ en lo sk hp nn cs ss => match op with
  | (_, _, a, b, c, l) => match sk with
    | x :: sk => rs_res en x (fun x => rs_cmp en 0 x (0, a, 0) (fun en => kt b en lo sk hp nn cs ss) (fun en => rs_cmp en 0 x (0, c, 0) (fun en => kt (rs_nth l 0 0) en lo sk hp nn cs ss) (fun en => kt (rs_nth l 0 1) en lo sk hp nn cs ss) (fun _ => false)) (fun _ => false))
    | _ => false
/-- field c of a thing of class b -/
noncomputable def rs_h_get : rs_Hd := fun op kt _ _ pc en lo sk hp nn cs ss => match op with
  | (_, _, _, b, c, _) => match sk with
    | (t, i, _) :: sk => (match Nat.beq t 4 with
      | false => false
      | true => match rt_g hp i with
        | (to, ci, _, fs) => match Nat.beq to 0 with
          | false => false
          | true => match Nat.beq ci b with
            | false => false
            | true => match rt_g fs c with
              | (tv, av, bv) => kt (Nat.add pc 3) en lo ((tv, av, bv) :: sk) hp nn cs ss)
    | _ => false
noncomputable def rs_put (fit : rs_V → Bool) : rs_Hd := fun op kt _ _ pc en lo sk hp nn cs ss => match op with
  | (_, _, _, b, c, _) => match sk with
    | v :: (t, i, _) :: sk => (match Nat.beq t 4 with
      | false => false
      | true => match fit v with
        | false => false
        | true => match rt_g hp i with
          | (to, ci, n, fs) => match Nat.beq to 0 with
            | false => false
            | true => match Nat.beq ci b with
              | false => false
              | true => match Nat.ble n c with
                | true => false
                | false => rt_s v 5 c fs (fun fs => rt_s (0, ci, n, fs) 10 i hp (fun hp => kt (Nat.add pc 3) en lo sk hp nn cs ss)))
    | _ => false
def rs_fitI (v : rs_V) : Bool := match v with
  | (t, _, _) => Nat.ble t 3
def rs_fitZ (v : rs_V) : Bool := match v with
  | (t, a, _) => match t with
    | 0 => Nat.ble a 1
    | _ => false
def rs_fitA (v : rs_V) : Bool := match v with
  | (t, _, _) => match Nat.beq t 4 with
    | true => true
    | false => Nat.beq t 5
noncomputable def rs_h_len : rs_Hd := fun _ kt _ _ pc en lo sk hp nn cs ss => match sk with
  | (t, i, _) :: sk => (match Nat.beq t 4 with
    | false => false
    | true => match rt_g hp i with
      | (to, _, n, _) => match to with
        | 1 => kt (Nat.add pc 1) en lo ((0, n, 0) :: sk) hp nn cs ss
        | 2 => kt (Nat.add pc 1) en lo ((0, n, 0) :: sk) hp nn cs ss
        | _ => false)
  | _ => false
/-- the same from a on, n of them -/
noncomputable def rs_same (fs : Lean.RArray rs_V) (v : rs_V) (n : Nat) : Nat → Bool := Nat.rec (motive := fun _ => Nat → Bool) (fun _ => true) (fun _ ih j => match v with
  | (t, a, b) => match rt_g fs j with
    | (tv, av, bv) => match Nat.beq t tv with
      | false => false
      | true => match Nat.beq a av with
        | false => false
        | true => match Nat.beq b bv with
          | false => false
          | true => rs_nf (Nat.add j 1) (fun j => ih j)) n
noncomputable def rs_h_iald : rs_Hd := fun _ kt _ _ pc en lo sk hp nn cs ss => match sk with
  | x :: (t, i, w) :: sk => (match Nat.beq t 4 with
    | false => false
    | true => match rt_g hp i with
      | (to, _, n, fs) => match Nat.beq to 1 with
        | false => false
        | true => rs_res en x (fun x => match x with
          | (tx, ax, cx) => match tx with
            | 0 => (match Nat.ble n ax with
              | true => false
              | false => match rt_g fs ax with
                | (tv, av, bv) => match Nat.ble tv 3 with
                  | false => false
                  | true => kt (Nat.add pc 1) en lo ((tv, av, bv) :: sk) hp nn cs ss)
            | 1 => (match rs_eg en ax with
              | (l, h, _) => match Nat.beq (Nat.div (Nat.add l cx) 4294967296) (Nat.div (Nat.add h cx) 4294967296) with
                | false => false
                | true => match Nat.ble 2147483648 (Nat.mod (Nat.add l cx) 4294967296) with
                  | false => false
                  | true => match Nat.ble (Nat.add n 2147483648) (Nat.mod (Nat.add h cx) 4294967296) with
                    | true => false
                    | false => match rt_g fs (Nat.sub (Nat.mod (Nat.add l cx) 4294967296) 2147483648) with
                      | (tv, av, bv) => match Nat.ble tv 3 with
                        | false => false
                        | true => match rs_same fs (tv, av, bv) (Nat.add (Nat.sub h l) 1) (Nat.sub (Nat.mod (Nat.add l cx) 4294967296) 2147483648) with
                          | true => kt (Nat.add pc 1) en lo ((tv, av, bv) :: sk) hp nn cs ss
                          | false => rs_sp en ax (fun en => kt pc en lo ((1, ax, cx) :: (4, i, w) :: sk) hp nn cs ss))
            | _ => false))
  | _ => false
def rs_dp (n : Nat) : Nat := match Nat.ble n 64 with
  | true => 6
  | false => 13
noncomputable def rs_h_iast : rs_Hd := fun _ kt _ _ pc en lo sk hp nn cs ss => match sk with
  | v :: x :: (t, i, w) :: sk => (match Nat.beq t 4 with
    | false => false
    | true => match rs_fitI v with
      | false => false
      | true => match rt_g hp i with
        | (to, z, n, fs) => match Nat.beq to 1 with
          | false => false
          | true => rs_res en x (fun x => match x with
            | (tx, ax, cx) => match tx with
              | 0 => (match Nat.ble n ax with
                | true => false
                | false => rt_s v (rs_dp n) ax fs (fun fs => rt_s (1, z, n, fs) 10 i hp (fun hp => kt (Nat.add pc 1) en lo sk hp nn cs ss)))
              | 1 => rs_sp en ax (fun en => kt pc en lo (v :: (1, ax, cx) :: (4, i, w) :: sk) hp nn cs ss)
              | _ => false))
  | _ => false
noncomputable def rs_h_aald : rs_Hd := fun _ kt _ _ pc en lo sk hp nn cs ss => match sk with
  | x :: (t, i, w) :: sk => (match Nat.beq t 4 with
    | false => false
    | true => match rt_g hp i with
      | (to, _, n, fs) => match Nat.beq to 2 with
        | false => false
        | true => rs_res en x (fun x => match x with
          | (tx, ax, cx) => match tx with
            | 0 => (match Nat.ble n ax with
              | true => false
              | false => match rt_g fs ax with
                | (tv, av, bv) => kt (Nat.add pc 1) en lo ((tv, av, bv) :: sk) hp nn cs ss)
            | 1 => rs_sp en ax (fun en => kt pc en lo ((1, ax, cx) :: (4, i, w) :: sk) hp nn cs ss)
            | _ => false))
  | _ => false
/-- a thing of class b into a row of class a -/
noncomputable def rs_aok (t0 ci : Nat) : Bool := match t0 with
  | 1 => Nat.beq ci 7
  | 2 => Nat.beq ci 2
  | 3 => Nat.beq ci 5
  | 4 => Nat.beq ci 1
  | 5 => Nat.beq ci 4
  | _ => false
noncomputable def rs_h_aast : rs_Hd := fun _ kt _ _ pc en lo sk hp nn cs ss => match sk with
  | (tv, av, _) :: (tx, ax, _) :: (t, i, _) :: sk => (match Nat.beq t 4 with
    | false => false
    | true => match Nat.beq tx 0 with
      | false => false
      | true => match Nat.beq tv 4 with
        | false => false
        | true => match rt_g hp i with
          | (to, z, n, fs) => match Nat.beq to 2 with
            | false => false
            | true => match Nat.ble n ax with
              | true => false
              | false => match rt_g hp av with
                | (tw, ci, _, _) => match Nat.beq tw 0 with
                  | false => false
                  | true => match rs_aok z ci with
                    | false => false
                    | true => rt_s (4, av, 0) (rs_dp n) ax fs (fun fs => rt_s (2, z, n, fs) 10 i hp (fun hp => kt (Nat.add pc 1) en lo sk hp nn cs ss)))
  | _ => false
/-- one thing more -/
noncomputable def rs_mk (o : rs_O) (n : Nat) (capc caps : Nat) (kt : rs_H → Nat → Nat → Nat → Bool) (hp : rs_H) (nn cs ss : Nat) : Bool := match Nat.ble capc cs with
  | true => false
  | false => match Nat.ble (Nat.add ss n) caps with
    | false => false
    | true => match Nat.ble 1024 nn with
      | true => false
      | false => rt_s o 10 nn hp (fun hp => rs_nf (Nat.add nn 1) (fun nn => rs_nf (Nat.add cs 1) (fun cs => rs_nf (Nat.add ss n) (fun ss => kt hp nn cs ss))))
