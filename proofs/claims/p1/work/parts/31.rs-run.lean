/-! things made; calls; returns; the run -/
def rs_dv : Lean.RArray (Lean.RArray rs_V) := (.branch 0 (.branch 0 (.branch 0 (.branch 0 (.leaf (.branch 0 (.branch 0 (.branch 0 (.branch 0 (.branch 0 (.leaf (0, 0, 0)) (.leaf (0, 0, 0))) (.leaf (0, 0, 0))) (.leaf (0, 0, 0))) (.branch 0 (.branch 0 (.branch 0 (.leaf (0, 0, 0)) (.leaf (0, 0, 0))) (.leaf (0, 0, 0))) (.leaf (0, 0, 0)))) (.branch 0 (.branch 0 (.branch 0 (.branch 0 (.leaf (0, 0, 0)) (.leaf (0, 0, 0))) (.leaf (0, 0, 0))) (.leaf (0, 0, 0))) (.leaf (0, 0, 0))))) (.leaf (.branch 0 (.branch 0 (.branch 0 (.branch 0 (.branch 0 (.leaf (5, 0, 0)) (.leaf (0, 0, 0))) (.leaf (0, 0, 0))) (.branch 0 (.branch 0 (.leaf (0, 0, 0)) (.leaf (0, 0, 0))) (.leaf (0, 0, 0)))) (.branch 0 (.branch 0 (.branch 0 (.leaf (0, 0, 0)) (.leaf (0, 0, 0))) (.leaf (0, 0, 0))) (.branch 0 (.branch 0 (.leaf (5, 0, 0)) (.leaf (0, 0, 0))) (.leaf (0, 0, 0))))) (.branch 0 (.branch 0 (.branch 0 (.branch 0 (.leaf (0, 0, 0)) (.leaf (0, 0, 0))) (.leaf (0, 0, 0))) (.branch 0 (.branch 0 (.leaf (5, 0, 0)) (.leaf (0, 0, 0))) (.leaf (0, 0, 0)))) (.branch 0 (.branch 0 (.branch 0 (.leaf (0, 0, 0)) (.leaf (0, 0, 0))) (.leaf (0, 0, 0))) (.leaf (0, 0, 0))))))) (.branch 0 (.leaf (.branch 0 (.branch 0 (.branch 0 (.branch 0 (.branch 0 (.leaf (5, 0, 0)) (.leaf (0, 0, 0))) (.leaf (0, 0, 0))) (.leaf (0, 0, 0))) (.branch 0 (.branch 0 (.branch 0 (.leaf (0, 0, 0)) (.leaf (0, 0, 0))) (.leaf (0, 0, 0))) (.leaf (0, 0, 0)))) (.branch 0 (.branch 0 (.branch 0 (.branch 0 (.leaf (0, 0, 0)) (.leaf (0, 0, 0))) (.leaf (0, 0, 0))) (.leaf (0, 0, 0))) (.branch 0 (.branch 0 (.branch 0 (.leaf (0, 0, 0)) (.leaf (0, 0, 0))) (.leaf (0, 0, 0))) (.leaf (0, 0, 0)))))) (.leaf (.leaf (0, 0, 0))))) (.branch 0 (.branch 0 (.leaf (.branch 0 (.branch 0 (.branch 0 (.branch 0 (.branch 0 (.leaf (5, 0, 0)) (.leaf (0, 0, 0))) (.leaf (0, 0, 0))) (.branch 0 (.branch 0 (.leaf (0, 0, 0)) (.leaf (0, 0, 0))) (.leaf (0, 0, 0)))) (.branch 0 (.branch 0 (.branch 0 (.leaf (0, 0, 0)) (.leaf (0, 0, 0))) (.leaf (0, 0, 0))) (.branch 0 (.branch 0 (.leaf (0, 0, 0)) (.leaf (0, 0, 0))) (.leaf (0, 0, 0))))) (.branch 0 (.branch 0 (.branch 0 (.branch 0 (.leaf (0, 0, 0)) (.leaf (0, 0, 0))) (.leaf (0, 0, 0))) (.branch 0 (.branch 0 (.leaf (0, 0, 0)) (.leaf (0, 0, 0))) (.leaf (0, 0, 0)))) (.branch 0 (.branch 0 (.branch 0 (.leaf (0, 0, 0)) (.leaf (0, 0, 0))) (.leaf (0, 0, 0))) (.leaf (0, 0, 0)))))) (.leaf (.branch 0 (.branch 0 (.branch 0 (.branch 0 (.branch 0 (.leaf (5, 0, 0)) (.leaf (0, 0, 0))) (.leaf (0, 0, 0))) (.leaf (0, 0, 0))) (.branch 0 (.branch 0 (.branch 0 (.leaf (5, 0, 0)) (.leaf (0, 0, 0))) (.leaf (0, 0, 0))) (.leaf (0, 0, 0)))) (.branch 0 (.branch 0 (.branch 0 (.branch 0 (.leaf (5, 0, 0)) (.leaf (0, 0, 0))) (.leaf (0, 0, 0))) (.leaf (0, 0, 0))) (.branch 0 (.branch 0 (.branch 0 (.leaf (5, 0, 0)) (.leaf (0, 0, 0))) (.leaf (0, 0, 0))) (.leaf (0, 0, 0))))))) (.branch 0 (.leaf (.branch 0 (.branch 0 (.branch 0 (.branch 0 (.branch 0 (.leaf (5, 0, 0)) (.leaf (0, 0, 0))) (.leaf (0, 0, 0))) (.leaf (0, 0, 0))) (.branch 0 (.branch 0 (.branch 0 (.leaf (0, 0, 0)) (.leaf (0, 0, 0))) (.leaf (0, 0, 0))) (.leaf (0, 0, 0)))) (.branch 0 (.branch 0 (.branch 0 (.branch 0 (.leaf (0, 0, 0)) (.leaf (0, 0, 0))) (.leaf (0, 0, 0))) (.leaf (0, 0, 0))) (.leaf (0, 0, 0))))) (.leaf (.leaf (0, 0, 0)))))) (.branch 0 (.branch 0 (.branch 0 (.leaf (.branch 0 (.branch 0 (.branch 0 (.branch 0 (.branch 0 (.leaf (5, 0, 0)) (.leaf (0, 0, 0))) (.leaf (0, 0, 0))) (.branch 0 (.branch 0 (.leaf (0, 0, 0)) (.leaf (0, 0, 0))) (.leaf (0, 0, 0)))) (.branch 0 (.branch 0 (.branch 0 (.leaf (5, 0, 0)) (.leaf (0, 0, 0))) (.leaf (0, 0, 0))) (.branch 0 (.branch 0 (.leaf (0, 0, 0)) (.leaf (0, 0, 0))) (.leaf (0, 0, 0))))) (.branch 0 (.branch 0 (.branch 0 (.branch 0 (.leaf (5, 0, 0)) (.leaf (0, 0, 0))) (.leaf (0, 0, 0))) (.branch 0 (.branch 0 (.leaf (0, 0, 0)) (.leaf (0, 0, 0))) (.leaf (0, 0, 0)))) (.branch 0 (.branch 0 (.branch 0 (.leaf (5, 0, 0)) (.leaf (0, 0, 0))) (.leaf (0, 0, 0))) (.branch 0 (.branch 0 (.leaf (0, 0, 0)) (.leaf (0, 0, 0))) (.leaf (0, 0, 0))))))) (.leaf (.branch 0 (.branch 0 (.branch 0 (.branch 0 (.branch 0 (.leaf (5, 0, 0)) (.leaf (0, 0, 0))) (.branch 0 (.leaf (0, 0, 0)) (.leaf (0, 0, 0)))) (.branch 0 (.branch 0 (.leaf (5, 0, 0)) (.leaf (0, 0, 0))) (.leaf (0, 0, 0)))) (.branch 0 (.branch 0 (.branch 0 (.leaf (5, 0, 0)) (.leaf (0, 0, 0))) (.leaf (0, 0, 0))) (.branch 0 (.branch 0 (.leaf (0, 0, 0)) (.leaf (0, 0, 0))) (.leaf (0, 0, 0))))) (.branch 0 (.branch 0 (.branch 0 (.branch 0 (.leaf (5, 0, 0)) (.leaf (0, 0, 0))) (.branch 0 (.leaf (0, 0, 0)) (.leaf (0, 0, 0)))) (.branch 0 (.branch 0 (.leaf (5, 0, 0)) (.leaf (0, 0, 0))) (.leaf (0, 0, 0)))) (.branch 0 (.branch 0 (.branch 0 (.leaf (5, 0, 0)) (.leaf (0, 0, 0))) (.leaf (0, 0, 0))) (.branch 0 (.branch 0 (.leaf (0, 0, 0)) (.leaf (0, 0, 0))) (.leaf (0, 0, 0)))))))) (.branch 0 (.leaf (.branch 0 (.branch 0 (.branch 0 (.branch 0 (.branch 0 (.leaf (5, 0, 0)) (.leaf (0, 0, 0))) (.branch 0 (.leaf (0, 0, 0)) (.leaf (0, 0, 0)))) (.branch 0 (.branch 0 (.leaf (0, 0, 0)) (.leaf (0, 0, 0))) (.leaf (0, 0, 0)))) (.branch 0 (.branch 0 (.branch 0 (.leaf (0, 0, 0)) (.leaf (0, 0, 0))) (.leaf (0, 0, 0))) (.branch 0 (.branch 0 (.leaf (0, 0, 0)) (.leaf (0, 0, 0))) (.leaf (0, 0, 0))))) (.branch 0 (.branch 0 (.branch 0 (.branch 0 (.leaf (5, 0, 0)) (.leaf (0, 0, 0))) (.branch 0 (.leaf (0, 0, 0)) (.leaf (0, 0, 0)))) (.branch 0 (.branch 0 (.leaf (0, 0, 0)) (.leaf (0, 0, 0))) (.leaf (0, 0, 0)))) (.branch 0 (.branch 0 (.branch 0 (.leaf (0, 0, 0)) (.leaf (0, 0, 0))) (.leaf (0, 0, 0))) (.branch 0 (.branch 0 (.leaf (0, 0, 0)) (.leaf (0, 0, 0))) (.leaf (0, 0, 0))))))) (.leaf (.leaf (0, 0, 0))))) (.branch 0 (.branch 0 (.leaf (.branch 0 (.branch 0 (.branch 0 (.branch 0 (.branch 0 (.leaf (5, 0, 0)) (.leaf (0, 0, 0))) (.leaf (0, 0, 0))) (.leaf (0, 0, 0))) (.branch 0 (.branch 0 (.branch 0 (.leaf (5, 0, 0)) (.leaf (0, 0, 0))) (.leaf (0, 0, 0))) (.leaf (0, 0, 0)))) (.branch 0 (.branch 0 (.branch 0 (.branch 0 (.leaf (5, 0, 0)) (.leaf (0, 0, 0))) (.leaf (0, 0, 0))) (.leaf (0, 0, 0))) (.branch 0 (.branch 0 (.branch 0 (.leaf (0, 0, 0)) (.leaf (0, 0, 0))) (.leaf (0, 0, 0))) (.leaf (0, 0, 0)))))) (.leaf (.branch 0 (.branch 0 (.branch 0 (.branch 0 (.branch 0 (.leaf (0, 0, 0)) (.leaf (0, 0, 0))) (.branch 0 (.leaf (0, 0, 0)) (.leaf (0, 0, 0)))) (.branch 0 (.branch 0 (.leaf (0, 0, 0)) (.leaf (0, 0, 0))) (.branch 0 (.leaf (5, 0, 0)) (.leaf (0, 0, 0))))) (.branch 0 (.branch 0 (.branch 0 (.leaf (5, 0, 0)) (.leaf (0, 0, 0))) (.branch 0 (.leaf (5, 0, 0)) (.leaf (0, 0, 0)))) (.branch 0 (.branch 0 (.leaf (0, 0, 0)) (.leaf (0, 0, 0))) (.leaf (0, 0, 0))))) (.branch 0 (.branch 0 (.branch 0 (.branch 0 (.leaf (5, 0, 0)) (.leaf (0, 0, 0))) (.branch 0 (.leaf (0, 0, 0)) (.leaf (0, 0, 0)))) (.branch 0 (.branch 0 (.leaf (0, 0, 0)) (.leaf (0, 0, 0))) (.leaf (0, 0, 0)))) (.branch 0 (.branch 0 (.branch 0 (.leaf (5, 0, 0)) (.leaf (0, 0, 0))) (.branch 0 (.leaf (0, 0, 0)) (.leaf (0, 0, 0)))) (.branch 0 (.branch 0 (.leaf (0, 0, 0)) (.leaf (0, 0, 0))) (.leaf (0, 0, 0)))))))) (.branch 0 (.leaf (.branch 0 (.branch 0 (.branch 0 (.branch 0 (.branch 0 (.leaf (5, 0, 0)) (.leaf (0, 0, 0))) (.branch 0 (.leaf (0, 0, 0)) (.leaf (0, 0, 0)))) (.branch 0 (.branch 0 (.leaf (0, 0, 0)) (.leaf (0, 0, 0))) (.branch 0 (.leaf (0, 0, 0)) (.leaf (0, 0, 0))))) (.branch 0 (.branch 0 (.branch 0 (.leaf (0, 0, 0)) (.leaf (0, 0, 0))) (.branch 0 (.leaf (0, 0, 0)) (.leaf (0, 0, 0)))) (.branch 0 (.branch 0 (.leaf (0, 0, 0)) (.leaf (0, 0, 0))) (.branch 0 (.leaf (0, 0, 0)) (.leaf (0, 0, 0)))))) (.branch 0 (.branch 0 (.branch 0 (.branch 0 (.leaf (0, 0, 0)) (.leaf (0, 0, 0))) (.branch 0 (.leaf (0, 0, 0)) (.leaf (0, 0, 0)))) (.branch 0 (.branch 0 (.leaf (0, 0, 0)) (.leaf (0, 0, 0))) (.branch 0 (.leaf (0, 0, 0)) (.leaf (0, 0, 0))))) (.branch 0 (.branch 0 (.branch 0 (.leaf (0, 0, 0)) (.leaf (0, 0, 0))) (.branch 0 (.leaf (0, 0, 0)) (.leaf (0, 0, 0)))) (.branch 0 (.branch 0 (.leaf (0, 0, 0)) (.leaf (0, 0, 0))) (.branch 0 (.leaf (0, 0, 0)) (.leaf (0, 0, 0)))))))) (.leaf (.leaf (0, 0, 0)))))))
/-- of class b, c fields -/
noncomputable def rs_h_new : rs_Hd := fun op kt _ _ pc en lo sk hp nn cs ss => match op with
  | (_, _, _, b, c, l) => rs_mk (0, b, c, rt_g rs_dv b) c (rs_nth l 0 0) (rs_nth l 0 1) (fun hp n1 cs ss => kt (Nat.add pc 3) en lo ((4, nn, 0) :: sk) hp n1 cs ss) hp nn cs ss
noncomputable def rs_h_newa : rs_Hd := fun op kt _ _ pc en lo sk hp nn cs ss => match op with
  | (_, _, _, _, _, l) => match sk with
    | (t, n, _) :: sk => (match Nat.beq t 0 with
      | false => false
      | true => match Nat.ble n 8192 with
        | false => false
        | true => rs_mk (1, 0, n, .leaf (0, 0, 0)) n (rs_nth l 0 0) (rs_nth l 0 1) (fun hp n1 cs ss => kt (Nat.add pc 2) en lo ((4, nn, 0) :: sk) hp n1 cs ss) hp nn cs ss)
    | _ => false
noncomputable def rs_h_anew : rs_Hd := fun op kt _ _ pc en lo sk hp nn cs ss => match op with
  | (_, _, _, b, _, l) => match sk with
    | (t, n, _) :: sk => (match Nat.beq t 0 with
      | false => false
      | true => match Nat.ble n 8192 with
        | false => false
        | true => rs_mk (2, b, n, .leaf (5, 0, 0)) n (rs_nth l 0 0) (rs_nth l 0 1) (fun hp n1 cs ss => kt (Nat.add pc 3) en lo ((4, nn, 0) :: sk) hp n1 cs ss) hp nn cs ss)
    | _ => false
noncomputable def rs_len (l : List rs_V) : Nat := List.rec (motive := fun _ => Nat) 0 (fun _ _ n => Nat.succ n) l
noncomputable def rs_h_oini : rs_Hd := fun _ kt _ _ pc en lo sk hp nn cs ss => match sk with
  | (t, _, _) :: sk => (match Nat.beq t 4 with
    | false => false
    | true => match Nat.ble (rs_len sk) 8 with
      | false => false
      | true => kt (Nat.add pc 3) en lo sk hp nn cs ss)
  | _ => false
/-- the larger, the smaller (lt: the first is taken if it is less) -/
noncomputable def rs_mm (big : Bool) : rs_Hd := fun _ kt _ _ pc en lo sk hp nn cs ss => match sk with
  | (ty, y, _) :: (tx, x, _) :: sk => (match Nat.beq ty 0 with
    | false => false
    | true => match Nat.beq tx 0 with
      | false => false
      | true => match Nat.ble (rs_len sk) 8 with
        | false => false
        | true => match Nat.ble (rs_bi y) (rs_bi x) with
          | true => (match big with
            | true => kt (Nat.add pc 3) en lo ((0, x, 0) :: sk) hp nn cs ss
            | false => kt (Nat.add pc 3) en lo ((0, y, 0) :: sk) hp nn cs ss)
          | false => (match big with
            | true => kt (Nat.add pc 3) en lo ((0, y, 0) :: sk) hp nn cs ss
            | false => kt (Nat.add pc 3) en lo ((0, x, 0) :: sk) hp nn cs ss))
  | _ => false
/-- all of a row of numbers into another as long -/
noncomputable def rs_h_acp : rs_Hd := fun _ kt _ _ pc en lo sk hp nn cs ss => match sk with
  | (tn, n, _) :: (td, dp, _) :: (tb, b, _) :: (ts, sp, _) :: (ta, a, _) :: sk => (match Nat.beq (Nat.add (Nat.add tn (Nat.add td dp)) (Nat.add ts sp)) 0 with
    | false => false
    | true => match Nat.beq ta 4 with
      | false => false
      | true => match Nat.beq tb 4 with
        | false => false
        | true => match Nat.ble (rs_len sk) 8 with
          | false => false
          | true => match rt_g hp a with
            | (oa, _, na, fa) => match rt_g hp b with
              | (ob, zb, nb, _) => match Nat.beq oa 1 with
                | false => false
                | true => match Nat.beq ob 1 with
                  | false => false
                  | true => match Nat.beq na n with
                    | false => false
                    | true => match Nat.beq nb n with
                      | false => false
                      | true => rt_s (1, zb, nb, fa) 10 b hp (fun hp => kt (Nat.add pc 3) en lo sk hp nn cs ss))
  | _ => false
noncomputable def rs_tk (n : Nat) : List rs_V → List rs_V → (List rs_V → List rs_V → Bool) → Bool := Nat.rec (motive := fun _ => List rs_V → List rs_V → (List rs_V → List rs_V → Bool) → Bool) (fun sk acc k => k acc sk) (fun _ ih sk acc k => match sk with
  | [] => false
  | v :: sk => ih sk (v :: acc) k) n
/-- a call of b with c numbers; l: answer's kind, its cells, its slots, the caller's cells and slots, the receiver's class -/
noncomputable def rs_call (virt : Bool) : rs_Hd := fun op kt kc _ pc en lo sk hp nn cs ss => match op with
  | (_, _, _, b, c, l) => rs_tk c sk [] (fun as rest => match Nat.ble (rs_len rest) 8 with
    | false => false
    | true => match (match virt with
        | false => true
        | true => match as with
          | (t, i, _) :: _ => (match Nat.beq t 4 with
            | false => false
            | true => match rt_g hp i with
              | (to, ci, _, _) => match Nat.beq to 0 with
                | false => false
                | true => Nat.beq ci (rs_nth l 0 5))
          | _ => false) with
      | false => false
      | true => rs_nf (Nat.add cs (rs_nth l 0 1)) (fun c1 => rs_nf (Nat.add ss (rs_nth l 0 2)) (fun s1 => match Nat.ble c1 (rs_nth l 0 3) with
        | false => false
        | true => match Nat.ble s1 (rs_nth l 0 4) with
          | false => false
          | true => kc b en as hp nn (fun en v hp nn => match Nat.beq (rs_nth l 0 0) 0 with
            | true => kt (Nat.add pc 3) en lo rest hp nn c1 s1
            | false => kt (Nat.add pc 3) en lo (v :: rest) hp nn c1 s1))))
noncomputable def rs_h_ireti : rs_Hd := fun _ _ _ kr _ en _ sk hp nn _ _ => match sk with
  | [v] => rs_res en v (fun v => match rs_fitI v with
    | false => false
    | true => kr en v hp nn)
  | _ => false
noncomputable def rs_h_iretz : rs_Hd := fun _ _ _ kr _ en _ sk hp nn _ _ => match sk with
  | [v] => (match rs_fitZ v with
    | false => false
    | true => kr en v hp nn)
  | _ => false
noncomputable def rs_h_aret : rs_Hd := fun _ _ _ kr _ en _ sk hp nn _ _ => match sk with
  | [v] => (match rs_fitA v with
    | false => false
    | true => kr en v hp nn)
  | _ => false
noncomputable def rs_h_vret : rs_Hd := fun _ _ _ kr _ en _ sk hp nn _ _ => match sk with
  | [] => kr en (9, 0, 0) hp nn
  | _ => false
noncomputable def rs_h_sal : rs_Hd := fun _ kt _ _ pc en lo sk hp nn cs ss => kt (Nat.add pc 1) en lo ((6, 0, 0) :: sk) hp nn cs ss
noncomputable def rs_h_sld : rs_Hd := fun _ kt _ _ pc en lo sk hp nn cs ss => match sk with
  | (tx, x, _) :: (t, _, _) :: sk => (match Nat.beq t 6 with
    | false => false
    | true => match Nat.beq tx 0 with
      | false => false
      | true => match Nat.ble 6 x with
        | true => false
        | false => match rs_eg en 6 with
          | (l, _, _) => match Nat.ble 2147483654 l with
            | false => false
            | true => kt (Nat.add pc 1) en lo ((1, x, 0) :: sk) hp nn cs ss)
  | _ => false
noncomputable def rs_h_slen : rs_Hd := fun _ kt _ _ pc en lo sk hp nn cs ss => match sk with
  | (t, _, _) :: sk => (match Nat.beq t 6 with
    | false => false
    | true => kt (Nat.add pc 1) en lo ((1, 6, 0) :: sk) hp nn cs ss)
  | _ => false
noncomputable def rs_hs : Lean.RArray rs_Hd := (.branch 0 (.branch 0 (.branch 0 (.branch 0 (.branch 0 (.branch 0 (.leaf rs_h_no) (.leaf rs_h_nulls)) (.branch 0 (.leaf (rs_two rs_f_add)) (.leaf rs_h_oini))) (.branch 0 (.branch 0 (.leaf rs_h_ild) (.leaf rs_h_len)) (.branch 0 (.leaf (rs_two rs_f_shr)) (.leaf rs_h_iretz)))) (.branch 0 (.branch 0 (.branch 0 (.leaf rs_h_con) (.leaf rs_h_get)) (.branch 0 (.leaf (rs_two rs_f_rem)) (.leaf (rs_call true)))) (.branch 0 (.branch 0 (.leaf rs_h_ist) (.leaf rs_h_aast)) (.branch 0 (.leaf rs_h_dup2) (.leaf rs_h_sld))))) (.branch 0 (.branch 0 (.branch 0 (.branch 0 (.leaf rs_h_con) (.leaf rs_h_tsw)) (.branch 0 (.leaf (rs_two (rs_f_nn (fun a b => Nat.mod (Nat.mul a b) 4294967296)))) (.leaf (rs_mm false)))) (.branch 0 (.branch 0 (.leaf rs_h_ald) (.leaf rs_h_iast)) (.branch 0 (.leaf rs_h_pop) (.leaf rs_h_vret)))) (.branch 0 (.branch 0 (.branch 0 (.leaf rs_h_nul) (.leaf (rs_put rs_fitZ))) (.branch 0 (.leaf (rs_two (rs_f_nn (fun a b => Nat.mod (Nat.lor a b) 4294967296)))) (.leaf (rs_call false)))) (.branch 0 (.branch 0 (.leaf rs_h_ast) (.leaf rs_h_newa)) (.branch 0 (.leaf rs_h_icmp) (.leaf rs_h_no)))))) (.branch 0 (.branch 0 (.branch 0 (.branch 0 (.branch 0 (.leaf rs_h_con) (.leaf rs_h_nulls)) (.branch 0 (.leaf (rs_two rs_f_sub)) (.leaf (rs_mm true)))) (.branch 0 (.branch 0 (.leaf rs_h_ald) (.leaf rs_h_iald)) (.branch 0 (.leaf (rs_two (rs_f_nn (fun a b => Nat.shiftRight (Nat.mod a 4294967296) (Nat.mod b 32))))) (.leaf rs_h_aret)))) (.branch 0 (.branch 0 (.branch 0 (.leaf rs_h_con) (.leaf (rs_put rs_fitI))) (.branch 0 (.leaf (rs_two rs_f_and)) (.leaf (rs_call false)))) (.branch 0 (.branch 0 (.leaf rs_h_ast) (.leaf rs_h_new)) (.branch 0 (.leaf rs_h_goto) (.leaf rs_h_slen))))) (.branch 0 (.branch 0 (.branch 0 (.branch 0 (.leaf rs_h_con) (.leaf rs_h_lsw)) (.branch 0 (.leaf (rs_two rs_f_div)) (.leaf rs_h_acp))) (.branch 0 (.branch 0 (.leaf rs_h_ist) (.leaf rs_h_aald)) (.branch 0 (.leaf rs_h_dup) (.leaf rs_h_sal)))) (.branch 0 (.branch 0 (.branch 0 (.leaf rs_h_ild) (.leaf (rs_put rs_fitA))) (.branch 0 (.leaf (rs_two (rs_f_nn (fun a b => Nat.mod (Nat.shiftLeft a (Nat.mod b 32)) 4294967296)))) (.leaf rs_h_ireti))) (.branch 0 (.branch 0 (.leaf rs_h_inc) (.leaf rs_h_anew)) (.branch 0 (.leaf rs_h_if0) (.leaf rs_h_no)))))))
/-- the run: n instructions at most, of method z; ct: all methods' instructions; k: what is wanted of each end -/
noncomputable def rs_run (ct : Lean.RArray (Lean.RArray rs_I)) (n : Nat) : Nat → rs_KR → Nat → rs_E → List rs_V → List rs_V → rs_H → Nat → Nat → Nat → Bool :=
  Nat.rec (motive := fun _ => Nat → rs_KR → Nat → rs_E → List rs_V → List rs_V → rs_H → Nat → Nat → Nat → Bool) (fun _ _ _ _ _ _ _ _ _ _ => false)
    (fun _ ih z k pc en lo sk hp nn cs ss => match rt_g (rt_g ct z) pc with
      | (p1, cd, a, b, c, l) => match Nat.beq p1 pc with
        | false => false
        | true => rt_g rs_hs cd (p1, cd, a, b, c, l) (fun pc en lo sk hp nn cs ss => ih z k pc en lo sk hp nn cs ss) (fun q en as hp nn kr => ih q kr 0 en as [] hp nn 0 0) k p1 en lo sk hp nn cs ss) n
