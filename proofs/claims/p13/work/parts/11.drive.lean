/-! linear forms: measures -/
def rk_lv (r : Nat → Value) : List (Nat × Int) → Int
  | [] => 0
  | q :: l => q.2 * rk_toI (r q.1) + rk_lv r l
def rk_low (en : List rk_AV) : List (Nat × Int) → Option Int
  | [] => some 0
  | q :: l => match rk_low en l with
    | none => none
    | some w => if q.2 = 0 then some w else match en[q.1]? with
      | some (0, a, b) => some ((if 0 ≤ q.2 then q.2 * a else q.2 * b) + w)
      | _ => none
theorem rk_low_ok {G : Nat → Option Nat} {X : Int} {en : List rk_AV} {r : Nat → Value} (h : ∀ y t, en[y]? = some t → rk_has G X t (r y)) : ∀ (l : List (Nat × Int)) (w : Int), rk_low en l = some w → w ≤ rk_lv r l
  | [], w, hw => by cases hw; exact Int.le_refl 0
  | q :: l, w, hw => by
    unfold rk_low at hw
    split at hw
    · cases hw
    · rename_i w1 h1
      have ih := rk_low_ok h l w1 h1
      unfold rk_lv
      split at hw
      · rename_i h0
        cases hw
        rw [h0, Int.zero_mul]
        omega
      · split at hw
        · rename_i a b ht
          cases hw
          obtain ⟨x, ex, p1, p2⟩ := h _ _ ht
          rw [ex]
          simp only [rk_toI]
          split
          · rename_i hq
            have := Int.mul_le_mul_of_nonneg_left p1 hq
            omega
          · rename_i hq
            have := Int.mul_le_mul_of_nonpos_left (by omega : q.2 ≤ 0) p2
            omega
        · cases hw
def rk_ins (y : Nat) (c : Int) : List (Nat × Int) → List (Nat × Int)
  | [] => [(y, c)]
  | q :: l => if Nat.beq q.1 y then (y, q.2 + c) :: l else q :: rk_ins y c l
theorem rk_ins_ok {r : Nat → Value} {y : Nat} {c : Int} : ∀ l : List (Nat × Int), rk_lv r (rk_ins y c l) = c * rk_toI (r y) + rk_lv r l
  | [] => by simp [rk_ins, rk_lv]
  | q :: l => by
    unfold rk_ins
    split
    · rename_i hq
      rw [Nat.beq_eq] at hq
      simp only [rk_lv]
      rw [hq, Int.add_mul]
      omega
    · simp only [rk_lv]
      rw [rk_ins_ok l]
      omega
def rk_nrm (fc : List (Nat × Nat × Nat × Int)) : Nat → Nat → Nat × Int
  | 0, y => (y, 0)
  | n + 1, y => match rk_df y fc with
    | none => (y, 0)
    | some (x, c) => ((rk_nrm fc n x).1, (rk_nrm fc n x).2 + c)
theorem rk_nrm_ok {r : Nat → Value} {fc : List (Nat × Nat × Nat × Int)} (hf : ∀ q ∈ fc, rk_fact r q) : ∀ (n y : Nat), rk_toI (r y) = rk_toI (r (rk_nrm fc n y).1) + (rk_nrm fc n y).2
  | 0, y => by simp [rk_nrm]
  | n + 1, y => by
    unfold rk_nrm
    split
    · simp
    · rename_i x c hd
      have h1 := rk_df_ok fc hf hd
      have h2 := rk_nrm_ok hf n x
      dsimp only
      omega
/-- a form over locals is taken away -/
def rk_sb (lo : List (Nat × Nat)) (fc : List (Nat × Nat × Nat × Int)) : List (Nat × Int) → List (Nat × Int) → Int → Option (List (Nat × Int) × Int)
  | [], l, k => some (l, k)
  | q :: m, l, k => match rk_lk lo q.1 with
    | none => none
    | some y => rk_sb lo fc m (rk_ins (rk_nrm fc 4 y).1 (-q.2) l) (k - q.2 * (rk_nrm fc 4 y).2)
theorem rk_sb_ok {r r1 : Nat → Value} {lo : List (Nat × Nat)} {fc : List (Nat × Nat × Nat × Int)} (hf : ∀ q ∈ fc, rk_fact r q) : ∀ (m l l2 : List (Nat × Int)) (k k2 : Int), (∀ q ∈ m, ∀ y, rk_lk lo q.1 = some y → r1 q.1 = r y) → rk_sb lo fc m l k = some (l2, k2) → rk_lv r l2 + k2 = rk_lv r l + k - rk_lv r1 m
  | [], l, l2, k, k2, _, h => by
    cases h
    simp [rk_lv]
  | q :: m, l, l2, k, k2, hr, h => by
    unfold rk_sb at h
    split at h
    · cases h
    · rename_i y hy
      have ih := rk_sb_ok hf m _ l2 _ k2 (fun p hp => hr p (List.mem_cons_of_mem _ hp)) h
      rw [rk_ins_ok] at ih
      have h1 := rk_nrm_ok hf 4 y
      rw [ih]
      simp only [rk_lv]
      rw [hr q List.mem_cons_self _ hy, h1, Int.mul_add, Int.neg_mul]
      omega
/-- a cut: its place; what its locals, then its known fields may be; those fields (a local, a place); a measure (the end); another (the counters) -/
abbrev rk_Cut : Type := Nat × List rk_AV × List (Nat × Nat) × (Int × List (Nat × Int)) × (Int × List (Nat × Int))
def rk_loc : Nat → List rk_AV → List (Nat × Nat)
  | _, [] => []
  | i, t :: l => if Nat.blt t.1 4 then (i, i) :: rk_loc (i + 1) l else rk_loc (i + 1) l
def rk_kn0 : Nat → List (Nat × Nat) → List (Nat × Nat × Nat)
  | _, [] => []
  | q, z :: l => (z.1, z.2, q) :: rk_kn0 (q + 1) l
def rk_S0 (nT : Nat) (ts : List rk_AV) (kf : List (Nat × Nat)) : rk_St := (rk_loc 0 (ts.take nT), [], ts, rk_kn0 nT kf, [], 0)
def rk_nT (B : rk_Cut) : Nat := B.2.1.length - B.2.2.1.length
def rk_xt (lo : List (Nat × Nat)) (kn : List (Nat × Nat × Nat)) : Nat → List (Nat × Nat) → List (Nat × Nat)
  | _, [] => []
  | q, z :: l => match rk_lk lo z.1 with
    | none => rk_xt lo kn (q + 1) l
    | some y => match rk_kn y z.2 kn with
      | none => rk_xt lo kn (q + 1) l
      | some v => (q, v) :: rk_xt lo kn (q + 1) l
def rk_fit2 (lo : List (Nat × Nat)) (en : List rk_AV) : Nat → List rk_AV → Bool
  | _, [] => true
  | i, t :: l => (if Nat.blt t.1 4 then (match rk_lk lo i with
      | none => false
      | some y => match en[y]? with
        | none => false
        | some u => rk_le u t) else true) && rk_fit2 lo en (i + 1) l
def rk_ms (lo : List (Nat × Nat)) (fc : List (Nat × Nat × Nat × Int)) (en : List rk_AV) (A B : Int × List (Nat × Int)) (tk : Int) : Bool := match rk_sb lo fc B.2 A.2 (A.1 - B.1 - tk) with
  | none => false
  | some (l2, k2) => match rk_low en l2 with
    | none => false
    | some w => decide (0 ≤ w + k2)
/-- the state at a cut is what the cut says, and its measures are less -/
def rk_ent (tA : Option (Int × List (Nat × Int))) (cA : Int) (lA : List (Nat × Int)) (B : rk_Cut) (S : rk_St) : Bool := match S with
  | (lo, sk, en, kn, fc, co) => match sk with
    | _ :: _ => false
    | [] => rk_fit2 (lo ++ rk_xt lo kn (rk_nT B) B.2.2.1) en 0 B.2.1 && (rk_ms (lo ++ rk_xt lo kn (rk_nT B) B.2.2.1) fc en (cA, lA) B.2.2.2.2 co && (match tA with
      | none => true
      | some a => rk_ms (lo ++ rk_xt lo kn (rk_nT B) B.2.2.1) fc en a B.2.2.2.1 1))
def rk_fc (cs : List rk_Cut) (pc : Nat) : Option rk_Cut := match cs with
  | [] => none
  | c :: l => if Nat.beq c.1 pc then some c else rk_fc l pc
theorem rk_fc_ok {pc : Nat} {B : rk_Cut} : ∀ cs : List rk_Cut, rk_fc cs pc = some B → B ∈ cs ∧ B.1 = pc
  | [], h => by cases h
  | c :: l, h => by
    unfold rk_fc at h
    split at h
    · rename_i hc
      rw [Nat.beq_eq] at hc
      cases h
      exact ⟨List.mem_cons_self, hc⟩
    · obtain ⟨h1, h2⟩ := rk_fc_ok l h
      exact ⟨List.mem_cons_of_mem _ h1, h2⟩
def rk_aOK (eN : Nat) (en : List rk_AV) (t : rk_AV) (a : rk_Alt) : Bool := !(Nat.beq a.1.1 9) && (rk_le t a.1 && a.2.all (fun q => Nat.blt q.1 eN && (match en[q.1]? with
  | none => false
  | some u => rk_le u q.2)))
def rk_vOK (eN : Nat) (en : List rk_AV) (a : rk_Alt) : Bool := Nat.beq a.1.1 9 && a.2.all (fun q => Nat.blt q.1 eN && (match en[q.1]? with
  | none => false
  | some u => rk_le u q.2))
/-- what a method is: its kind of answer (0 none, 1 int, 2 boolean, 3 reference), its alternatives, does it change nothing -/
def rk_rt (eN : Nat) (rk : Nat) (alts : List rk_Alt) (cA : Int) (lA : List (Nat × Int)) (ins : Instr) (S : rk_St) : Bool := match S with
  | (_, sk, en, _, _, co) => (match rk_low en lA with
      | none => false
      | some w => decide (co ≤ cA + w)) && (match ins with
    | .return_ => Nat.beq rk 0 && (sk.isEmpty && alts.any (rk_vOK eN en))
    | .ireturn => (match sk with
      | [y] => (match en[y]? with
        | none => false
        | some t => (Nat.beq rk 1 && rk_isI t || Nat.beq rk 2 && rk_le t (0, 0, 1)) && alts.any (rk_aOK eN en t))
      | _ => false)
    | .areturn => (match sk with
      | [y] => (match en[y]? with
        | none => false
        | some t => Nat.beq rk 3 && (rk_isR t && alts.any (rk_aOK eN en t)))
      | _ => false)
    | _ => false)
abbrev rk_Pg : Type := ByteArray × Nat × rk_Fl × rk_Ml × (Nat → Option Int32) × (Nat → Option Nat) × (Nat → Nat)
def rk_cap (cA : Int) (lA : List (Nat × Int)) (en : List rk_AV) (co : Int) : Bool := match rk_low en lA with
  | none => false
  | some w => decide (co ≤ cA + w)
def rk_step (cap : List rk_AV → Int → Bool) (K : Nat → rk_KD) (ER : rk_Er) (ap : Nat × Nat) (ctr : rk_Ctr) (P : rk_Pg) (wr : Nat → rk_Wr) (lv : Nat) (nE pc : Nat) (ins : Instr) (S : rk_St) : rk_Sc := match ins with
  | .getfield _ => rk_s2 (wr lv) nE K ER P.2.2.1 ap pc ins S
  | .putfield _ => rk_s2 (wr lv) nE K ER P.2.2.1 ap pc ins S
  | .arraylength => rk_s2 (wr lv) nE K ER P.2.2.1 ap pc ins S
  | .iaload => rk_s2 (wr lv) nE K ER P.2.2.1 ap pc ins S
  | .iastore => rk_s2 (wr lv) nE K ER P.2.2.1 ap pc ins S
  | .aaload => rk_s2 (wr lv) nE K ER P.2.2.1 ap pc ins S
  | .aastore => rk_s2 (wr lv) nE K ER P.2.2.1 ap pc ins S
  | .invokevirtual i => rk_inv cap lv nE pc K P.2.2.2.1 ctr i true S
  | .invokestatic i => (match P.2.2.2.2.2.2 i with
    | 1 => rk_acp (wr lv) pc K ER S
    | 2 => rk_mmn pc S
    | _ => rk_inv cap lv nE pc K P.2.2.2.1 ctr i false S)
  | .lookupswitch d ps => rk_lsw pc d ps S
  | .ldc i => (match P.2.2.2.2.1 i with
    | some _ => rk_s1 nE P.2.1 P.2.2.2.2.1 pc (.ldc i) S
    | none => rk_ldS nE pc K P.2.2.2.2.2.1 i S)
  | _ => rk_s1 nE P.2.1 P.2.2.2.2.1 pc ins S
def rk_isRet (ins : Instr) : Bool := match ins with
  | .ireturn => true
  | .areturn => true
  | .return_ => true
  | _ => false
def rk_go (K : Nat → rk_KD) (ER : rk_Er) (ap : Nat × Nat) (ctr : rk_Ctr) (P : rk_Pg) (wr : Nat → rk_Wr) (lv : Nat) (rk : Nat) (alts : List rk_Alt) (cs : List rk_Cut) (eN : Nat) (tA : Option (Int × List (Nat × Int))) (cA : Int) (lA : List (Nat × Int)) (nE : Nat) : Nat → Nat → rk_St → Bool
  | 0, _, _ => false
  | n + 1, pc, S => match decode P.1 pc with
    | .error _ => false
    | .ok (ins, len) => rk_lenOk ins len && (if rk_isRet ins then rk_rt eN rk alts cA lA ins S else match rk_step (rk_cap cA lA) K ER ap ctr P wr lv nE pc ins S with
      | none => false
      | some out => out.all (fun q => match rk_fc cs q.1 with
        | some B => rk_ent tA cA lA B q.2
        | none => rk_go K ER ap ctr P wr lv rk alts cs eN tA cA lA nE n q.1 q.2))
def rk_tOk (ts : List rk_AV) : Bool := ts.all (fun t => Nat.blt t.1 5)
def rk_okL (ts : List rk_AV) (c : Int) (l : List (Nat × Int)) : Bool := l.all (fun q => Nat.blt q.1 ts.length && (match ts[q.1]? with
  | some (0, _, _) => true
  | _ => false)) && (match rk_low ts l with
  | none => false
  | some w => decide (0 ≤ c + w))
def rk_okK (nL nT : Nat) (ts : List rk_AV) (kf : List (Nat × Nat)) : Bool := (kf.isEmpty || Nat.beq nT nL) && (kf.all (fun z => Nat.blt z.1 nT && (Nat.blt z.2 1000000 && (match ts[z.1]? with
  | some t => Nat.blt t.1 4
  | none => false))) && (ts.drop nT).all (fun t => Nat.blt t.1 4))
/-- a method's certificate holds -/
def rk_chk (K : Nat → rk_KD) (ER : rk_Er) (ap : Nat × Nat) (ctr : rk_Ctr) (P : rk_Pg) (wr : Nat → rk_Wr) (lv : Nat) (rk : Nat) (avs : List rk_AV) (alts : List rk_Alt) (C : Int) (cs : List rk_Cut) (fuel : Nat) : Bool :=
  Nat.ble avs.length P.2.1 && (decide (0 ≤ C) && (rk_tOk avs && (rk_go K ER ap ctr P wr lv rk alts cs avs.length none C [] avs.length fuel 0 (rk_S0 avs.length avs []) &&
    cs.all (fun B => rk_tOk B.2.1 && (Nat.ble (rk_nT B) P.2.1 && (Nat.ble B.2.2.1.length B.2.1.length && (rk_okK P.2.1 (rk_nT B) B.2.1 B.2.2.1 && (rk_okL B.2.1 B.2.2.2.1.1 B.2.2.2.1.2 && (rk_okL B.2.1 B.2.2.2.2.1 B.2.2.2.2.2 &&
      rk_go K ER ap ctr P wr lv rk alts cs 0 (some B.2.2.2.1) B.2.2.2.2.1 B.2.2.2.2.2 B.2.1.length fuel B.1 (rk_S0 (rk_nT B) B.2.1 B.2.2.1))))))))))
