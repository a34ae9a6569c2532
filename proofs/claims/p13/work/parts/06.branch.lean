/-! branches: what is known behind a comparison -/
def rk_rel (c : Nat) (x y : Int) : Prop := match c with
  | 0 => x = y
  | 1 => ¬ x = y
  | 2 => x < y
  | 3 => y ≤ x
  | 4 => y < x
  | _ => x ≤ y
def rk_iI (c : Nat) (a b d e : Int) : (Int × Int) × (Int × Int) := match c with
  | 0 => ((max a d, min b e), (max a d, min b e))
  | 1 => if d = e then ((if a = d then a + 1 else a, if b = d then b - 1 else b), (d, e)) else if a = b then ((a, b), (if d = a then d + 1 else d, if e = a then e - 1 else e)) else ((a, b), (d, e))
  | 2 => ((a, min b (e - 1)), (max d (a + 1), e))
  | 3 => ((max a d, b), (d, min e b))
  | 4 => ((max a (d + 1), b), (d, min e (b - 1)))
  | _ => ((a, min b e), (max d a, e))
theorem rk_iI_ok {c : Nat} {a b d e x y : Int} (h : rk_rel c x y) (h1 : a ≤ x) (h2 : x ≤ b) (h3 : d ≤ y) (h4 : y ≤ e) : (rk_iI c a b d e).1.1 ≤ x ∧ x ≤ (rk_iI c a b d e).1.2 ∧ (rk_iI c a b d e).2.1 ≤ y ∧ y ≤ (rk_iI c a b d e).2.2 := by
  rcases c with _ | _ | _ | _ | _ | c
  · simp only [rk_rel] at h; simp only [rk_iI]; omega
  · simp only [rk_rel] at h
    simp only [rk_iI]
    split
    · dsimp only
      refine ⟨?_, ?_, h3, h4⟩ <;> split <;> omega
    · split
      · dsimp only
        refine ⟨h1, h2, ?_, ?_⟩ <;> split <;> omega
      · exact ⟨h1, h2, h3, h4⟩
  · simp only [rk_rel] at h; simp only [rk_iI]; omega
  · simp only [rk_rel] at h; simp only [rk_iI]; omega
  · simp only [rk_rel] at h; simp only [rk_iI]; omega
  · simp only [rk_rel] at h; simp only [rk_iI]; omega
def rk_wb (t : rk_AV) (a b : Int) : rk_AV := match t with
  | (0, _, _) => (0, a, b)
  | (1, u) => if b ≤ 1000 then (0, a, b) else (1, u)
  | (n + 2, u) => (n + 2, u)
theorem rk_wb_ok {G : Nat → Option Nat} {X : Int} {t : rk_AV} {x : Int32} {a b : Int} (h : rk_has G X t (.int x)) (h1 : a ≤ x.toInt) (h2 : x.toInt ≤ b) : rk_has G X (rk_wb t a b) (.int x) := by
  obtain ⟨n, u⟩ := t
  rcases n with _ | _ | n
  · exact ⟨x, rfl, h1, h2⟩
  · simp only [rk_wb]
    split
    · exact ⟨x, rfl, h1, h2⟩
    · exact h
  · exact h
def rk_df (y : Nat) : List (Nat × Nat × Nat × Int) → Option (Nat × Int)
  | [] => none
  | q :: l => if Nat.beq q.1 0 && Nat.beq q.2.1 y then some (q.2.2.1, q.2.2.2) else rk_df y l
theorem rk_df_ok {r : Nat → Value} {y x : Nat} {c : Int} : ∀ fc : List (Nat × Nat × Nat × Int), (∀ q ∈ fc, rk_fact r q) → rk_df y fc = some (x, c) → rk_toI (r y) = rk_toI (r x) + c
  | [], _, h => by cases h
  | q :: l, hl, h => by
    unfold rk_df at h
    split at h
    · rename_i hc
      have hq := hl q List.mem_cons_self
      simp only [Bool.and_eq_true, Nat.beq_eq] at hc
      obtain ⟨n, a, b, d⟩ := q
      dsimp only at hc h
      obtain ⟨rfl, rfl⟩ := hc
      cases h
      exact hq
    · exact rk_df_ok l (fun p hp => hl p (List.mem_cons_of_mem _ hp)) h
/-- what is known of y is known of x, y = x + c -/
def rk_prop (fc : List (Nat × Nat × Nat × Int)) (y : Nat) (en : List rk_AV) : List rk_AV := match en[y]? with
  | some (0, a, b) => (match rk_df y fc with
    | none => en
    | some (x, c) => match en[x]? with
      | some (0, p, q) => en.set x (0, max p (a - c), min q (b - c))
      | _ => en)
  | _ => en
def rk_cf (c sx sy : Nat) : List (Nat × Nat × Nat × Int) := match c with
  | 2 => [(1, sx, sy, 0)]
  | 4 => [(1, sy, sx, 0)]
  | _ => []
theorem rk_cf_ok {r : Nat → Value} {c sx sy : Nat} (h : rk_rel c (rk_toI (r sx)) (rk_toI (r sy))) : ∀ q ∈ rk_cf c sx sy, rk_fact r q := by
  intro q hq
  rcases c with _ | _ | _ | _ | _ | c
  · cases hq
  · cases hq
  · simp only [rk_cf, List.mem_singleton] at hq; subst hq; exact h
  · cases hq
  · simp only [rk_cf, List.mem_singleton] at hq; subst hq; exact h
  · cases hq
/-- x and y compared; none: it can't be said; []: it can't be -/
def rk_brn (S : rk_St) (c sx sy : Nat) : Option (List rk_St) := match S with
  | (lo, sk, en, kn, fc, co) => match en[sx]? with
    | none => none
    | some tx => match en[sy]? with
      | none => none
      | some ty => match rk_iv tx with
        | none => none
        | some (a, b) => match rk_iv ty with
          | none => none
          | some (d, e) => match rk_iI c a b d e with
            | ((a', b'), (d', e')) => if b' < a' ∨ e' < d' then some [] else some [(lo, sk, rk_prop fc sy (rk_prop fc sx ((en.set sx (rk_wb tx a' b')).set sy (rk_wb ty d' e'))), kn, rk_cf c sx sy ++ fc, co)]
/-- x compared with 0 -/
def rk_br0 (S : rk_St) (c sx : Nat) : Option (List rk_St) := match S with
  | (lo, sk, en, kn, fc, co) => match en[sx]? with
    | none => none
    | some tx => match rk_iv tx with
      | none => none
      | some (a, b) => match rk_iI c a b 0 0 with
        | ((a', b'), (d', e')) => if b' < a' ∨ e' < d' then some [] else some [(lo, sk, rk_prop fc sx (en.set sx (rk_wb tx a' b')), kn, fc, co)]
section RKB
variable {F : rk_Fx} {nE : Nat} {r0 r : Nat → Value} {lo : List (Nat × Nat)} {sk : List Nat} {en : List rk_AV} {kn : List (Nat × Nat × Nat)} {fc : List (Nat × Nat × Nat × Int)} {co : Int} {f : Nat → va_E} {H : Heap} {locs : List Loc} {ls : Array Slot} {st : List Value}
theorem rk_addfs : ∀ (fs : List (Nat × Nat × Nat × Int)), rk_on F nE r0 r (lo, sk, en, kn, fc, co) f H locs ls st → (∀ q ∈ fs, rk_fact r q) → rk_on F nE r0 r (lo, sk, en, kn, fs ++ fc, co) f H locs ls st
  | [], h, _ => h
  | q :: fs, h, hq => rk_addf (rk_addfs fs h (fun p hp => hq p (List.mem_cons_of_mem _ hp))) (hq q List.mem_cons_self)
theorem rk_prop_ok (y : Nat) (h : rk_on F nE r0 r (lo, sk, en, kn, fc, co) f H locs ls st) : rk_on F nE r0 r (lo, sk, rk_prop fc y en, kn, fc, co) f H locs ls st := by
  unfold rk_prop
  split
  · rename_i a b hy
    split
    · exact h
    · rename_i x c hd
      split
      · rename_i p q hx
        have e1 := rk_df_ok fc h.2.2.1 hd
        obtain ⟨u, eu, u1, u2⟩ := rk_val h hy
        obtain ⟨v, ev, v1, v2⟩ := rk_val h hx
        rw [eu, ev] at e1
        simp only [rk_toI] at e1
        refine rk_ref h ?_
        rw [ev]
        exact ⟨v, rfl, by omega, by omega⟩
      · exact h
  · exact h
theorem rk_brn_ok {S : rk_St} {c sx sy : Nat} {l : List rk_St} (hS : rk_on F nE r0 r S f H locs ls st) (h : rk_brn S c sx sy = some l) (hr : rk_rel c (rk_toI (r sx)) (rk_toI (r sy))) : ∃ S' ∈ l, rk_on F nE r0 r S' f H locs ls st := by
  obtain ⟨lo, sk, en, kn, fc, co⟩ := S
  simp only [rk_brn] at h
  split at h
  · cases h
  · rename_i tx htx
    split at h
    · cases h
    · rename_i ty hty
      split at h
      · cases h
      · rename_i a b hab
        split at h
        · cases h
        · rename_i d e hde
          have hx := rk_val hS htx
          have hy := rk_val hS hty
          obtain ⟨x, ex, p1, p2⟩ := rk_iv_ok hab hx
          obtain ⟨y, ey, q1, q2⟩ := rk_iv_ok hde hy
          have hr2 := hr
          rw [ex, ey] at hr2
          have hI := rk_iI_ok (c := c) (x := x.toInt) (y := y.toInt) hr2 p1 p2 q1 q2
          generalize hz : rk_iI c a b d e = zz at h hI
          obtain ⟨⟨a', b'⟩, ⟨d', e'⟩⟩ := zz
          dsimp only at h hI
          split at h
          · omega
          · cases h
            refine ⟨_, List.mem_singleton.mpr rfl, ?_⟩
            refine rk_addfs _ (rk_prop_ok sy (rk_prop_ok sx (rk_ref (rk_ref hS ?_) ?_))) (rk_cf_ok hr)
            · rw [ex]; rw [ex] at hx; exact rk_wb_ok hx hI.1 hI.2.1
            · rw [ey]; rw [ey] at hy; exact rk_wb_ok hy hI.2.2.1 hI.2.2.2
theorem rk_br0_ok {S : rk_St} {c sx : Nat} {l : List rk_St} (hS : rk_on F nE r0 r S f H locs ls st) (h : rk_br0 S c sx = some l) (hr : rk_rel c (rk_toI (r sx)) 0) : ∃ S' ∈ l, rk_on F nE r0 r S' f H locs ls st := by
  obtain ⟨lo, sk, en, kn, fc, co⟩ := S
  simp only [rk_br0] at h
  split at h
  · cases h
  · rename_i tx htx
    split at h
    · cases h
    · rename_i a b hab
      have hx := rk_val hS htx
      obtain ⟨x, ex, p1, p2⟩ := rk_iv_ok hab hx
      have hr2 := hr
      rw [ex] at hr2
      have hI := rk_iI_ok (c := c) (x := x.toInt) (y := 0) (d := 0) (e := 0) hr2 p1 p2 (Int.le_refl 0) (Int.le_refl 0)
      generalize hz : rk_iI c a b 0 0 = zz at h hI
      obtain ⟨⟨a', b'⟩, ⟨d', e'⟩⟩ := zz
      dsimp only at h hI
      split at h
      · omega
      · cases h
        refine ⟨_, List.mem_singleton.mpr rfl, rk_prop_ok sx (rk_ref hS ?_)⟩
        rw [ex]; rw [ex] at hx; exact rk_wb_ok hx hI.1 hI.2.1
end RKB
def rk_ct (c : ClassFile.Cond) : Nat := match c with
  | .eq => 0
  | .ne => 1
  | .lt => 2
  | .ge => 3
  | .gt => 4
  | .le => 5
def rk_cn (c : ClassFile.Cond) : Nat := match c with
  | .eq => 1
  | .ne => 0
  | .lt => 3
  | .ge => 2
  | .gt => 5
  | .le => 4
section RKW
variable {p : Program} {l : Launch} {e : Env} {R : Room} {s : State} {m : MethodId} {args : Array Value} {below : List Frame} {meth : Method} {c : Code} {H : Heap} {locs : List Loc} {cells slots : Nat} {Q : State → Prop} {cc : ByteArray} {pc : Nat} {ls : Array Slot} {rest : List Value}
theorem rk_icmp (hexec : p.tables.exec = Jvm.exec) (hb : c.code = cc) {x y : Int32} {cd : ClassFile.Cond} {off : Int} {tgt : Nat} (hdg : decode cc pc = .ok (.if_icmp cd off, 3)) (ht : (pc : Int) + off = (tgt : Int))
    (kt : rk_rel (rk_ct cd) x.toInt y.toInt → W p l e R s m args below meth c H locs cells slots Q (F0 m tgt ls rest)) (kf : rk_rel (rk_cn cd) x.toInt y.toInt → W p l e R s m args below meth c H locs cells slots Q (F0 m (pc + 3) ls rest)) : W p l e R s m args below meth c H locs cells slots Q (F0 m pc ls (.int y :: .int x :: rest)) := by
  cases cd with
  | eq => exact lv_icmp_eq hexec hb hdg ht (fun h => kt (by rw [h]; rfl)) (fun h => kf (fun h2 => h (Int32.toInt_inj.mp h2)))
  | ne => exact lv_icmp_ne hexec hb hdg ht (fun h => kt (fun h2 => h (Int32.toInt_inj.mp h2))) (fun h => kf (by
      show x.toInt = y.toInt
      rw [h]))
  | lt => exact lv_icmp_lt hexec hb hdg ht (fun h => kt (Int32.lt_iff_toInt_lt.mp h)) (fun h => kf (by
      show y.toInt ≤ x.toInt
      rw [Int32.lt_iff_toInt_lt] at h
      omega))
  | ge => exact lv_icmp_ge hexec hb hdg ht (fun h => kt (Int32.le_iff_toInt_le.mp h)) (fun h => kf (by
      show x.toInt < y.toInt
      rw [Int32.le_iff_toInt_le] at h
      omega))
  | gt => exact lv_icmp_gt hexec hb hdg ht (fun h => kt (Int32.lt_iff_toInt_lt.mp h)) (fun h => kf (by
      show x.toInt ≤ y.toInt
      rw [Int32.lt_iff_toInt_lt] at h
      omega))
  | le => exact lv_icmp_le hexec hb hdg ht (fun h => kt (Int32.le_iff_toInt_le.mp h)) (fun h => kf (by
      show y.toInt < x.toInt
      rw [Int32.le_iff_toInt_le] at h
      omega))
theorem rk_if0 (hexec : p.tables.exec = Jvm.exec) (hb : c.code = cc) {x : Int32} {cd : ClassFile.Cond} {off : Int} {tgt : Nat} (hdg : decode cc pc = .ok (.ifCond cd off, 3)) (ht : (pc : Int) + off = (tgt : Int))
    (kt : rk_rel (rk_ct cd) x.toInt 0 → W p l e R s m args below meth c H locs cells slots Q (F0 m tgt ls rest)) (kf : rk_rel (rk_cn cd) x.toInt 0 → W p l e R s m args below meth c H locs cells slots Q (F0 m (pc + 3) ls rest)) : W p l e R s m args below meth c H locs cells slots Q (F0 m pc ls (.int x :: rest)) := by
  have h0 : (0 : Int32).toInt = 0 := rfl
  cases cd with
  | eq => exact lv_if_eq hexec hb hdg ht (fun h => kt (by rw [h]; rfl)) (fun h => kf (fun h2 => h (Int32.toInt_inj.mp (h2.trans h0.symm))))
  | ne => exact lv_if_ne hexec hb hdg ht (fun h => kt (fun h2 => h (Int32.toInt_inj.mp (h2.trans h0.symm)))) (fun h => kf (by
      show x.toInt = 0
      rw [h]; rfl))
  | lt => exact lv_if_lt hexec hb hdg ht (fun h => kt (by have := Int32.lt_iff_toInt_lt.mp h; rw [h0] at this; exact this)) (fun h => kf (by
      show 0 ≤ x.toInt
      rw [Int32.lt_iff_toInt_lt, h0] at h
      omega))
  | ge => exact lv_if_ge hexec hb hdg ht (fun h => kt (by have := Int32.le_iff_toInt_le.mp h; rw [h0] at this; exact this)) (fun h => kf (by
      show x.toInt < 0
      rw [Int32.le_iff_toInt_le, h0] at h
      omega))
  | gt => exact lv_if_gt hexec hb hdg ht (fun h => kt (by have := Int32.lt_iff_toInt_lt.mp h; rw [h0] at this; exact this)) (fun h => kf (by
      show x.toInt ≤ 0
      rw [Int32.lt_iff_toInt_lt, h0] at h
      omega))
  | le => exact lv_if_le hexec hb hdg ht (fun h => kt (by have := Int32.le_iff_toInt_le.mp h; rw [h0] at this; exact this)) (fun h => kf (by
      show 0 < x.toInt
      rw [Int32.le_iff_toInt_le, h0] at h
      omega))
theorem rk_arW (hexec : p.tables.exec = Jvm.exec) (hb : c.code = cc) {x y z : Int32} {ins : Instr} (hdg : decode cc pc = .ok (ins, 1)) (hz : rk_mop ins x y = some z)
    (k : W p l e R s m args below meth c H locs cells slots Q (F0 m (pc + 1) ls (.int z :: rest))) : W p l e R s m args below meth c H locs cells slots Q (F0 m pc ls (.int y :: .int x :: rest)) := by
  cases ins <;> first
    | (simp [rk_mop] at hz; done)
    | (simp only [rk_mop, Option.some.injEq] at hz; subst hz; first | exact lv_iadd hexec hb hdg k | exact lv_isub hexec hb hdg k | exact lv_imul hexec hb hdg k | exact lv_iand hexec hb hdg k | exact lv_ior hexec hb hdg k | exact lv_ishl hexec hb hdg k | exact lv_ishr hexec hb hdg k | exact lv_iushr hexec hb hdg rfl k)
    | (simp only [rk_mop] at hz; split at hz; cases hz; rename_i hne; cases hz; first | exact lv_idiv hexec hb hdg hne k | exact lv_irem hexec hb hdg hne k)
end RKW
