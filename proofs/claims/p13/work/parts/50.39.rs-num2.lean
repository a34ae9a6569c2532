/-! numbers, branches -/
section RSS
variable {MT : Nat → rk_Mt × Nat × Nat}
/-- two numbers, one comes, or each of a number of the script is looked at -/
def rs_FnOk (f : rs_Fn) (ins : Instr) : Prop := ∀ (r : Nat → Int32) (sb : Nat) (ad : Nat → Nat) (nn : Nat) (en : rs_E) (x y : rs_V) (kv : rs_V → Bool) (ks : Nat → Bool) (xv yv : Value), f en x y kv ks = true → rs_env r en → rs_den r sb ad nn x xv → rs_den r sb ad nn y yv → (∃ (X Y z : Int32) (v : rs_V), xv = .int X ∧ yv = .int Y ∧ kv v = true ∧ rk_mop ins X Y = some z ∧ rs_den r sb ad nn v (.int z)) ∨ ∃ a, ks a = true
theorem rs_genE {ins : Instr} (hm : ∀ X Y, ∃ z, rk_mop ins X Y = some z) : rs_FnOk rs_gen ins := by
  intro r sb ad nn en x y kv ks xv yv h he hx hy
  have fin : x.1 ≤ 3 → y.1 ≤ 3 → kv (3, 0, 0) = true → (∃ (X Y z : Int32) (v : rs_V), xv = .int X ∧ yv = .int Y ∧ kv v = true ∧ rk_mop ins X Y = some z ∧ rs_den r sb ad nn v (.int z)) ∨ ∃ a, ks a = true := by
    intro h1 h2 h3
    obtain ⟨X, rfl⟩ := rs_den_I h1 hx
    obtain ⟨Y, rfl⟩ := rs_den_I h2 hy
    obtain ⟨z, hz⟩ := hm X Y
    exact Or.inl ⟨X, Y, z, _, rfl, rfl, h3, hz, z, rfl⟩
  unfold rs_gen at h
  rcases rs_ifE h with ⟨h1, h⟩ | ⟨-, h⟩
  · have h1 := rs_eqE h1
    rcases hE : rs_eg en x.2.1 with ⟨lo, hi, pa⟩
    rw [hE] at h
    rcases rs_ifE h with ⟨-, h⟩ | ⟨-, h⟩
    · exact Or.inr ⟨_, h⟩
    · obtain ⟨h2, h⟩ := rs_andE h
      exact fin (by omega) (rs_leE h2) h
  · rcases rs_ifE h with ⟨h1, h⟩ | ⟨-, h⟩
    · have h1 := rs_eqE h1
      rcases hE : rs_eg en y.2.1 with ⟨lo, hi, pa⟩
      rw [hE] at h
      rcases rs_ifE h with ⟨-, h⟩ | ⟨-, h⟩
      · exact Or.inr ⟨_, h⟩
      · obtain ⟨h2, h⟩ := rs_andE h
        exact fin (rs_leE h2) (by omega) h
    · obtain ⟨h1, h⟩ := rs_andE h
      obtain ⟨h2, h⟩ := rs_andE h
      exact fin (rs_leE h1) (rs_leE h2) h
/-- both are numbers as such -/
theorem rs_both {x y : rs_V} {n : Bool} {rest : Bool} (h : @Bool.rec (fun _ => Bool) rest n (Nat.beq (Nat.add x.1 y.1) 0) = true) : (x.1 = 0 ∧ y.1 = 0 ∧ n = true) ∨ rest = true := by
  rcases rs_ifE h with ⟨h1, h⟩ | ⟨-, h⟩
  · have h1 : x.1 + y.1 = 0 := rs_eqE h1
    exact Or.inl ⟨by omega, by omega, h⟩
  · exact Or.inr h
theorem rs_nnE {g : Nat → Nat → Nat} {ins : Instr} (hm : ∀ X Y, ∃ z, rk_mop ins X Y = some z) (hg : ∀ a b, rk_mop ins (rs_i a) (rs_i b) = some (rs_i (g a b))) : rs_FnOk (rs_f_nn g) ins := by
  intro r sb ad nn en x y kv ks xv yv h he hx hy
  rcases rs_both h with ⟨h1, h2, h⟩ | h
  · exact Or.inl ⟨_, _, _, _, rs_den_0 h1 hx, rs_den_0 h2 hy, rs_nfE h, hg _ _, rfl⟩
  · exact rs_genE hm r sb ad nn en x y kv ks xv yv h he hx hy
theorem rs_f_addE : rs_FnOk rs_f_add .iadd := by
  intro r sb ad nn en x y kv ks xv yv h he hx hy
  rcases rs_both h with ⟨h1, h2, h⟩ | h
  · exact Or.inl ⟨_, _, _, _, rs_den_0 h1 hx, rs_den_0 h2 hy, rs_nfE h, congrArg some (rs_i_add _ _), rfl⟩
  · rcases rs_ifE h with ⟨h1, h⟩ | ⟨-, h⟩
    · obtain ⟨h1, h2⟩ := rs_andE h1
      refine Or.inl ⟨_, _, _, _, rs_den_0 (rs_eqE h1) hx, rs_den_1 (rs_eqE h2) hy, rs_nfE h, rfl, ?_⟩
      show Value.int _ = Value.int _
      rw [Int32.add_comm, rs_add_assoc]
      rfl
    · rcases rs_ifE h with ⟨h1, h⟩ | ⟨-, h⟩
      · obtain ⟨h1, h2⟩ := rs_andE h1
        refine Or.inl ⟨_, _, _, _, rs_den_1 (rs_eqE h1) hx, rs_den_0 (rs_eqE h2) hy, rs_nfE h, rfl, ?_⟩
        show Value.int _ = Value.int _
        rw [rs_add_assoc]
        rfl
      · exact rs_genE (fun X Y => ⟨_, rfl⟩) r sb ad nn en x y kv ks xv yv h he hx hy
theorem rs_f_subE : rs_FnOk rs_f_sub .isub := by
  intro r sb ad nn en x y kv ks xv yv h he hx hy
  rcases rs_both h with ⟨h1, h2, h⟩ | h
  · exact Or.inl ⟨_, _, _, _, rs_den_0 h1 hx, rs_den_0 h2 hy, rs_nfE h, congrArg some (rs_i_sub _ _), rfl⟩
  · rcases rs_ifE h with ⟨h1, h⟩ | ⟨-, h⟩
    · obtain ⟨h1, h2⟩ := rs_andE h1
      refine Or.inl ⟨_, _, _, _, rs_den_1 (rs_eqE h1) hx, rs_den_0 (rs_eqE h2) hy, rs_nfE h, rfl, ?_⟩
      show Value.int _ = Value.int _
      rw [rs_x_sub]
      rfl
    · exact rs_genE (fun X Y => ⟨_, rfl⟩) r sb ad nn en x y kv ks xv yv h he hx hy
theorem rs_f_andE : rs_FnOk rs_f_and .iand := by
  intro r sb ad nn en x y kv ks xv yv h he hx hy
  rcases rs_both h with ⟨h1, h2, h⟩ | h
  · exact Or.inl ⟨_, _, _, _, rs_den_0 h1 hx, rs_den_0 h2 hy, rs_nfE h, congrArg some (rs_i_and _ _), rfl⟩
  · rcases rs_ifE h with ⟨h1, h⟩ | ⟨-, h⟩
    · obtain ⟨h1, h2⟩ := rs_andE h1
      obtain ⟨h2, h3⟩ := rs_andE h2
      refine Or.inl ⟨_, _, _, _, rs_den_1 (rs_eqE h1) hx, rs_den_0 (rs_eqE h2) hy, h, rfl, ?_⟩
      show Value.int _ = Value.int _
      rw [rs_eqE h3, rs_add0]
    · exact rs_genE (fun X Y => ⟨_, rfl⟩) r sb ad nn en x y kv ks xv yv h he hx hy
theorem rs_onlyE {x y : rs_V} {ks : Nat → Bool} (h : @Bool.rec (fun _ => Bool) (@Bool.rec (fun _ => Bool) false (ks y.2.1) (Nat.beq y.1 1)) (ks x.2.1) (Nat.beq x.1 1) = true) : ∃ a, ks a = true := by
  rcases rs_ifE h with ⟨-, h⟩ | ⟨-, h⟩
  · exact ⟨_, h⟩
  · exact ⟨_, (rs_andE h).2⟩
theorem rs_f_divE : rs_FnOk rs_f_div .idiv := by
  intro r sb ad nn en x y kv ks xv yv h he hx hy
  rcases rs_both h with ⟨h1, h2, h⟩ | h
  · obtain ⟨hp, h⟩ := rs_andE h
    obtain ⟨p1, hp⟩ := rs_andE hp
    obtain ⟨p2, p3⟩ := rs_andE hp
    refine Or.inl ⟨_, _, _, _, rs_den_0 h1 hx, rs_den_0 h2 hy, rs_nfE h, ?_, rfl⟩
    show (if rs_i y.2.1 = 0 then none else some (rs_i x.2.1 / rs_i y.2.1)) = _
    rw [if_neg (rs_i_ne0 (rs_leE p2) (rs_leE p3)), rs_i_div (rs_leE p1) (rs_leE p2) (rs_leE p3)]
    rfl
  · exact Or.inr (rs_onlyE h)
theorem rs_f_remE : rs_FnOk rs_f_rem .irem := by
  intro r sb ad nn en x y kv ks xv yv h he hx hy
  rcases rs_both h with ⟨h1, h2, h⟩ | h
  · obtain ⟨hp, h⟩ := rs_andE h
    obtain ⟨p1, hp⟩ := rs_andE hp
    obtain ⟨p2, p3⟩ := rs_andE hp
    refine Or.inl ⟨_, _, _, _, rs_den_0 h1 hx, rs_den_0 h2 hy, rs_nfE h, ?_, rfl⟩
    show (if rs_i y.2.1 = 0 then none else some (rs_i x.2.1 - rs_i x.2.1 / rs_i y.2.1 * rs_i y.2.1)) = _
    rw [if_neg (rs_i_ne0 (rs_leE p2) (rs_leE p3)), rs_i_rem (rs_leE p1) (rs_leE p2) (rs_leE p3)]
    rfl
  · rcases rs_ifE h with ⟨h1, h⟩ | ⟨-, h⟩
    · obtain ⟨h1, h2⟩ := rs_andE h1
      obtain ⟨h2, h3⟩ := rs_andE h2
      obtain ⟨h3, h4⟩ := rs_andE h3
      obtain ⟨h4, h5⟩ := rs_andE h4
      have hv := he x.2.1
      have h5 := rs_leE h5
      have ey := rs_den_0 (rs_eqE h2) hy
      rw [rs_eqE h3] at ey
      have ex := rs_den_1 (rs_eqE h1) hx
      rw [rs_eqE h4, rs_add0] at ex
      refine Or.inl ⟨_, _, _, _, ex, ey, h, ?_, rfl⟩
      show (if rs_i 2 = 0 then none else some (r x.2.1 - r x.2.1 / rs_i 2 * rs_i 2)) = _
      rw [if_neg (rs_i_ne0 (by decide) (by decide)), rs_rem2 (Nat.le_trans h5 hv.1)]
    · exact Or.inr (rs_onlyE h)
theorem rs_f_shrE : rs_FnOk rs_f_shr .ishr := by
  intro r sb ad nn en x y kv ks xv yv h he hx hy
  rcases rs_both h with ⟨h1, h2, h⟩ | h
  · obtain ⟨hp, h⟩ := rs_andE h
    exact Or.inl ⟨_, _, _, _, rs_den_0 h1 hx, rs_den_0 h2 hy, rs_nfE h, congrArg some (rs_i_shr _ (rs_leE hp)), rfl⟩
  · exact rs_genE (fun X Y => ⟨_, rfl⟩) r sb ad nn en x y kv ks xv yv h he hx hy
theorem rs_f_mulE : rs_FnOk rs_f_mul .imul := rs_nnE (fun X Y => ⟨_, rfl⟩) (fun a b => congrArg some (rs_i_mul a b))
theorem rs_f_orE : rs_FnOk rs_f_or .ior := rs_nnE (fun X Y => ⟨_, rfl⟩) (fun a b => congrArg some (rs_i_or a b))
theorem rs_f_shlE : rs_FnOk rs_f_shl .ishl := rs_nnE (fun X Y => ⟨_, rfl⟩) (fun a b => congrArg some (rs_i_shl a b))
theorem rs_f_ushrE : rs_FnOk rs_f_ushr .iushr := rs_nnE (fun X Y => ⟨_, rfl⟩) (fun a b => congrArg some (rs_i_ushr a b))
theorem rs_twoE {f : rs_Fn} {ins : Instr} (hf : rs_FnOk f ins) : rs_Snd MT (rs_two f) (fun _ _ _ _ _ => (ins, 1)) (fun _ _ _ _ _ _ _ _ => true) := by
  intro p l e R s m args below meth c Q F M cap ft cx pc a b c' l' kt kc kr sk lo en w hdg hck h hk hc hr ad L f9 H locs ls st hon
  obtain ⟨hx, hb, ⟨hml, hnL⟩, hown, hts, hK, hA, hN, hroom, hnm, htys, hfl⟩ := cx
  unfold rs_two at h
  cases sk with
  | nil => cases h
  | cons y sk =>
    cases sk with
    | nil => cases h
    | cons x sk =>
      obtain ⟨yv, s1, rfl, hy, hon1⟩ := rs_pop9 hon
      obtain ⟨xv, s2, rfl, hxx, hon2⟩ := rs_pop9 hon1
      obtain ⟨y', h, hy'⟩ := rs_resE h hon.1 hy
      obtain ⟨x', h, hx'⟩ := rs_resE h hon.1 hxx
      rcases hf _ _ _ _ en x' y' _ _ xv yv h hon.1 hx' hy' with ⟨X, Y, z, v, rfl, rfl, h1, h2, h3⟩ | ⟨z, h1⟩
      · exact rk_arW hx hb hdg h2 (rs_goto9 hk h1 (rs_push9 hon2 h3))
      · obtain ⟨en', h2, h3⟩ := rs_spE (r := F.1.2.2.2.2.1) h1 hon.1
        exact rs_goto9 hk h2 (rs_env9 (rs_push9 (rs_push9 hon2 hx') hy') h3)
theorem rs_o_iadd : rs_Snd MT (rs_two rs_f_add) (fun _ _ _ _ _ => (.iadd, 1)) (fun _ _ _ _ _ _ _ _ => true) := rs_twoE rs_f_addE
theorem rs_o_isub : rs_Snd MT (rs_two rs_f_sub) (fun _ _ _ _ _ => (.isub, 1)) (fun _ _ _ _ _ _ _ _ => true) := rs_twoE rs_f_subE
theorem rs_o_imul : rs_Snd MT (rs_two rs_f_mul) (fun _ _ _ _ _ => (.imul, 1)) (fun _ _ _ _ _ _ _ _ => true) := rs_twoE rs_f_mulE
theorem rs_o_idiv : rs_Snd MT (rs_two rs_f_div) (fun _ _ _ _ _ => (.idiv, 1)) (fun _ _ _ _ _ _ _ _ => true) := rs_twoE rs_f_divE
theorem rs_o_irem : rs_Snd MT (rs_two rs_f_rem) (fun _ _ _ _ _ => (.irem, 1)) (fun _ _ _ _ _ _ _ _ => true) := rs_twoE rs_f_remE
theorem rs_o_iand : rs_Snd MT (rs_two rs_f_and) (fun _ _ _ _ _ => (.iand, 1)) (fun _ _ _ _ _ _ _ _ => true) := rs_twoE rs_f_andE
theorem rs_o_ior : rs_Snd MT (rs_two rs_f_or) (fun _ _ _ _ _ => (.ior, 1)) (fun _ _ _ _ _ _ _ _ => true) := rs_twoE rs_f_orE
theorem rs_o_ishl : rs_Snd MT (rs_two rs_f_shl) (fun _ _ _ _ _ => (.ishl, 1)) (fun _ _ _ _ _ _ _ _ => true) := rs_twoE rs_f_shlE
theorem rs_o_ishr : rs_Snd MT (rs_two rs_f_shr) (fun _ _ _ _ _ => (.ishr, 1)) (fun _ _ _ _ _ _ _ _ => true) := rs_twoE rs_f_shrE
theorem rs_o_iushr : rs_Snd MT (rs_two rs_f_ushr) (fun _ _ _ _ _ => (.iushr, 1)) (fun _ _ _ _ _ _ _ _ => true) := rs_twoE rs_f_ushrE
theorem rs_o_pop : rs_Snd MT rs_h_pop (fun _ _ _ _ _ => (.pop, 1)) (fun _ _ _ _ _ _ _ _ => true) := by
  intro p l e R s m args below meth c Q F M cap ft cx pc a b c' l' kt kc kr sk lo en w hdg hck h hk hc hr ad L f H locs ls st hon
  obtain ⟨hx, hb, ⟨hml, hnL⟩, hown, hts, hK, hA, hN, hroom, hnm, htys, hfl⟩ := cx
  unfold rs_h_pop at h
  cases sk with
  | nil => cases h
  | cons y sk =>
    obtain ⟨yv, s1, rfl, hy, hon1⟩ := rs_pop9 hon
    exact lv_pop hx hb hdg (rs_den_cat hy) (rs_goto9 hk h hon1)
theorem rs_o_dup : rs_Snd MT rs_h_dup (fun _ _ _ _ _ => (.dup, 1)) (fun _ _ _ _ _ _ _ _ => true) := by
  intro p l e R s m args below meth c Q F M cap ft cx pc a b c' l' kt kc kr sk lo en w hdg hck h hk hc hr ad L f H locs ls st hon
  obtain ⟨hx, hb, ⟨hml, hnL⟩, hown, hts, hK, hA, hN, hroom, hnm, htys, hfl⟩ := cx
  unfold rs_h_dup at h
  cases sk with
  | nil => cases h
  | cons y sk =>
    obtain ⟨yv, s1, rfl, hy, hon1⟩ := rs_pop9 hon
    exact lv_dup hx hb hdg (rs_den_cat hy) (rs_goto9 hk h (rs_push9 (rs_push9 hon1 hy) hy))
theorem rs_o_dup2 : rs_Snd MT rs_h_dup2 (fun _ _ _ _ _ => (.dup2, 1)) (fun _ _ _ _ _ _ _ _ => true) := by
  intro p l e R s m args below meth c Q F M cap ft cx pc a b c' l' kt kc kr sk lo en w hdg hck h hk hc hr ad L f H locs ls st hon
  obtain ⟨hx, hb, ⟨hml, hnL⟩, hown, hts, hK, hA, hN, hroom, hnm, htys, hfl⟩ := cx
  unfold rs_h_dup2 at h
  cases sk with
  | nil => cases h
  | cons y sk =>
    cases sk with
    | nil => cases h
    | cons x sk =>
      obtain ⟨yv, s1, rfl, hy, hon1⟩ := rs_pop9 hon
      obtain ⟨xv, s2, rfl, hxx, hon2⟩ := rs_pop9 hon1
      exact lv_dup2_11 hx hb hdg (rs_den_cat hy) (rs_den_cat hxx) (rs_goto9 hk h (rs_push9 (rs_push9 (rs_push9 (rs_push9 hon2 hxx) hy) hxx) hy))
theorem rs_o_goto : rs_Snd MT rs_h_goto (fun pc a _ _ _ => (.goto (rs_tg pc a), 3)) (fun _ _ _ _ _ _ _ _ => true) := by
  intro p l e R s m args below meth c Q F M cap ft cx pc a b c' l' kt kc kr sk lo en w hdg hck h hk hc hr ad L f H locs ls st hon
  obtain ⟨hx, hb, ⟨hml, hnL⟩, hown, hts, hK, hA, hN, hroom, hnm, htys, hfl⟩ := cx
  exact lv_goto hx hb hdg (rs_tgE pc a) (rs_goto9 hk h hon)
def rs_cdOf (b : Nat) : ClassFile.Cond := match b with
  | 0 => .eq
  | 1 => .ne
  | 2 => .lt
  | 3 => .ge
  | 4 => .gt
  | _ => .le
theorem rs_cdE {b : Nat} (h : b ≤ 5) : rk_ct (rs_cdOf b) = b ∧ ∀ x y, rk_rel (rk_cn (rs_cdOf b)) x y → ¬ rk_rel b x y := by
  have e : b = 0 ∨ b = 1 ∨ b = 2 ∨ b = 3 ∨ b = 4 ∨ b = 5 := by omega
  rcases e with rfl | rfl | rfl | rfl | rfl | rfl <;> refine ⟨rfl, fun x y => ?_⟩ <;> simp only [rs_cdOf, rk_cn, rk_rel] <;> omega
/-- what is compared are numbers -/
theorem rs_cmpI {en : rs_E} {cd : Nat} {x y : rs_V} {kT kF : rs_E → Bool} {ks : Nat → Bool} (h : rs_cmp en cd x y kT kF ks = true) : (x.1 ≤ 3 ∧ y.1 ≤ 3) ∨ ∃ a, ks a = true := by
  unfold rs_cmp at h
  rcases rs_ifE h with ⟨h1, h⟩ | ⟨-, h⟩
  · have h1 : x.1 + y.1 = 0 := rs_eqE h1
    exact Or.inl ⟨by omega, by omega⟩
  · unfold rs_cmp2 at h
    rcases rs_ifE h with ⟨h1, h⟩ | ⟨-, h⟩
    · have h1 := rs_eqE h1
      have h2 := rs_eqE (rs_andE h).1
      exact Or.inl ⟨by omega, by omega⟩
    · rcases rs_ifE h with ⟨h1, h⟩ | ⟨-, h⟩
      · have h1 := rs_eqE h1
        rcases rs_ifE h with ⟨h2, h⟩ | ⟨h2, h⟩
        · have h2 := rs_eqE h2
          exact Or.inl ⟨by omega, by omega⟩
        · exact Or.inr ⟨_, (rs_andE h).2⟩
      · rcases rs_ifE h with ⟨h1, h⟩ | ⟨-, h⟩
        · have h1 := rs_eqE h1
          have h2 := rs_eqE (rs_andE h).1
          exact Or.inl ⟨by omega, by omega⟩
        · obtain ⟨h1, h⟩ := rs_andE h
          have h1 := rs_eqE h1
          have h2 := rs_leE (rs_andE h).1
          exact Or.inl ⟨by omega, by omega⟩
theorem rs_o_icmp : rs_Snd MT rs_h_icmp (fun pc a b _ _ => (.if_icmp (rs_cdOf b) (rs_tg pc a), 3)) (fun _ _ _ _ _ b _ _ => Nat.ble b 5) := by
  intro p l e R s m args below meth c Q F M cap ft cx pc a b c' l' kt kc kr sk lo en w hdg hck h hk hc hr ad L f H locs ls st hon
  obtain ⟨hx, hb, ⟨hml, hnL⟩, hown, hts, hK, hA, hN, hroom, hnm, htys, hfl⟩ := cx
  have hb5 := rs_leE hck
  obtain ⟨k1, k2⟩ := rs_cdE hb5
  unfold rs_h_icmp at h
  cases sk with
  | nil => cases h
  | cons y sk =>
    cases sk with
    | nil => cases h
    | cons x sk =>
      obtain ⟨yv, s1, rfl, hy, hon1⟩ := rs_pop9 hon
      obtain ⟨xv, s2, rfl, hxx, hon2⟩ := rs_pop9 hon1
      obtain ⟨y', h, hy'⟩ := rs_resE h hon.1 hy
      obtain ⟨x', h, hx'⟩ := rs_resE h hon.1 hxx
      have hi := rs_cmpI h
      rcases hi with ⟨i1, i2⟩ | ⟨z, h1⟩
      · obtain ⟨X, rfl⟩ := rs_den_I i1 hx'
        obtain ⟨Y, rfl⟩ := rs_den_I i2 hy'
        rcases rs_cmpE hb5 h hon.1 hx' hy' with ⟨en', he', h3⟩ | ⟨z, h1⟩
        · refine rk_icmp hx hb hdg (rs_tgE pc a) (fun hc9 => ?_) (fun hc9 => ?_)
          · rw [k1] at hc9
            rcases h3 with ⟨-, h3⟩ | ⟨h3, -⟩
            · exact rs_goto9 hk h3 (rs_env9 hon2 he')
            · exact absurd hc9 h3
          · rcases h3 with ⟨h3, -⟩ | ⟨-, h3⟩
            · exact absurd h3 (k2 _ _ hc9)
            · exact rs_goto9 hk h3 (rs_env9 hon2 he')
        · obtain ⟨en', h2, h3⟩ := rs_spE (r := F.1.2.2.2.2.1) h1 hon.1
          exact rs_goto9 hk h2 (rs_env9 (rs_push9 (rs_push9 hon2 hx') hy') h3)
      · obtain ⟨en', h2, h3⟩ := rs_spE (r := F.1.2.2.2.2.1) h1 hon.1
        exact rs_goto9 hk h2 (rs_env9 (rs_push9 (rs_push9 hon2 hx') hy') h3)
theorem rs_o_if0 : rs_Snd MT rs_h_if0 (fun pc a b _ _ => (.ifCond (rs_cdOf b) (rs_tg pc a), 3)) (fun _ _ _ _ _ b _ _ => Nat.ble b 5) := by
  intro p l e R s m args below meth c Q F M cap ft cx pc a b c' l' kt kc kr sk lo en w hdg hck h hk hc hr ad L f H locs ls st hon
  obtain ⟨hx, hb, ⟨hml, hnL⟩, hown, hts, hK, hA, hN, hroom, hnm, htys, hfl⟩ := cx
  have hb5 := rs_leE hck
  obtain ⟨k1, k2⟩ := rs_cdE hb5
  unfold rs_h_if0 at h
  cases sk with
  | nil => cases h
  | cons x sk =>
    obtain ⟨xv, s2, rfl, hxx, hon2⟩ := rs_pop9 hon
    obtain ⟨x', h, hx'⟩ := rs_resE h hon.1 hxx
    have hy' : rs_den F.1.2.2.2.2.1 F.1.2.2.2.2.2.1 ad w.2.1 (0, 0, 0) (.int (rs_i 0)) := rfl
    have q0 : (rs_i 0).toInt = 0 := rfl
    rcases rs_cmpI h with ⟨i1, i2⟩ | ⟨z, h1⟩
    · obtain ⟨X, rfl⟩ := rs_den_I i1 hx'
      rcases rs_cmpE hb5 h hon.1 hx' hy' with ⟨en', he', h3⟩ | ⟨z, h1⟩
      · rw [q0] at h3
        refine rk_if0 hx hb hdg (rs_tgE pc a) (fun hc9 => ?_) (fun hc9 => ?_)
        · rw [k1] at hc9
          rcases h3 with ⟨-, h3⟩ | ⟨h3, -⟩
          · exact rs_goto9 hk h3 (rs_env9 hon2 he')
          · exact absurd hc9 h3
        · rcases h3 with ⟨h3, -⟩ | ⟨-, h3⟩
          · exact absurd h3 (k2 _ _ hc9)
          · exact rs_goto9 hk h3 (rs_env9 hon2 he')
      · cases h1
    · cases h1
theorem rs_o_ifnull : rs_Snd MT rs_h_nulls (fun pc a b _ _ => (.ifnull (rs_tg pc a), 3)) (fun _ _ _ pc a b _ _ => Nat.beq b (Nat.add pc 3)) := by
  intro p l e R s m args below meth c Q F M cap ft cx pc a b c' l' kt kc kr sk lo en w hdg hck h hk hc hr ad L f H locs ls st hon
  obtain ⟨hx, hb, ⟨hml, hnL⟩, hown, hts, hK, hA, hN, hroom, hnm, htys, hfl⟩ := cx
  have hnx := rs_eqE hck
  unfold rs_h_nulls at h
  cases sk with
  | nil => cases h
  | cons x sk =>
    obtain ⟨xv, s2, rfl, hxx, hon2⟩ := rs_pop9 hon
    rcases rs_ifE h with ⟨h1, h⟩ | ⟨-, h⟩
    · obtain rfl := rs_den_N (rs_eqE h1) hxx
      exact lv_ifnullN hx hb hdg (rs_tgE pc a) (rs_goto9 hk h hon2)
    · obtain ⟨h1, h⟩ := rs_andE h
      obtain ⟨-, rfl⟩ := rs_den_R (rs_eqE h1) hxx
      subst hnx
      exact lv_ifnull hx hb hdg (rs_goto9 hk h hon2)
theorem rs_o_ifnonnull : rs_Snd MT rs_h_nulls (fun pc a b _ _ => (.ifnonnull (rs_tg pc b), 3)) (fun _ _ _ pc a b _ _ => Nat.beq a (Nat.add pc 3)) := by
  intro p l e R s m args below meth c Q F M cap ft cx pc a b c' l' kt kc kr sk lo en w hdg hck h hk hc hr ad L f H locs ls st hon
  obtain ⟨hx, hb, ⟨hml, hnL⟩, hown, hts, hK, hA, hN, hroom, hnm, htys, hfl⟩ := cx
  have hnx := rs_eqE hck
  unfold rs_h_nulls at h
  cases sk with
  | nil => cases h
  | cons x sk =>
    obtain ⟨xv, s2, rfl, hxx, hon2⟩ := rs_pop9 hon
    rcases rs_ifE h with ⟨h1, h⟩ | ⟨-, h⟩
    · obtain rfl := rs_den_N (rs_eqE h1) hxx
      subst hnx
      exact lv_ifnonnullN hx hb hdg (rs_goto9 hk h hon2)
    · obtain ⟨h1, h⟩ := rs_andE h
      obtain ⟨-, rfl⟩ := rs_den_R (rs_eqE h1) hxx
      exact lv_ifnonnull hx hb hdg (rs_tgE pc b) (rs_goto9 hk h hon2)
theorem rs_nthE (l : List Nat) (d : Nat) : ∀ (i : Nat) (x : Nat), l[i]? = some x → rs_nth l d i = x := by
  induction l with
  | nil => intro i x h; simp at h
  | cons a l ih =>
    intro i x h
    cases i with
    | zero => cases h; rfl
    | succ i => exact ih i x h
theorem rs_o_tsw : rs_Snd MT rs_h_tsw (fun pc a b c' l' => (.tableswitch (rs_tg pc c') (a : Int) ((a : Int) + (b : Int) - 1) (l'.map (rs_tg pc)).toArray, 13 + (3 - pc % 4) + 4 * b)) (fun _ _ _ _ a b _ l' => (Nat.beq l'.length b && Nat.blt 0 b) && Nat.ble (Nat.add a b) 100000) := by
  intro p l e R s m args below meth c Q F M cap ft cx pc a b c' l' kt kc kr sk lo en w hdg hck h hk hc hr ad L f H locs ls st hon
  obtain ⟨hx, hb, ⟨hml, hnL⟩, hown, hts, hK, hA, hN, hroom, hnm, htys, hfl⟩ := cx
  obtain ⟨g1, g2⟩ := rs_tru hck
  obtain ⟨g1, g3⟩ := rs_tru g1
  have g1 := rs_eqE g1
  have g2 : a + b ≤ 100000 := rs_leE g2
  rw [Nat.blt_eq] at g3
  unfold rs_h_tsw at h
  cases sk with
  | nil => cases h
  | cons x sk =>
    obtain ⟨xv, s2, rfl, hxx, hon2⟩ := rs_pop9 hon
    obtain ⟨x', h, hx'⟩ := rs_resE h hon.1 hxx
    have out : ∀ X : Int32, xv = .int X → (X.toInt < (a : Int) ∨ (a : Int) + (b : Int) - 1 < X.toInt) → ∀ en', rs_env F.1.2.2.2.2.1 en' → kt c' sk lo en' w = true → W p l e R s m args below meth c H locs w.2.2.1 w.2.2.2 Q (F0 m pc ls (xv :: s2)) := by
      intro X hX ho en' he' h9
      subst hX
      exact lv_tableOut hx hb hdg ho (rs_tgE pc c') (rs_goto9 hk h9 (rs_env9 hon2 he'))
    have inn : ∀ (X : Int32) (j : Nat), xv = .int X → X.toInt = (a : Int) + (j : Int) → j < b → ∀ en', rs_env F.1.2.2.2.2.1 en' → kt (rs_nth l' c' j) sk lo en' w = true → W p l e R s m args below meth c H locs w.2.2.1 w.2.2.2 Q (F0 m pc ls (xv :: s2)) := by
      intro X j hX hj hjb en' he' h9
      subst hX
      have hl : j < l'.length := by omega
      have e1 : l'[j]? = some l'[j] := List.getElem?_eq_getElem hl
      rw [rs_nthE l' c' j _ e1] at h9
      refine lv_tableIn hx hb (off := rs_tg pc l'[j]) hdg (by omega) (by omega) ?_ (rs_tgE pc _) (rs_goto9 hk h9 (rs_env9 hon2 he'))
      rw [show (X.toInt - (a : Int)).toNat = j by omega, List.getElem?_toArray, List.getElem?_map, e1]
      rfl
    rcases rs_ifE h with ⟨h1, h⟩ | ⟨-, h⟩
    · have ex := rs_den_0 (rs_eqE h1) hx'
      have hbt : (rs_i x'.2.1).toInt = ((x'.2.1 + 2147483648) % 4294967296 : Nat) - 2147483648 := by rw [rs_b_toInt, rs_b_i, rs_bi_e]
      obtain ⟨h32, h⟩ := rs_andE h
      have h32 := rs_leE h32
      rcases rs_ifE h with ⟨h2, h⟩ | ⟨h2, h⟩
      · obtain ⟨h2, h3⟩ := rs_andE h2
        have h2 := rs_leE h2
        have h3 : x'.2.1 - a < b := rs_ltE h3
        exact inn _ (x'.2.1 - a) ex (by omega) h3 en hon.1 h
      · refine out _ ex ?_ en hon.1 h
        by_cases q1 : a ≤ x'.2.1
        · by_cases q2 : x'.2.1 - a < b
          · exfalso
            have e1 : Nat.ble a x'.2.1 = true := Nat.ble_eq_true_of_le q1
            have e2 : Nat.ble b (Nat.sub x'.2.1 a) = false := rs_bE (fun h9 => by
              have : b ≤ x'.2.1 - a := rs_leE h9
              omega)
            have h2 : @Bool.rec (fun _ => Bool) false (@Bool.rec (fun _ => Bool) true false (Nat.ble b (Nat.sub x'.2.1 a))) (Nat.ble a x'.2.1) = false := h2
            rw [e1, e2] at h2
            cases h2
          · omega
        · omega
    · rcases rs_ifE h with ⟨h1, h⟩ | ⟨-, h⟩
      · have ex := rs_den_1 (rs_eqE h1) hx'
        have hbt := rs_b_toInt (F.1.2.2.2.2.1 x'.2.1 + rs_i x'.2.2)
        obtain ⟨en1, he1, h2⟩ := rs_ltE2 (r := F.1.2.2.2.2.1) h hon.1
        rcases h2 with ⟨h2, h3⟩ | ⟨h2, h3⟩
        · have h2 : _ < a + 2147483648 := h2
          exact out _ ex (by omega) en1 he1 h3
        · obtain ⟨en2, he2, h4⟩ := rs_ltE2 (r := F.1.2.2.2.2.1) h3 he1
          rcases h4 with ⟨h4, h5⟩ | ⟨h4, h5⟩
          · obtain ⟨en3, h6, he3⟩ := rs_spE (r := F.1.2.2.2.2.1) h5 he2
            exact rs_goto9 hk h6 (rs_env9 (rs_push9 hon2 hx') he3)
          · have h4 : a + b + 2147483648 ≤ _ := h4
            exact out _ ex (by omega) en2 he2 h5
      · obtain ⟨h1, h⟩ := rs_andE h
        obtain ⟨h2, h⟩ := rs_andE h
        obtain ⟨h3, h⟩ := rs_andE h
        have ex := rs_den_2 (rs_eqE h1) hx'
        rw [rs_eqE h2] at ex
        have hv := hon.1 x'.2.1
        rcases hE : rs_eg en x'.2.1 with ⟨lo9, hi9, pa⟩
        rw [hE] at h hv
        obtain ⟨h4, h⟩ := rs_andE h
        obtain ⟨h5, h⟩ := rs_andE h
        have h5 : pa - 3 < b := rs_ltE h5
        rw [hv.2.2.2.2 (rs_leE h4)] at ex
        have h3 := rs_eqE h3
        refine inn _ (pa - 3) ex ?_ h5 en hon.1 h
        show (rs_i (pa - 3)).toInt = _
        rw [rs_i_pos (by omega), h3]
        omega
theorem rs_o_lsw : rs_Snd MT rs_h_lsw (fun pc a b c' l' => (.lookupswitch (rs_tg pc (rs_nth l' 0 1)) #[(rs_sg a, rs_tg pc b), (rs_sg c', rs_tg pc (rs_nth l' 0 0))], 9 + (3 - pc % 4) + 16)) (fun _ _ _ _ a _ c' _ => (decide (a < 4294967296) && decide (c' < 4294967296)) && decide (rs_sg a < rs_sg c')) := by
  intro p l e R s m args below meth c Q F M cap ft cx pc a b c' l' kt kc kr sk lo en w hdg hck h hk hc hr ad L f H locs ls st hon
  obtain ⟨hx, hb, ⟨hml, hnL⟩, hown, hts, hK, hA, hN, hroom, hnm, htys, hfl⟩ := cx
  obtain ⟨g1, g3⟩ := rs_tru hck
  obtain ⟨g1, g2⟩ := rs_tru g1
  have g1 := of_decide_eq_true g1
  have g2 := of_decide_eq_true g2
  have g3 := of_decide_eq_true g3
  have sgE : ∀ q : Nat, q < 4294967296 → (rs_i q).toInt = rs_sg q := by
    intro q hq
    rw [rs_b_toInt, rs_b_i, rs_bi_e]
    unfold rs_sg
    split <;> omega
  unfold rs_h_lsw at h
  cases sk with
  | nil => cases h
  | cons x sk =>
    obtain ⟨xv, s2, rfl, hxx, hon2⟩ := rs_pop9 hon
    obtain ⟨x', h, hx'⟩ := rs_resE h hon.1 hxx
    have ya : rs_den F.1.2.2.2.2.1 F.1.2.2.2.2.2.1 ad w.2.1 (0, a, 0) (.int (rs_i a)) := rfl
    have yc : rs_den F.1.2.2.2.2.1 F.1.2.2.2.2.2.1 ad w.2.1 (0, c', 0) (.int (rs_i c')) := rfl
    rcases rs_cmpI h with ⟨i1, -⟩ | ⟨z, h1⟩
    · obtain ⟨X, rfl⟩ := rs_den_I i1 hx'
      have ord : (#[(rs_sg a, rs_tg pc b), (rs_sg c', rs_tg pc (rs_nth l' 0 0))].toList.zip (#[(rs_sg a, rs_tg pc b), (rs_sg c', rs_tg pc (rs_nth l' 0 0))].toList.drop 1)).all (fun (a, next) => a.1 < next.1) = true := by
        simp [g3]
      rcases rs_cmpE (by decide) h hon.1 hx' ya with ⟨en1, he1, ⟨r1, h1⟩ | ⟨r1, h1⟩⟩ | ⟨z, h1⟩
      · have r1 : X.toInt = (rs_i a).toInt := r1
        rw [sgE a g1] at r1
        refine lv_lookup hx hb hdg ord (off := rs_tg pc b) ?_ (rs_tgE pc b) (rs_goto9 hk h1 (rs_env9 hon2 he1))
        rw [r1]
        simp [Op.lookupswitch.offset]
      · have r1 : ¬ X.toInt = (rs_i a).toInt := r1
        rw [sgE a g1] at r1
        rcases rs_cmpE (by decide) h1 he1 hx' yc with ⟨en2, he2, ⟨r2, h2⟩ | ⟨r2, h2⟩⟩ | ⟨z, h2⟩
        · have r2 : X.toInt = (rs_i c').toInt := r2
          rw [sgE c' g2] at r2
          refine lv_lookup hx hb hdg ord (off := rs_tg pc (rs_nth l' 0 0)) ?_ (rs_tgE pc _) (rs_goto9 hk h2 (rs_env9 hon2 he2))
          rw [r2]
          have : ¬ rs_sg a = rs_sg c' := by omega
          simp [Op.lookupswitch.offset, this]
        · have r2 : ¬ X.toInt = (rs_i c').toInt := r2
          rw [sgE c' g2] at r2
          refine lv_lookup hx hb hdg ord (off := rs_tg pc (rs_nth l' 0 1)) ?_ (rs_tgE pc _) (rs_goto9 hk h2 (rs_env9 hon2 he2))
          have q1 : ¬ rs_sg a = X.toInt := fun h => r1 h.symm
          have q2 : ¬ rs_sg c' = X.toInt := fun h => r2 h.symm
          simp [Op.lookupswitch.offset, q1, q2]
        · cases h2
      · cases h1
    · cases h1
end RSS
