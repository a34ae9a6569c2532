/-! each instruction holds -/
section RSS
/-- words that hold in every state that a walk comes to -/
def rs_NU (U : State) : Prop := rk_N rk_nf rk_nm U ∧ ∀ C ∈ [RX8, RX2, RX6, RX1, RX4], va_AO C U
theorem rs_NU_warm {s U : State} (hW : s.WarmedH U.vm) (h : rs_NU s) : rs_NU U := ⟨rk_N_warm hW h.1, fun C hC => va_AO.moved hW.alike (h.2 C hC)⟩
theorem rs_NU_same {u U : State} (hv : u.vm = U.vm) (h : rs_NU u) : rs_NU U := ⟨rk_N_same hv h.1, fun C hC => va_AO.moved (by rw [hv]; exact Vm.Alike.refl _) (h.2 C hC)⟩
/-- what stands about a frame of method M with cap cells and slots -/
def rs_Cx (p : Program) (R : Room) (s : State) (m : MethodId) (args : Array Value) (meth : Method) (c : Code) (F : rs_Fx) (M : rk_Mt) (cap : Nat × Nat) (ft : List (Nat × Nat × Nat × Nat)) : Prop :=
  p.tables.exec = Jvm.exec ∧ c.code = M.2.1 ∧ (c.maxLocals = M.2.2.1 ∧ F.1.2.2.2.2.2.2 = M.2.2.1) ∧ s.vm.findClass M.1.cls = some m.cls ∧ (∀ w ∈ rk_tbl, w.before args s = true) ∧ va_K F.1.2.1 vwCl F.1.1 s ∧ (∀ q, F.1.2.2.2.1.size ≤ q → F.1.2.2.1 q) ∧ rs_NU s ∧ (M.2.2.2.2.1 ≤ R.frames ∧ M.2.2.2.2.2 ≤ R.locals ∧ cap.1 ≤ R.cells ∧ cap.2 ≤ R.slots) ∧ meth.name = M.1.name ∧ (∃ cI c1 c2 c3 c4 c5 : ClassId, F.1.1 = rk_tys cI c1 c2 c3 c4 c5) ∧ rk_FlOk s args rk_tbl M.1.cls (rk_flf ft)
def rs_KTok (p : Program) (l : Launch) (e : Env) (R : Room) (s : State) (m : MethodId) (args : Array Value) (below : List Frame) (meth : Method) (c : Code) (Q : State → Prop) (F : rs_Fx) (kt : rs_KT) : Prop := ∀ pc sk lo en w, kt pc sk lo en w = true → rs_G p l e R s m args below meth c Q F pc sk lo en w
/-- the world that a call is given, and that it gives back -/
def rs_Wd (tys : List (ClassId × FieldType)) (r : Nat → Int32) (sb : Nat) (hp : rs_H) (nn : Nat) (ad : Nat → Nat) (L : List Nat) (f : Nat → va_E) : Prop := (∀ i, i < nn → ad i ∈ L ∧ ((rt_g hp i).1 < 32 → rs_rel tys (rs_den r sb ad nn) (rt_g hp i) (f (ad i)))) ∧ (∀ i j, i < nn → j < nn → ad i = ad j → i = j) ∧ nn ≤ 1024
def rs_Q (tys : List (ClassId × FieldType)) (D : va_G) (r : Nat → Int32) (sb : Nat) (hp : rs_H) (nn : Nat) (ad : Nat → Nat) (L : List Nat) (f : Nat → va_E) (A : Nat → Prop) (ret : Option FieldType) (kr : rs_KR) : Array Value → State → Outcome → State → Prop := fun _ st oc t => (∃ (x : Option Value) (v : rs_V) (en' : rs_E) (hp' : rs_H) (nn' : Nat) (ad' : Nat → Nat) (L' : List Nat) (f' : Nat → va_E), oc = .returned x ∧ (x = none ↔ ret = none) ∧ kr v en' hp' nn' = true ∧ rs_env r en' ∧ (∀ y, x = some y → rs_den r sb ad' nn' v y) ∧ rs_Wd tys r sb hp' nn' ad' L' f' ∧ rs_fr (([], D, A, st.heap, r, sb, 0), hp, nn, ad, L, f) hp' nn' ad' L' f' ∧ va_P D vwCl (va_pl L' f') t.heap ∧ va_K D vwCl tys t ∧ va_D A (va_pl L' f')) ∧ va_F A st t
/-- a method's contract: from these things, to one of the ends that kr wants -/
def rs_Con (l : Launch) (tys : List (ClassId × FieldType)) (D : va_G) (r : Nat → Int32) (sb : Nat) (M : rk_Mt) (cap : Nat × Nat) (as : List rs_V) (en : rs_E) (hp : rs_H) (nn : Nat) (kr : rs_KR) : Prop :=
  rs_env r en → as.length ≤ M.2.2.1 → ∀ (ad : Nat → Nat) (L : List Nat) (f : Nat → va_E) (vs : List Value) (sz : Nat), rs_stk (rs_den r sb ad nn) as vs → rs_Wd tys r sb hp nn ad L f →
    Met l M.1 (rk_ws M) { frames := M.2.2.2.2.1, cells := cap.1, slots := cap.2, locals := M.2.2.2.2.2 } (va_Pc vs (rk_Pre D tys rs_NU L f sz)) (rs_Q tys D r sb hp nn ad L f (va_A (va_pl L f) sz) M.2.2.2.1 kr) cap.1 cap.2 (va_A (va_pl L f) sz)
def rs_KCok (l : Launch) (F : rs_Fx) (MT : Nat → rk_Mt × Nat × Nat) (kc : rs_KC) : Prop := ∀ q as en hp nn kr, kc q as en hp nn kr = true → rs_Con l F.1.1 F.1.2.1 F.1.2.2.2.2.1 F.1.2.2.2.2.2.1 (MT q).1 (MT q).2 as en hp nn kr
/-- the end of the frame: nothing, an int, a truth value, a thing -/
def rs_KRok (p : Program) (l : Launch) (e : Env) (R : Room) (s : State) (m : MethodId) (args : Array Value) (below : List Frame) (meth : Method) (c : Code) (Q : State → Prop) (F : rs_Fx) (M : rk_Mt) (cap : Nat × Nat) (kr : rs_KR) : Prop := ∀ (pc : Nat) (v : rs_V) (lo : List rs_V) (en : rs_E) (w : rs_W), kr v en w.1 w.2.1 = true → w.2.2.1 ≤ cap.1 → w.2.2.2 ≤ cap.2 →
  (decode M.2.1 pc = .ok (.return_, 1) → M.2.2.2.1 = none → rs_G p l e R s m args below meth c Q F pc [] lo en w) ∧
  (decode M.2.1 pc = .ok (.ireturn, 1) → M.2.2.2.1 = some .int → v.1 ≤ 3 → rs_G p l e R s m args below meth c Q F pc [v] lo en w) ∧
  (decode M.2.1 pc = .ok (.ireturn, 1) → M.2.2.2.1 = some .boolean → v.1 = 0 → v.2.1 ≤ 1 → rs_G p l e R s m args below meth c Q F pc [v] lo en w) ∧
  (decode M.2.1 pc = .ok (.areturn, 1) → (∃ rt, M.2.2.2.1 = some rt ∧ ((∃ n, rt = .object n) ∨ ∃ t, rt = .array t)) → (v.1 = 4 ∨ v.1 = 5) → rs_G p l e R s m args below meth c Q F pc [v] lo en w)
abbrev rs_Dc : Type := Nat → Nat → Nat → Nat → List Nat → Instr × Nat
abbrev rs_Ck : Type := rk_Mt → Nat × Nat → List (Nat × Nat × Nat × Nat) → Nat → Nat → Nat → Nat → List Nat → Bool
/-- the methods, their cells and slots: by number -/
def rs_Snd (MT : Nat → rk_Mt × Nat × Nat) (h : rs_Hd) (d : rs_Dc) (ck : rs_Ck) : Prop := ∀ (p : Program) (l : Launch) (e : Env) (R : Room) (s : State) (m : MethodId) (args : Array Value) (below : List Frame) (meth : Method) (c : Code) (Q : State → Prop) (F : rs_Fx) (M : rk_Mt) (cap : Nat × Nat) (ft : List (Nat × Nat × Nat × Nat)), rs_Cx p R s m args meth c F M cap ft → ∀ (pc a b c' : Nat) (l' : List Nat) (kt : rs_KT) (kc : rs_KC) (kr : rs_KR) (sk lo : List rs_V) (en : rs_E) (w : rs_W),
  decode M.2.1 pc = .ok (d pc a b c' l') → ck M cap ft pc a b c' l' = true → h a b c' l' kt kc kr pc sk lo en w = true → rs_KTok p l e R s m args below meth c Q F kt → rs_KCok l F MT kc → rs_KRok p l e R s m args below meth c Q F M cap kr → rs_G p l e R s m args below meth c Q F pc sk lo en w
variable {MT : Nat → rk_Mt × Nat × Nat}
theorem rs_goto9 {p : Program} {l : Launch} {e : Env} {R : Room} {s : State} {m : MethodId} {args : Array Value} {below : List Frame} {meth : Method} {c : Code} {Q : State → Prop} {F : rs_Fx} {kt : rs_KT} (hk : rs_KTok p l e R s m args below meth c Q F kt) {pc : Nat} {sk lo : List rs_V} {en : rs_E} {w : rs_W} (h : kt pc sk lo en w = true) {ad : Nat → Nat} {L : List Nat} {f : Nat → va_E} {H : Heap} {locs : List Loc} {ls : Array Slot} {st : List Value} (hon : rs_on F sk lo en w ad L f H locs ls st) : W p l e R s m args below meth c H locs w.2.2.1 w.2.2.2 Q (F0 m pc ls st) := hk pc sk lo en w h ad L f H locs ls st hon
theorem rs_push9 {F : rs_Fx} {sk lo : List rs_V} {en : rs_E} {w : rs_W} {ad : Nat → Nat} {L : List Nat} {f : Nat → va_E} {H : Heap} {locs : List Loc} {ls : Array Slot} {st : List Value} {v : rs_V} {x : Value} (hon : rs_on F sk lo en w ad L f H locs ls st) (hd : rs_dn F ad w.2.1 v x) : rs_on F (v :: sk) lo en w ad L f H locs ls (x :: st) := ⟨hon.1, hon.2.1, hon.2.2.1, hon.2.2.2.1, hd, hon.2.2.2.2⟩
theorem rs_pop9 {F : rs_Fx} {sk lo : List rs_V} {en : rs_E} {w : rs_W} {ad : Nat → Nat} {L : List Nat} {f : Nat → va_E} {H : Heap} {locs : List Loc} {ls : Array Slot} {st : List Value} {v : rs_V} (hon : rs_on F (v :: sk) lo en w ad L f H locs ls st) : ∃ x st', st = x :: st' ∧ rs_dn F ad w.2.1 v x ∧ rs_on F sk lo en w ad L f H locs ls st' := by
  obtain ⟨x, st', e1, e2, e3⟩ := rs_stk_cons hon.2.2.2.2
  exact ⟨x, st', e1, e2, hon.1, hon.2.1, hon.2.2.1, hon.2.2.2.1, e3⟩
theorem rs_env9 {F : rs_Fx} {sk lo : List rs_V} {en en' : rs_E} {w : rs_W} {ad : Nat → Nat} {L : List Nat} {f : Nat → va_E} {H : Heap} {locs : List Loc} {ls : Array Slot} {st : List Value} (hon : rs_on F sk lo en w ad L f H locs ls st) (he : rs_env F.1.2.2.2.2.1 en') : rs_on F sk lo en' w ad L f H locs ls st := ⟨he, hon.2⟩
def rs_tg (pc a : Nat) : Int := (a : Int) - (pc : Int)
theorem rs_tgE (pc a : Nat) : (pc : Int) + rs_tg pc a = (a : Int) := by
  unfold rs_tg
  omega
theorem rs_tru {c x : Bool} (h : (c && x) = true) : c = true ∧ x = true := by simpa using h
theorem rs_o_no : rs_Snd MT rs_h_no (fun _ _ _ _ _ => (.nop, 1)) (fun _ _ _ _ _ _ _ _ => true) := by
  intro p l e R s m args below meth c Q F M cap ft cx pc a b c' l' kt kc kr sk lo en w hdg hck h hk hc hr ad L f H locs ls st hon
  obtain ⟨hx, hb, ⟨hml, hnL⟩, hown, hts, hK, hA, hN, hroom, hnm, htys, hfl⟩ := cx
  cases h
theorem rs_o_iconst : rs_Snd MT rs_h_con (fun _ a _ _ _ => (.iconst (rs_sg a), 1)) (fun _ _ _ _ a b _ _ => decide (a < 4294967296) && Nat.beq b 1) := by
  intro p l e R s m args below meth c Q F M cap ft cx pc a b c' l' kt kc kr sk lo en w hdg hck h hk hc hr ad L f H locs ls st hon
  obtain ⟨hx, hb, ⟨hml, hnL⟩, hown, hts, hK, hA, hN, hroom, hnm, htys, hfl⟩ := cx
  obtain ⟨h1, h2⟩ := rs_tru hck
  have h2 := rs_eqE h2
  subst h2
  exact lv_iconst hx hb hdg (rs_sg_ok (of_decide_eq_true h1)) (rs_goto9 hk h (rs_push9 hon rfl))
theorem rs_o_bipush : rs_Snd MT rs_h_con (fun _ a _ _ _ => (.bipush (rs_sg a), 2)) (fun _ _ _ _ a b _ _ => decide ((Int8.ofInt (rs_sg a)).toInt32 = rs_i a) && Nat.beq b 2) := by
  intro p l e R s m args below meth c Q F M cap ft cx pc a b c' l' kt kc kr sk lo en w hdg hck h hk hc hr ad L f H locs ls st hon
  obtain ⟨hx, hb, ⟨hml, hnL⟩, hown, hts, hK, hA, hN, hroom, hnm, htys, hfl⟩ := cx
  obtain ⟨h1, h2⟩ := rs_tru hck
  have h2 := rs_eqE h2
  subst h2
  exact lv_bipush hx hb hdg (of_decide_eq_true h1) (rs_goto9 hk h (rs_push9 hon rfl))
theorem rs_o_sipush : rs_Snd MT rs_h_con (fun _ a _ _ _ => (.sipush (rs_sg a), 3)) (fun _ _ _ _ a b _ _ => decide ((Int16.ofInt (rs_sg a)).toInt32 = rs_i a) && Nat.beq b 3) := by
  intro p l e R s m args below meth c Q F M cap ft cx pc a b c' l' kt kc kr sk lo en w hdg hck h hk hc hr ad L f H locs ls st hon
  obtain ⟨hx, hb, ⟨hml, hnL⟩, hown, hts, hK, hA, hN, hroom, hnm, htys, hfl⟩ := cx
  obtain ⟨h1, h2⟩ := rs_tru hck
  have h2 := rs_eqE h2
  subst h2
  exact lv_sipush hx hb hdg (of_decide_eq_true h1) (rs_goto9 hk h (rs_push9 hon rfl))
theorem rs_o_ldc : rs_Snd MT rs_h_con (fun _ _ _ c' _ => (.ldc c', 2)) (fun M _ _ _ a b c' l' => rk_tat (.constant M.1.cls c' (rs_i a)) (rs_nth l' 0 0) && Nat.beq b 2) := by
  intro p l e R s m args below meth c Q F M cap ft cx pc a b c' l' kt kc kr sk lo en w hdg hck h hk hc hr ad L f H locs ls st hon
  obtain ⟨hx, hb, ⟨hml, hnL⟩, hown, hts, hK, hA, hN, hroom, hnm, htys, hfl⟩ := cx
  obtain ⟨h1, h2⟩ := rs_tru hck
  have h2 := rs_eqE h2
  subst h2
  exact lv_ldc hx hb hown (hts _ (rk_tat_ok h1)) hdg (rs_goto9 hk h (rs_push9 hon rfl))
theorem rs_o_ldcw : rs_Snd MT rs_h_con (fun _ _ _ c' _ => (.ldc_w c', 3)) (fun M _ _ _ a b c' l' => rk_tat (.constant M.1.cls c' (rs_i a)) (rs_nth l' 0 0) && Nat.beq b 3) := by
  intro p l e R s m args below meth c Q F M cap ft cx pc a b c' l' kt kc kr sk lo en w hdg hck h hk hc hr ad L f H locs ls st hon
  obtain ⟨hx, hb, ⟨hml, hnL⟩, hown, hts, hK, hA, hN, hroom, hnm, htys, hfl⟩ := cx
  obtain ⟨h1, h2⟩ := rs_tru hck
  have h2 := rs_eqE h2
  subst h2
  exact lv_ldcw hx hb hown (hts _ (rk_tat_ok h1)) hdg (rs_goto9 hk h (rs_push9 hon rfl))
theorem rs_o_null : rs_Snd MT rs_h_nul (fun _ _ _ _ _ => (.aconst_null, 1)) (fun _ _ _ _ _ _ _ _ => true) := by
  intro p l e R s m args below meth c Q F M cap ft cx pc a b c' l' kt kc kr sk lo en w hdg hck h hk hc hr ad L f H locs ls st hon
  obtain ⟨hx, hb, ⟨hml, hnL⟩, hown, hts, hK, hA, hN, hroom, hnm, htys, hfl⟩ := cx
  exact lv_null hx hb hdg (rs_goto9 hk h (rs_push9 hon rfl))
theorem rs_o_iload : rs_Snd MT rs_h_ild (fun _ a _ _ _ => (.iload a, 2)) (fun _ _ _ _ a b _ _ => true && Nat.beq b 2) := by
  intro p l e R s m args below meth c Q F M cap ft cx pc a b c' l' kt kc kr sk lo en w hdg hck h hk hc hr ad L f H locs ls st hon
  obtain ⟨hx, hb, ⟨hml, hnL⟩, hown, hts, hK, hA, hN, hroom, hnm, htys, hfl⟩ := cx
  obtain ⟨h1, h2⟩ := rs_tru hck
  have h2 := rs_eqE h2
  subst h2
  unfold rs_h_ild at h
  rcases hE : rs_ln lo a with ⟨t, rr⟩
  rw [hE] at h
  obtain ⟨h3, h⟩ := rs_andE h
  have h3 := rs_leE h3
  obtain ⟨x, e1, e2⟩ := hon.2.2.2.1.2.2 a (by rw [hE]; dsimp only; omega)
  rw [hE] at e2
  obtain ⟨y, rfl⟩ := rs_den_I h3 e2
  exact lv_iload hx hb hdg e1 (rs_goto9 hk h (rs_push9 hon e2))
theorem rs_o_iload_n : rs_Snd MT rs_h_ild (fun _ a _ _ _ => (.iload_n ⟨a % 4, Nat.mod_lt _ (by decide)⟩, 1)) (fun _ _ _ _ a b _ _ => Nat.blt a 4 && Nat.beq b 1) := by
  intro p l e R s m args below meth c Q F M cap ft cx pc a b c' l' kt kc kr sk lo en w hdg hck h hk hc hr ad L f H locs ls st hon
  obtain ⟨hx, hb, ⟨hml, hnL⟩, hown, hts, hK, hA, hN, hroom, hnm, htys, hfl⟩ := cx
  obtain ⟨h1, h2⟩ := rs_tru hck
  have h2 := rs_eqE h2
  subst h2
  unfold rs_h_ild at h
  rcases hE : rs_ln lo a with ⟨t, rr⟩
  rw [hE] at h
  obtain ⟨h3, h⟩ := rs_andE h
  have h3 := rs_leE h3
  obtain ⟨x, e1, e2⟩ := hon.2.2.2.1.2.2 a (by rw [hE]; dsimp only; omega)
  rw [hE] at e2
  obtain ⟨y, rfl⟩ := rs_den_I h3 e2
  exact lv_iload_n hx hb hdg (Nat.mod_eq_of_lt (by rw [Nat.blt_eq] at h1; exact h1)) e1 (rs_goto9 hk h (rs_push9 hon e2))
theorem rs_o_aload : rs_Snd MT rs_h_ald (fun _ a _ _ _ => (.aload a, 2)) (fun _ _ _ _ a b _ _ => true && Nat.beq b 2) := by
  intro p l e R s m args below meth c Q F M cap ft cx pc a b c' l' kt kc kr sk lo en w hdg hck h hk hc hr ad L f H locs ls st hon
  obtain ⟨hx, hb, ⟨hml, hnL⟩, hown, hts, hK, hA, hN, hroom, hnm, htys, hfl⟩ := cx
  obtain ⟨h1, h2⟩ := rs_tru hck
  have h2 := rs_eqE h2
  subst h2
  unfold rs_h_ald at h
  rcases hE : rs_ln lo a with ⟨t, rr⟩
  rw [hE] at h
  obtain ⟨h3, h⟩ := rs_andE h
  have h3 : t = 4 ∨ t = 5 := (rs_orE h3).imp rs_eqE rs_eqE
  obtain ⟨x, e1, e2⟩ := hon.2.2.2.1.2.2 a (by rw [hE]; dsimp only; omega)
  rw [hE] at e2
  rcases h3 with h3 | h3
  · obtain ⟨-, rfl⟩ := rs_den_R h3 e2
    exact lv_aload hx hb hdg e1 (rs_goto9 hk h (rs_push9 hon e2))
  · obtain rfl := rs_den_N h3 e2
    exact lv_aloadN hx hb hdg e1 (rs_goto9 hk h (rs_push9 hon e2))
theorem rs_o_aload_n : rs_Snd MT rs_h_ald (fun _ a _ _ _ => (.aload_n ⟨a % 4, Nat.mod_lt _ (by decide)⟩, 1)) (fun _ _ _ _ a b _ _ => Nat.blt a 4 && Nat.beq b 1) := by
  intro p l e R s m args below meth c Q F M cap ft cx pc a b c' l' kt kc kr sk lo en w hdg hck h hk hc hr ad L f H locs ls st hon
  obtain ⟨hx, hb, ⟨hml, hnL⟩, hown, hts, hK, hA, hN, hroom, hnm, htys, hfl⟩ := cx
  obtain ⟨h1, h2⟩ := rs_tru hck
  have h2 := rs_eqE h2
  subst h2
  unfold rs_h_ald at h
  rcases hE : rs_ln lo a with ⟨t, rr⟩
  rw [hE] at h
  obtain ⟨h3, h⟩ := rs_andE h
  have h3 : t = 4 ∨ t = 5 := (rs_orE h3).imp rs_eqE rs_eqE
  obtain ⟨x, e1, e2⟩ := hon.2.2.2.1.2.2 a (by rw [hE]; dsimp only; omega)
  rw [hE] at e2
  rcases h3 with h3 | h3
  · obtain ⟨-, rfl⟩ := rs_den_R h3 e2
    exact lv_aload_n hx hb hdg (Nat.mod_eq_of_lt (by rw [Nat.blt_eq] at h1; exact h1)) e1 (rs_goto9 hk h (rs_push9 hon e2))
  · obtain rfl := rs_den_N h3 e2
    exact lv_aload_nN hx hb hdg (Nat.mod_eq_of_lt (by rw [Nat.blt_eq] at h1; exact h1)) e1 (rs_goto9 hk h (rs_push9 hon e2))
theorem rs_o_istore : rs_Snd MT rs_h_ist (fun _ a _ _ _ => (.istore a, 2)) (fun M _ _ _ a b _ _ => Nat.blt a M.2.2.1 && Nat.beq b 2) := by
  intro p l e R s m args below meth c Q F M cap ft cx pc a b c' l' kt kc kr sk lo en w hdg hck h hk hc hr ad L f H locs ls st hon
  obtain ⟨hx, hb, ⟨hml, hnL⟩, hown, hts, hK, hA, hN, hroom, hnm, htys, hfl⟩ := cx
  obtain ⟨h1, h2⟩ := rs_tru hck
  rw [Nat.blt_eq, ← hnL] at h1
  have h2 := rs_eqE h2
  subst h2
  unfold rs_h_ist at h
  cases sk with
  | nil => cases h
  | cons v sk =>
    obtain ⟨h3, h⟩ := rs_andE h
    obtain ⟨x, st', rfl, hv, hon'⟩ := rs_pop9 hon
    obtain ⟨y, rfl⟩ := rs_den_I (rs_leE h3) hv
    obtain ⟨lo', b1, b2, b3⟩ := rs_lsE a lo _ h
    obtain ⟨lv, c1, c9, c2⟩ := rs_loc_set (fun _ _ => rs_den_cat) hon'.2.2.2.1 hv b2 b3
    exact lv_istore hx hb hdg c1 h1 rfl (fun ls' hl => rs_goto9 hk b1 ⟨hon'.1, hon'.2.1, hon'.2.2.1, c2 ls' hl, hon'.2.2.2.2⟩)
theorem rs_o_istore_n : rs_Snd MT rs_h_ist (fun _ a _ _ _ => (.istore_n ⟨a % 4, Nat.mod_lt _ (by decide)⟩, 1)) (fun M _ _ _ a b _ _ => (Nat.blt a M.2.2.1 && Nat.blt a 4) && Nat.beq b 1) := by
  intro p l e R s m args below meth c Q F M cap ft cx pc a b c' l' kt kc kr sk lo en w hdg hck h hk hc hr ad L f H locs ls st hon
  obtain ⟨hx, hb, ⟨hml, hnL⟩, hown, hts, hK, hA, hN, hroom, hnm, htys, hfl⟩ := cx
  obtain ⟨h1, h2⟩ := rs_tru hck
  obtain ⟨h1, h4⟩ := rs_tru h1
  rw [Nat.blt_eq, ← hnL] at h1
  have h2 := rs_eqE h2
  subst h2
  unfold rs_h_ist at h
  cases sk with
  | nil => cases h
  | cons v sk =>
    obtain ⟨h3, h⟩ := rs_andE h
    obtain ⟨x, st', rfl, hv, hon'⟩ := rs_pop9 hon
    obtain ⟨y, rfl⟩ := rs_den_I (rs_leE h3) hv
    obtain ⟨lo', b1, b2, b3⟩ := rs_lsE a lo _ h
    obtain ⟨lv, c1, c9, c2⟩ := rs_loc_set (fun _ _ => rs_den_cat) hon'.2.2.2.1 hv b2 b3
    exact lv_istore_n hx hb hdg (Nat.mod_eq_of_lt (by rw [Nat.blt_eq] at h4; exact h4)) c1 h1 rfl (fun ls' hl => rs_goto9 hk b1 ⟨hon'.1, hon'.2.1, hon'.2.2.1, c2 ls' hl, hon'.2.2.2.2⟩)
theorem rs_o_astore : rs_Snd MT rs_h_ast (fun _ a _ _ _ => (.astore a, 2)) (fun M _ _ _ a b _ _ => Nat.blt a M.2.2.1 && Nat.beq b 2) := by
  intro p l e R s m args below meth c Q F M cap ft cx pc a b c' l' kt kc kr sk lo en w hdg hck h hk hc hr ad L f H locs ls st hon
  obtain ⟨hx, hb, ⟨hml, hnL⟩, hown, hts, hK, hA, hN, hroom, hnm, htys, hfl⟩ := cx
  obtain ⟨h1, h2⟩ := rs_tru hck
  rw [Nat.blt_eq, ← hnL] at h1
  have h2 := rs_eqE h2
  subst h2
  unfold rs_h_ast at h
  cases sk with
  | nil => cases h
  | cons v sk =>
    obtain ⟨h3, h⟩ := rs_andE h
    have h3 : v.1 = 4 ∨ v.1 = 5 := (rs_orE h3).imp rs_eqE rs_eqE
    obtain ⟨x, st', rfl, hv, hon'⟩ := rs_pop9 hon
    obtain ⟨lo', b1, b2, b3⟩ := rs_lsE a lo _ h
    obtain ⟨lv, c1, c9, c2⟩ := rs_loc_set (fun _ _ => rs_den_cat) hon'.2.2.2.1 hv b2 b3
    rcases h3 with h3 | h3
    · obtain ⟨-, rfl⟩ := rs_den_R h3 hv
      exact lv_astore hx hb hdg c1 h1 rfl (fun ls' hl => rs_goto9 hk b1 ⟨hon'.1, hon'.2.1, hon'.2.2.1, c2 ls' hl, hon'.2.2.2.2⟩)
    · obtain rfl := rs_den_N h3 hv
      exact lv_astoreN hx hb hdg c1 h1 rfl (fun ls' hl => rs_goto9 hk b1 ⟨hon'.1, hon'.2.1, hon'.2.2.1, c2 ls' hl, hon'.2.2.2.2⟩)
theorem rs_o_astore_n : rs_Snd MT rs_h_ast (fun _ a _ _ _ => (.astore_n ⟨a % 4, Nat.mod_lt _ (by decide)⟩, 1)) (fun M _ _ _ a b _ _ => (Nat.blt a M.2.2.1 && Nat.blt a 4) && Nat.beq b 1) := by
  intro p l e R s m args below meth c Q F M cap ft cx pc a b c' l' kt kc kr sk lo en w hdg hck h hk hc hr ad L f H locs ls st hon
  obtain ⟨hx, hb, ⟨hml, hnL⟩, hown, hts, hK, hA, hN, hroom, hnm, htys, hfl⟩ := cx
  obtain ⟨h1, h2⟩ := rs_tru hck
  obtain ⟨h1, h4⟩ := rs_tru h1
  rw [Nat.blt_eq, ← hnL] at h1
  have h2 := rs_eqE h2
  subst h2
  unfold rs_h_ast at h
  cases sk with
  | nil => cases h
  | cons v sk =>
    obtain ⟨h3, h⟩ := rs_andE h
    have h3 : v.1 = 4 ∨ v.1 = 5 := (rs_orE h3).imp rs_eqE rs_eqE
    obtain ⟨x, st', rfl, hv, hon'⟩ := rs_pop9 hon
    obtain ⟨lo', b1, b2, b3⟩ := rs_lsE a lo _ h
    obtain ⟨lv, c1, c9, c2⟩ := rs_loc_set (fun _ _ => rs_den_cat) hon'.2.2.2.1 hv b2 b3
    rcases h3 with h3 | h3
    · obtain ⟨-, rfl⟩ := rs_den_R h3 hv
      exact lv_astore_n hx hb hdg (Nat.mod_eq_of_lt (by rw [Nat.blt_eq] at h4; exact h4)) c1 h1 rfl (fun ls' hl => rs_goto9 hk b1 ⟨hon'.1, hon'.2.1, hon'.2.2.1, c2 ls' hl, hon'.2.2.2.2⟩)
    · obtain rfl := rs_den_N h3 hv
      exact lv_astore_nN hx hb hdg (Nat.mod_eq_of_lt (by rw [Nat.blt_eq] at h4; exact h4)) c1 h1 rfl (fun ls' hl => rs_goto9 hk b1 ⟨hon'.1, hon'.2.1, hon'.2.2.1, c2 ls' hl, hon'.2.2.2.2⟩)
theorem rs_o_iinc : rs_Snd MT rs_h_inc (fun _ a b _ _ => (.iinc a (rs_sg b), 3)) (fun M _ _ _ a b _ _ => Nat.blt a M.2.2.1 && decide (b < 4294967296)) := by
  intro p l e R s m args below meth c Q F M cap ft cx pc a b c' l' kt kc kr sk lo en w hdg hck h hk hc hr ad L f H locs ls st hon
  obtain ⟨hx, hb, ⟨hml, hnL⟩, hown, hts, hK, hA, hN, hroom, hnm, htys, hfl⟩ := cx
  obtain ⟨h1, h2⟩ := rs_tru hck
  rw [Nat.blt_eq, ← hnL] at h1
  have hsg := rs_sg_ok (of_decide_eq_true h2)
  unfold rs_h_inc at h
  rcases hE : rs_ln lo a with ⟨t, x, y⟩
  rw [hE] at h
  have key : ∀ (v' : rs_V) (X : Int32) (xx : Value), ls[a]? = some (.val xx) → xx = .int X → rs_dn F ad w.2.1 v' (.int (X + rs_i b)) → rs_ls v' a lo (fun lo => kt (Nat.add pc 3) sk lo en w) = true → W p l e R s m args below meth c H locs w.2.2.1 w.2.2.2 Q (F0 m pc ls st) := by
    intro v' X xx e1 e3 hX' h9
    subst e3
    obtain ⟨lo', b1, b2, b3⟩ := rs_lsE a lo _ h9
    obtain ⟨lv, c1, c9, c2⟩ := rs_loc_set (fun _ _ => rs_den_cat) hon.2.2.2.1 hX' b2 b3
    obtain ⟨k, hkk⟩ := List.getElem?_of_mem (c9 _ _ e1)
    exact lv_iinc hx hb hdg c1 hkk (by rw [hsg]) h1 rfl (fun ls' hl => rs_goto9 hk b1 ⟨hon.1, hon.2.1, hon.2.2.1, c2 ls' hl, hon.2.2.2.2⟩)
  have he2 : t < 7 → ∃ xx, ls[a]? = some (.val xx) ∧ rs_dn F ad w.2.1 (t, x, y) xx := fun ht => by
    have := hon.2.2.2.1.2.2 a (by rw [hE]; exact ht)
    rw [hE] at this
    exact this
  rcases rs_ifE h with ⟨h3, h⟩ | ⟨-, h⟩
  · have h3 : t = 0 := rs_eqE h3
    subst h3
    obtain ⟨xx, e1, e2⟩ := he2 (by decide)
    refine key _ (rs_i x) xx e1 e2 ?_ (rs_nfE h)
    show Value.int (rs_i x + rs_i b) = .int (rs_i ((x + b) % 4294967296))
    rw [rs_i_add]
  · rcases rs_ifE h with ⟨h3, h⟩ | ⟨-, h⟩
    · have h3 : t = 1 := rs_eqE h3
      subst h3
      obtain ⟨xx, e1, e2⟩ := he2 (by decide)
      refine key _ _ xx e1 e2 ?_ (rs_nfE h)
      show Value.int (_ + rs_i y + rs_i b) = .int (_ + rs_i ((y + b) % 4294967296))
      rw [rs_add_assoc]
    · obtain ⟨h3, h⟩ := rs_andE h
      have h3 : t = 3 := rs_eqE h3
      subst h3
      obtain ⟨xx, e1, X, e2⟩ := he2 (by decide)
      exact key (3, 0, 0) X xx e1 e2 ⟨_, rfl⟩ h
end RSS
