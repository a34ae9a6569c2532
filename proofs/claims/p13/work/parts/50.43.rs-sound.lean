/-! the run holds -/
noncomputable def rs_ds : Lean.RArray rs_Dc := (.branch 0 (.branch 0 (.branch 0 (.branch 0 (.branch 0 (.branch 0 (.leaf (fun _ _ _ _ _ => (.nop, 1))) (.leaf (fun pc a b _ _ => (.ifnull (rs_tg pc a), 3)))) (.branch 0 (.leaf (fun _ _ _ _ _ => (.iadd, 1))) (.leaf (fun _ a _ _ _ => (.invokespecial a, 3))))) (.branch 0 (.branch 0 (.leaf (fun _ a _ _ _ => (.iload_n ⟨a % 4, Nat.mod_lt _ (by decide)⟩, 1))) (.leaf (fun _ _ _ _ _ => (.arraylength, 1)))) (.branch 0 (.leaf (fun _ _ _ _ _ => (.ishr, 1))) (.leaf (fun _ _ _ _ _ => (.ireturn, 1)))))) (.branch 0 (.branch 0 (.branch 0 (.leaf (fun _ _ _ c' _ => (.ldc c', 2))) (.leaf (fun _ a _ _ _ => (.getfield a, 3)))) (.branch 0 (.leaf (fun _ _ _ _ _ => (.irem, 1))) (.leaf (fun _ a _ _ _ => (.invokevirtual a, 3))))) (.branch 0 (.branch 0 (.leaf (fun _ a _ _ _ => (.istore_n ⟨a % 4, Nat.mod_lt _ (by decide)⟩, 1))) (.leaf (fun _ _ _ _ _ => (.aastore, 1)))) (.branch 0 (.leaf (fun _ _ _ _ _ => (.dup2, 1))) (.leaf (fun _ _ _ _ _ => (.nop, 1))))))) (.branch 0 (.branch 0 (.branch 0 (.branch 0 (.leaf (fun _ a _ _ _ => (.bipush (rs_sg a), 2))) (.leaf (fun pc a b c' l' => (.tableswitch (rs_tg pc c') (a : Int) ((a : Int) + (b : Int) - 1) (l'.map (rs_tg pc)).toArray, 13 + (3 - pc % 4) + 4 * b)))) (.branch 0 (.leaf (fun _ _ _ _ _ => (.imul, 1))) (.leaf (fun _ a _ _ _ => (.invokestatic a, 3))))) (.branch 0 (.branch 0 (.leaf (fun _ a _ _ _ => (.aload_n ⟨a % 4, Nat.mod_lt _ (by decide)⟩, 1))) (.leaf (fun _ _ _ _ _ => (.iastore, 1)))) (.branch 0 (.leaf (fun _ _ _ _ _ => (.pop, 1))) (.leaf (fun _ _ _ _ _ => (.return_, 1)))))) (.branch 0 (.branch 0 (.branch 0 (.leaf (fun _ _ _ _ _ => (.aconst_null, 1))) (.leaf (fun _ a _ _ _ => (.putfield a, 3)))) (.branch 0 (.leaf (fun _ _ _ _ _ => (.ior, 1))) (.leaf (fun _ a _ _ _ => (.invokespecial a, 3))))) (.branch 0 (.branch 0 (.leaf (fun _ a _ _ _ => (.astore_n ⟨a % 4, Nat.mod_lt _ (by decide)⟩, 1))) (.leaf (fun _ _ _ _ _ => (.newarray .int, 2)))) (.branch 0 (.leaf (fun pc a b _ _ => (.if_icmp (rs_cdOf b) (rs_tg pc a), 3))) (.leaf (fun _ _ _ _ _ => (.nop, 1)))))))) (.branch 0 (.branch 0 (.branch 0 (.branch 0 (.branch 0 (.leaf (fun _ a _ _ _ => (.iconst (rs_sg a), 1))) (.leaf (fun pc a b _ _ => (.ifnonnull (rs_tg pc b), 3)))) (.branch 0 (.leaf (fun _ _ _ _ _ => (.isub, 1))) (.leaf (fun _ a _ _ _ => (.invokestatic a, 3))))) (.branch 0 (.branch 0 (.leaf (fun _ a _ _ _ => (.aload a, 2))) (.leaf (fun _ _ _ _ _ => (.iaload, 1)))) (.branch 0 (.leaf (fun _ _ _ _ _ => (.iushr, 1))) (.leaf (fun _ _ _ _ _ => (.areturn, 1)))))) (.branch 0 (.branch 0 (.branch 0 (.leaf (fun _ _ _ c' _ => (.ldc_w c', 3))) (.leaf (fun _ a _ _ _ => (.putfield a, 3)))) (.branch 0 (.leaf (fun _ _ _ _ _ => (.iand, 1))) (.leaf (fun _ a _ _ _ => (.invokestatic a, 3))))) (.branch 0 (.branch 0 (.leaf (fun _ a _ _ _ => (.astore a, 2))) (.leaf (fun _ a _ _ _ => (.new a, 3)))) (.branch 0 (.leaf (fun pc a _ _ _ => (.goto (rs_tg pc a), 3))) (.leaf (fun _ _ _ _ _ => (.nop, 1))))))) (.branch 0 (.branch 0 (.branch 0 (.branch 0 (.leaf (fun _ a _ _ _ => (.sipush (rs_sg a), 3))) (.leaf (fun pc a b c' l' => (.lookupswitch (rs_tg pc (rs_nth l' 0 1)) #[(rs_sg a, rs_tg pc b), (rs_sg c', rs_tg pc (rs_nth l' 0 0))], 9 + (3 - pc % 4) + 16)))) (.branch 0 (.leaf (fun _ _ _ _ _ => (.idiv, 1))) (.leaf (fun _ a _ _ _ => (.invokestatic a, 3))))) (.branch 0 (.branch 0 (.leaf (fun _ a _ _ _ => (.istore a, 2))) (.leaf (fun _ _ _ _ _ => (.aaload, 1)))) (.branch 0 (.leaf (fun _ _ _ _ _ => (.dup, 1))) (.leaf (fun _ _ _ _ _ => (.nop, 1)))))) (.branch 0 (.branch 0 (.branch 0 (.leaf (fun _ a _ _ _ => (.iload a, 2))) (.leaf (fun _ a _ _ _ => (.putfield a, 3)))) (.branch 0 (.leaf (fun _ _ _ _ _ => (.ishl, 1))) (.leaf (fun _ _ _ _ _ => (.ireturn, 1))))) (.branch 0 (.branch 0 (.leaf (fun _ a b _ _ => (.iinc a (rs_sg b), 3))) (.leaf (fun _ a _ _ _ => (.anewarray a, 3)))) (.branch 0 (.leaf (fun pc a b _ _ => (.ifCond (rs_cdOf b) (rs_tg pc a), 3))) (.leaf (fun _ _ _ _ _ => (.nop, 1)))))))))
noncomputable def rs_dsL : Lean.RArray rs_Dc := (.branch 0 (.branch 0 (.branch 0 (.branch 0 (.branch 0 (.branch 0 (.leaf (fun _ _ _ _ _ => (.nop, 1))) (.leaf (fun pc a b _ _ => (.ifnull (rs_tg pc a), 3)))) (.branch 0 (.leaf (fun _ _ _ _ _ => (.iadd, 1))) (.leaf (fun _ a _ _ _ => (.invokespecial a, 3))))) (.branch 0 (.branch 0 (.leaf (fun _ a _ _ _ => (.iload_n ⟨a % 4, Nat.mod_lt _ (by decide)⟩, 1))) (.leaf (fun _ _ _ _ _ => (.arraylength, 1)))) (.branch 0 (.leaf (fun _ _ _ _ _ => (.ishr, 1))) (.leaf (fun _ _ _ _ _ => (.ireturn, 1)))))) (.branch 0 (.branch 0 (.branch 0 (.leaf (fun _ _ _ c' _ => (.ldc c', 2))) (.leaf (fun _ a _ _ _ => (.getfield a, 3)))) (.branch 0 (.leaf (fun _ _ _ _ _ => (.irem, 1))) (.leaf (fun _ a _ _ _ => (.invokevirtual a, 3))))) (.branch 0 (.branch 0 (.leaf (fun _ a _ _ _ => (.istore_n ⟨a % 4, Nat.mod_lt _ (by decide)⟩, 1))) (.leaf (fun _ _ _ _ _ => (.aastore, 1)))) (.branch 0 (.leaf (fun _ _ _ _ _ => (.dup2, 1))) (.leaf (fun _ _ _ _ _ => (.iaload, 1))))))) (.branch 0 (.branch 0 (.branch 0 (.branch 0 (.leaf (fun _ a _ _ _ => (.bipush (rs_sg a), 2))) (.leaf (fun pc a b c' l' => (.tableswitch (rs_tg pc c') (a : Int) ((a : Int) + (b : Int) - 1) (l'.map (rs_tg pc)).toArray, 13 + (3 - pc % 4) + 4 * b)))) (.branch 0 (.leaf (fun _ _ _ _ _ => (.imul, 1))) (.leaf (fun _ a _ _ _ => (.invokestatic a, 3))))) (.branch 0 (.branch 0 (.leaf (fun _ a _ _ _ => (.aload_n ⟨a % 4, Nat.mod_lt _ (by decide)⟩, 1))) (.leaf (fun _ _ _ _ _ => (.iastore, 1)))) (.branch 0 (.leaf (fun _ _ _ _ _ => (.pop, 1))) (.leaf (fun _ _ _ _ _ => (.return_, 1)))))) (.branch 0 (.branch 0 (.branch 0 (.leaf (fun _ _ _ _ _ => (.aconst_null, 1))) (.leaf (fun _ a _ _ _ => (.putfield a, 3)))) (.branch 0 (.leaf (fun _ _ _ _ _ => (.ior, 1))) (.leaf (fun _ a _ _ _ => (.invokespecial a, 3))))) (.branch 0 (.branch 0 (.leaf (fun _ a _ _ _ => (.astore_n ⟨a % 4, Nat.mod_lt _ (by decide)⟩, 1))) (.leaf (fun _ _ _ _ _ => (.newarray .int, 2)))) (.branch 0 (.leaf (fun pc a b _ _ => (.if_icmp (rs_cdOf b) (rs_tg pc a), 3))) (.leaf (fun _ _ _ _ _ => (.nop, 1)))))))) (.branch 0 (.branch 0 (.branch 0 (.branch 0 (.branch 0 (.leaf (fun _ a _ _ _ => (.iconst (rs_sg a), 1))) (.leaf (fun pc a b _ _ => (.ifnonnull (rs_tg pc b), 3)))) (.branch 0 (.leaf (fun _ _ _ _ _ => (.isub, 1))) (.leaf (fun _ a _ _ _ => (.invokestatic a, 3))))) (.branch 0 (.branch 0 (.leaf (fun _ a _ _ _ => (.aload a, 2))) (.leaf (fun _ _ _ _ _ => (.iaload, 1)))) (.branch 0 (.leaf (fun _ _ _ _ _ => (.iushr, 1))) (.leaf (fun _ _ _ _ _ => (.areturn, 1)))))) (.branch 0 (.branch 0 (.branch 0 (.leaf (fun _ _ _ c' _ => (.ldc_w c', 3))) (.leaf (fun _ a _ _ _ => (.putfield a, 3)))) (.branch 0 (.leaf (fun _ _ _ _ _ => (.iand, 1))) (.leaf (fun _ a _ _ _ => (.invokestatic a, 3))))) (.branch 0 (.branch 0 (.leaf (fun _ a _ _ _ => (.astore a, 2))) (.leaf (fun _ a _ _ _ => (.new a, 3)))) (.branch 0 (.leaf (fun pc a _ _ _ => (.goto (rs_tg pc a), 3))) (.leaf (fun _ _ _ _ _ => (.arraylength, 1))))))) (.branch 0 (.branch 0 (.branch 0 (.branch 0 (.leaf (fun _ a _ _ _ => (.sipush (rs_sg a), 3))) (.leaf (fun pc a b c' l' => (.lookupswitch (rs_tg pc (rs_nth l' 0 1)) #[(rs_sg a, rs_tg pc b), (rs_sg c', rs_tg pc (rs_nth l' 0 0))], 9 + (3 - pc % 4) + 16)))) (.branch 0 (.leaf (fun _ _ _ _ _ => (.idiv, 1))) (.leaf (fun _ a _ _ _ => (.invokestatic a, 3))))) (.branch 0 (.branch 0 (.leaf (fun _ a _ _ _ => (.istore a, 2))) (.leaf (fun _ _ _ _ _ => (.aaload, 1)))) (.branch 0 (.leaf (fun _ _ _ _ _ => (.dup, 1))) (.leaf (fun _ _ _ _ _ => (.aload_n ⟨0, by decide⟩, 1)))))) (.branch 0 (.branch 0 (.branch 0 (.leaf (fun _ a _ _ _ => (.iload a, 2))) (.leaf (fun _ a _ _ _ => (.putfield a, 3)))) (.branch 0 (.leaf (fun _ _ _ _ _ => (.ishl, 1))) (.leaf (fun _ _ _ _ _ => (.ireturn, 1))))) (.branch 0 (.branch 0 (.leaf (fun _ a b _ _ => (.iinc a (rs_sg b), 3))) (.leaf (fun _ a _ _ _ => (.anewarray a, 3)))) (.branch 0 (.leaf (fun pc a b _ _ => (.ifCond (rs_cdOf b) (rs_tg pc a), 3))) (.leaf (fun _ _ _ _ _ => (.nop, 1)))))))))
noncomputable def rs_cks (MT : Nat → rk_Mt × Nat × Nat) : Lean.RArray rs_Ck := (.branch 0 (.branch 0 (.branch 0 (.branch 0 (.branch 0 (.branch 0 (.leaf (fun _ _ _ _ _ _ _ _ => true)) (.leaf (fun _ _ _ pc a b _ _ => Nat.beq b (Nat.add pc 3)))) (.branch 0 (.leaf (fun _ _ _ _ _ _ _ _ => true)) (.leaf (fun M _ _ _ a _ _ l' => (rk_tat (.methodLink M.1.cls a Lib.objectInit) (rs_nth l' 0 0) && rk_tat (.instanceMethod Lib.objectInit) (rs_nth l' 0 1)) && (rk_tat (.code Lib.objectInit ⟨#[0xb1]⟩ 1 none) (rs_nth l' 0 2) && (Nat.ble 1 M.2.2.2.2.1 && Nat.ble 20 M.2.2.2.2.2)))))) (.branch 0 (.branch 0 (.leaf (fun _ _ _ _ a b _ _ => Nat.blt a 4 && Nat.beq b 1)) (.leaf (fun _ _ _ _ _ _ _ _ => true))) (.branch 0 (.leaf (fun _ _ _ _ _ _ _ _ => true)) (.leaf (fun M cap _ _ _ _ _ l' => decide (M.2.2.2.1 = some .boolean) && rs_capc cap l'))))) (.branch 0 (.branch 0 (.branch 0 (.leaf (fun M _ _ _ a b c' l' => rk_tat (.constant M.1.cls c' (rs_i a)) (rs_nth l' 0 0) && Nat.beq b 2)) (.leaf (fun _ _ ft _ a b c' _ => rs_fk ft a b c'))) (.branch 0 (.leaf (fun _ _ _ _ _ _ _ _ => true)) (.leaf (rs_cck MT 1)))) (.branch 0 (.branch 0 (.leaf (fun M _ _ _ a b _ _ => (Nat.blt a M.2.2.1 && Nat.blt a 4) && Nat.beq b 1)) (.leaf (fun _ _ _ _ _ _ _ _ => true))) (.branch 0 (.leaf (fun _ _ _ _ _ _ _ _ => true)) (.leaf (fun _ _ _ _ _ _ _ _ => true)))))) (.branch 0 (.branch 0 (.branch 0 (.branch 0 (.leaf (fun _ _ _ _ a b _ _ => decide ((Int8.ofInt (rs_sg a)).toInt32 = rs_i a) && Nat.beq b 2)) (.leaf (fun _ _ _ _ a b _ l' => (Nat.beq l'.length b && Nat.blt 0 b) && Nat.ble (Nat.add a b) 100000))) (.branch 0 (.leaf (fun _ _ _ _ _ _ _ _ => true)) (.leaf (fun M cap _ _ a _ _ l' => (rk_tat (.methodLink M.1.cls a Lib.Math.min.name) (rs_nth l' 0 0) && rk_tat (.static Lib.Math.min.name) (rs_nth l' 0 1)) && ((rk_tat (.initialized "java/lang/Math") (rs_nth l' 0 2) && rk_tat (.code Lib.Math.min.name Lib.Math.min.code 2 (some .int)) (rs_nth l' 0 3)) && ((Nat.ble 1 M.2.2.2.2.1 && Nat.ble 21 M.2.2.2.2.2) && (Nat.ble (rs_nth l' 0 4) cap.1 && Nat.ble (rs_nth l' 0 5) cap.2))))))) (.branch 0 (.branch 0 (.leaf (fun _ _ _ _ a b _ _ => Nat.blt a 4 && Nat.beq b 1)) (.leaf (fun _ _ _ _ _ _ _ _ => true))) (.branch 0 (.leaf (fun _ _ _ _ _ _ _ _ => true)) (.leaf (fun M cap _ _ _ _ _ l' => M.2.2.2.1.isNone && rs_capc cap l'))))) (.branch 0 (.branch 0 (.branch 0 (.leaf (fun _ _ _ _ _ _ _ _ => true)) (.leaf (fun M _ ft _ a b c' l' => (rs_fk ft a b c' && decide (rk_ty b c' = .boolean)) && rs_fin M a b c' l'))) (.branch 0 (.leaf (fun _ _ _ _ _ _ _ _ => true)) (.leaf (rs_cck MT 2)))) (.branch 0 (.branch 0 (.leaf (fun M _ _ _ a b _ _ => (Nat.blt a M.2.2.1 && Nat.blt a 4) && Nat.beq b 1)) (.leaf (fun _ cap _ _ _ _ _ l' => rk_tat (.arrayClass .int) (rs_nth l' 0 2) && rs_capc cap l'))) (.branch 0 (.leaf (fun _ _ _ _ _ b _ _ => Nat.ble b 5)) (.leaf (fun _ _ _ _ _ _ _ _ => true))))))) (.branch 0 (.branch 0 (.branch 0 (.branch 0 (.branch 0 (.leaf (fun _ _ _ _ a b _ _ => decide (a < 4294967296) && Nat.beq b 1)) (.leaf (fun _ _ _ pc a b _ _ => Nat.beq a (Nat.add pc 3)))) (.branch 0 (.leaf (fun _ _ _ _ _ _ _ _ => true)) (.leaf (fun M cap _ _ a _ _ l' => (rk_tat (.methodLink M.1.cls a Lib.Math.max.name) (rs_nth l' 0 0) && rk_tat (.static Lib.Math.max.name) (rs_nth l' 0 1)) && ((rk_tat (.initialized "java/lang/Math") (rs_nth l' 0 2) && rk_tat (.code Lib.Math.max.name Lib.Math.max.code 2 (some .int)) (rs_nth l' 0 3)) && ((Nat.ble 1 M.2.2.2.2.1 && Nat.ble 21 M.2.2.2.2.2) && (Nat.ble (rs_nth l' 0 4) cap.1 && Nat.ble (rs_nth l' 0 5) cap.2))))))) (.branch 0 (.branch 0 (.leaf (fun _ _ _ _ a b _ _ => true && Nat.beq b 2)) (.leaf (fun _ _ _ _ _ _ _ _ => true))) (.branch 0 (.leaf (fun _ _ _ _ _ _ _ _ => true)) (.leaf (fun M cap _ _ _ _ _ l' => (match M.2.2.2.1 with | some t => rs_isA t | none => false) && rs_capc cap l'))))) (.branch 0 (.branch 0 (.branch 0 (.leaf (fun M _ _ _ a b c' l' => rk_tat (.constant M.1.cls c' (rs_i a)) (rs_nth l' 0 0) && Nat.beq b 3)) (.leaf (fun M _ ft _ a b c' l' => (rs_fk ft a b c' && decide (rk_ty b c' = .int)) && rs_fin M a b c' l'))) (.branch 0 (.leaf (fun _ _ _ _ _ _ _ _ => true)) (.leaf (rs_cck MT 0)))) (.branch 0 (.branch 0 (.leaf (fun M _ _ _ a b _ _ => Nat.blt a M.2.2.1 && Nat.beq b 2)) (.leaf (fun M cap _ _ a b c' l' => (rs_newc M a b c' l' && rs_capc cap l') && ((Nat.blt b 16 && Nat.ble c' 32) && (List.range c').all (fun k => rs_dft (rk_ty b k) (rt_g (rt_g rs_dv b) k)))))) (.branch 0 (.leaf (fun _ _ _ _ _ _ _ _ => true)) (.leaf (fun _ _ _ _ _ _ _ _ => true)))))) (.branch 0 (.branch 0 (.branch 0 (.branch 0 (.leaf (fun _ _ _ _ a b _ _ => decide ((Int16.ofInt (rs_sg a)).toInt32 = rs_i a) && Nat.beq b 3)) (.leaf (fun _ _ _ _ a _ c' _ => (decide (a < 4294967296) && decide (c' < 4294967296)) && decide (rs_sg a < rs_sg c')))) (.branch 0 (.leaf (fun _ _ _ _ _ _ _ _ => true)) (.leaf (fun M _ _ _ a _ _ l' => (rk_tat (.methodLink M.1.cls a arraycopyName) (rs_nth l' 0 0) && rk_tat (.native arraycopyName) (rs_nth l' 0 1)) && ((rk_tat (.static arraycopyName) (rs_nth l' 0 2) && rk_tat (.initialized "java/lang/System") (rs_nth l' 0 3)) && (Nat.ble 1 M.2.2.2.2.1 && Nat.ble (8 + (nativeFrameWords "java/lang/System" "arraycopy" 5 + 11)) M.2.2.2.2.2)))))) (.branch 0 (.branch 0 (.leaf (fun M _ _ _ a b _ _ => Nat.blt a M.2.2.1 && Nat.beq b 2)) (.leaf (fun _ _ _ _ _ _ _ _ => true))) (.branch 0 (.leaf (fun _ _ _ _ _ _ _ _ => true)) (.leaf (fun _ _ _ _ _ _ _ _ => true))))) (.branch 0 (.branch 0 (.branch 0 (.leaf (fun _ _ _ _ a b _ _ => true && Nat.beq b 2)) (.leaf (fun M _ ft _ a b c' l' => (rs_fk ft a b c' && rs_isA (rk_ty b c')) && rs_fin M a b c' l'))) (.branch 0 (.leaf (fun _ _ _ _ _ _ _ _ => true)) (.leaf (fun M cap _ _ _ _ _ l' => decide (M.2.2.2.1 = some .int) && rs_capc cap l')))) (.branch 0 (.branch 0 (.leaf (fun M _ _ _ a b _ _ => Nat.blt a M.2.2.1 && decide (b < 4294967296))) (.leaf (fun M cap _ _ a b _ l' => (rk_tat (.classLink M.1.cls a (rs_an b)) (rs_nth l' 0 2) && rs_capc cap l') && (Nat.ble 1 b && Nat.ble b 5)))) (.branch 0 (.leaf (fun _ _ _ _ _ b _ _ => Nat.ble b 5)) (.leaf (fun _ _ _ _ _ _ _ _ => true))))))))
def rs_al3 {α β γ : Type} (P : α → β → γ → Prop) : Lean.RArray α → Lean.RArray β → Lean.RArray γ → Prop
  | .leaf a, .leaf b, .leaf c => P a b c
  | .branch _ a1 a2, .branch _ b1 b2, .branch _ c1 c2 => rs_al3 P a1 b1 c1 ∧ rs_al3 P a2 b2 c2
  | _, _, _ => False
theorem rs_al3E {α β γ : Type} {P : α → β → γ → Prop} : ∀ (a : Lean.RArray α) (b : Lean.RArray β) (c : Lean.RArray γ), rs_al3 P a b c → ∀ i, P (rt_g a i) (rt_g b i) (rt_g c i)
  | .leaf a, .leaf b, .leaf c, h, i => h
  | .branch _ a1 a2, .branch _ b1 b2, .branch _ c1 c2, h, i => by
    rw [rt_g_branch, rt_g_branch, rt_g_branch]
    split
    · exact rs_al3E a1 b1 c1 h.1 _
    · exact rs_al3E a2 b2 c2 h.2 _
  | .leaf _, .leaf _, .branch _ _ _, h, _ => absurd h id
  | .leaf _, .branch _ _ _, _, h, _ => absurd h id
  | .branch _ _ _, .leaf _, _, h, _ => absurd h id
  | .branch _ _ _, .branch _ _ _, .leaf _, h, _ => absurd h id
section RSR
variable (MT : Nat → rk_Mt × Nat × Nat)
def rs_Scr (s : State) (F : rs_Fx) : Prop := ∃ (Ls : Nat) (xs : Nat → Int32), va_X F.1.2.2.2.2.2.1 Ls xs s F.1.2.2.2.1 ∧ F.1.2.2.2.2.2.1 < F.1.2.2.2.1.size ∧ ¬ F.1.2.2.1 F.1.2.2.2.2.2.1 ∧ F.1.2.2.2.2.1 6 = Int32.ofNat Ls ∧ (∀ k, k < Ls → F.1.2.2.2.2.1 k = xs k) ∧ Ls ≤ 6
/-- in the law's own frame -/
def rs_SndS (h : rs_Hd) (d : rs_Dc) (ck : rs_Ck) : Prop := ∀ (p : Program) (l : Launch) (e : Env) (R : Room) (s : State) (m : MethodId) (args : Array Value) (below : List Frame) (meth : Method) (c : Code) (Q : State → Prop) (F : rs_Fx) (M : rk_Mt) (cap : Nat × Nat) (ft : List (Nat × Nat × Nat × Nat)), rs_Cx p R s m args meth c F M cap ft → rs_Scr s F → ∀ (pc a b c' : Nat) (l' : List Nat) (kt : rs_KT) (kc : rs_KC) (kr : rs_KR) (sk lo : List rs_V) (en : rs_E) (w : rs_W),
  decode M.2.1 pc = .ok (d pc a b c' l') → ck M cap ft pc a b c' l' = true → h a b c' l' kt kc kr pc sk lo en w = true → rs_KTok p l e R s m args below meth c Q F kt → rs_KCok l F MT kc → rs_KRok p l e R s m args below meth c Q F M cap kr → rs_G p l e R s m args below meth c Q F pc sk lo en w
def rs_P1 (h : Nat × rs_Hd) (d : rs_Dc) (ck : rs_Ck) : Prop := h.2 = rs_h_no ∨ rs_Snd MT h.2 d ck
def rs_P2 (h : Nat × rs_Hd) (d : rs_Dc) (ck : rs_Ck) : Prop := h.2 = rs_h_no ∨ rs_SndS MT h.2 d ck
theorem rs_toS {h : rs_Hd} {d : rs_Dc} {ck : rs_Ck} (hs : rs_Snd MT h d ck) : rs_SndS MT h d ck := fun p l e R s m args below meth c Q F M cap ft cx _ => hs p l e R s m args below meth c Q F M cap ft cx
theorem rs_o_sal : rs_SndS MT rs_h_sal (fun _ _ _ _ _ => (.aload_n ⟨0, by decide⟩, 1)) (fun _ _ _ _ _ _ _ _ => true) := by
  intro p l e R s m args below meth c Q F M cap ft cx hscr pc a b c' l' kt kc kr sk lo en w hdg hck h hk hc hr ad L f H locs ls st hon
  obtain ⟨hx, hb, ⟨hml, hnL⟩, hown, hts, hK, hA, hN, hroom, hnm, htys, hfl⟩ := cx
  unfold rs_h_sal at h
  rcases hE : rs_ln lo 0 with ⟨t, rr⟩
  rw [hE] at h
  obtain ⟨h3, h⟩ := rs_andE h
  have h3 : t = 6 := rs_eqE h3
  obtain ⟨x, e1, e2⟩ := hon.2.2.2.1.2.2 0 (by rw [hE]; dsimp only; omega)
  rw [hE] at e2
  have ex : x = .ref F.1.2.2.2.2.2.1 := by
    obtain ⟨r1, r2⟩ := rr
    rw [h3] at e2
    exact e2
  rw [ex] at e1 e2
  exact lv_aload_n hx hb hdg rfl e1 (rs_goto9 hk h (rs_push9 hon e2))
theorem rs_den_6 {r : Nat → Int32} {sb : Nat} {ad : Nat → Nat} {nn : Nat} {v : rs_V} {x : Value} (h : v.1 = 6) (hd : rs_den r sb ad nn v x) : x = .ref sb := by
  obtain ⟨t, a, c⟩ := v
  dsimp only at h
  subst h
  exact hd
theorem rs_o_slen : rs_SndS MT rs_h_slen (fun _ _ _ _ _ => (.arraylength, 1)) (fun _ _ _ _ _ _ _ _ => true) := by
  intro p l e R s m args below meth c Q F M cap ft cx hscr pc a b c' l' kt kc kr sk lo en w hdg hck h hk hc hr ad L f H locs ls st hon
  obtain ⟨hx, hb, ⟨hml, hnL⟩, hown, hts, hK, hA, hN, hroom, hnm, htys, hfl⟩ := cx
  obtain ⟨Ls, xs, x1, x2, x3, x4, x5, x6⟩ := hscr
  unfold rs_h_slen at h
  cases sk with
  | nil => cases h
  | cons v sk =>
    obtain ⟨xv, s2, rfl, hv, hon2⟩ := rs_pop9 hon
    obtain ⟨h1, h⟩ := rs_andE h
    have ex := rs_den_6 (rs_eqE h1) hv
    subst ex
    refine va_slen hx hb x1 x2 x3 (rs_w_all hon.2.1).2.2.1 hdg (rs_goto9 hk h (rs_push9 hon2 ?_))
    show Value.int (Int32.ofNat Ls) = .int (F.1.2.2.2.2.1 6 + rs_i 0)
    rw [x4, rs_add0]
theorem rs_o_sld : rs_SndS MT rs_h_sld (fun _ _ _ _ _ => (.iaload, 1)) (fun _ _ _ _ _ _ _ _ => true) := by
  intro p l e R s m args below meth c Q F M cap ft cx hscr pc a b c' l' kt kc kr sk lo en w hdg hck h hk hc hr ad L f H locs ls st hon
  obtain ⟨hx, hb, ⟨hml, hnL⟩, hown, hts, hK, hA, hN, hroom, hnm, htys, hfl⟩ := cx
  obtain ⟨Ls, xs, x1, x2, x3, x4, x5, x6⟩ := hscr
  unfold rs_h_sld at h
  cases sk with
  | nil => cases h
  | cons x sk =>
    obtain ⟨xv, s1, rfl, hxx, hon1⟩ := rs_pop9 hon
    cases sk with
    | nil => cases h
    | cons v sk =>
      obtain ⟨vv, s2, rfl, hv, hon2⟩ := rs_pop9 hon1
      obtain ⟨h1, h⟩ := rs_andE h
      obtain ⟨h2, h⟩ := rs_andE h
      obtain ⟨h3, h⟩ := rs_andE h
      obtain ⟨h4, h⟩ := rs_andE h
      have ex := rs_den_6 (rs_eqE h1) hv
      have ei := rs_den_0 (rs_eqE h2) hxx
      subst ex
      subst ei
      have h3 := rs_leE h3
      have h4 := rs_leE h4
      have hv6 := (hon.1 6).1
      rw [x4] at hv6
      have hb6 : rs_b (Int32.ofNat Ls) = Ls + 2147483648 := by
        have : Int32.ofNat Ls = rs_i Ls := rfl
        rw [this, rs_b_i, rs_bi_e]
        omega
      rw [hb6] at hv6
      have hj : x.2.1 < Ls := by omega
      obtain ⟨i1, i2⟩ := rs_ix hj (by omega)
      refine va_sld hx hb x1 x2 x3 (rs_w_all hon.2.1).2.2.1 i1 hdg (rs_goto9 hk h (rs_push9 hon2 ?_))
      rw [i2]
      show Value.int (xs x.2.1) = .int (F.1.2.2.2.2.1 x.2.1 + rs_i 0)
      rw [rs_add0, x5 _ hj]
theorem rs_disp : ∀ cd, rs_P1 MT (rt_g rs_hs cd) (rt_g rs_ds cd) (rt_g (rs_cks MT) cd) := rs_al3E _ _ _ (show rs_al3 (rs_P1 MT) rs_hs rs_ds (rs_cks MT) from ⟨⟨⟨⟨⟨⟨Or.inl rfl, Or.inr rs_o_ifnull⟩, ⟨Or.inr rs_o_iadd, Or.inr rs_o_oini⟩⟩, ⟨⟨Or.inr rs_o_iload_n, Or.inr rs_o_len⟩, ⟨Or.inr rs_o_ishr, Or.inr rs_o_zret⟩⟩⟩, ⟨⟨⟨Or.inr rs_o_ldc, Or.inr rs_o_get⟩, ⟨Or.inr rs_o_irem, Or.inr rs_o_virt⟩⟩, ⟨⟨Or.inr rs_o_istore_n, Or.inr rs_o_aast⟩, ⟨Or.inr rs_o_dup2, Or.inl rfl⟩⟩⟩⟩, ⟨⟨⟨⟨Or.inr rs_o_bipush, Or.inr rs_o_tsw⟩, ⟨Or.inr rs_o_imul, Or.inr rs_o_min⟩⟩, ⟨⟨Or.inr rs_o_aload_n, Or.inr rs_o_iast⟩, ⟨Or.inr rs_o_pop, Or.inr rs_o_vret⟩⟩⟩, ⟨⟨⟨Or.inr rs_o_null, Or.inr rs_o_putZ⟩, ⟨Or.inr rs_o_ior, Or.inr rs_o_init⟩⟩, ⟨⟨Or.inr rs_o_astore_n, Or.inr rs_o_newa⟩, ⟨Or.inr rs_o_icmp, Or.inl rfl⟩⟩⟩⟩⟩, ⟨⟨⟨⟨⟨Or.inr rs_o_iconst, Or.inr rs_o_ifnonnull⟩, ⟨Or.inr rs_o_isub, Or.inr rs_o_max⟩⟩, ⟨⟨Or.inr rs_o_aload, Or.inr rs_o_iald⟩, ⟨Or.inr rs_o_iushr, Or.inr rs_o_aret⟩⟩⟩, ⟨⟨⟨Or.inr rs_o_ldcw, Or.inr rs_o_putI⟩, ⟨Or.inr rs_o_iand, Or.inr rs_o_stat⟩⟩, ⟨⟨Or.inr rs_o_astore, Or.inr rs_o_new⟩, ⟨Or.inr rs_o_goto, Or.inl rfl⟩⟩⟩⟩, ⟨⟨⟨⟨Or.inr rs_o_sipush, Or.inr rs_o_lsw⟩, ⟨Or.inr rs_o_idiv, Or.inr rs_o_acp⟩⟩, ⟨⟨Or.inr rs_o_istore, Or.inr rs_o_aald⟩, ⟨Or.inr rs_o_dup, Or.inl rfl⟩⟩⟩, ⟨⟨⟨Or.inr rs_o_iload, Or.inr rs_o_putA⟩, ⟨Or.inr rs_o_ishl, Or.inr rs_o_iret⟩⟩, ⟨⟨Or.inr rs_o_iinc, Or.inr rs_o_anew⟩, ⟨Or.inr rs_o_if0, Or.inl rfl⟩⟩⟩⟩⟩⟩)
theorem rs_dispL : ∀ cd, rs_P2 MT (rt_g rs_hsL cd) (rt_g rs_dsL cd) (rt_g (rs_cks MT) cd) := rs_al3E _ _ _ (show rs_al3 (rs_P2 MT) rs_hsL rs_dsL (rs_cks MT) from ⟨⟨⟨⟨⟨⟨Or.inl rfl, Or.inr (rs_toS MT rs_o_ifnull)⟩, ⟨Or.inr (rs_toS MT rs_o_iadd), Or.inr (rs_toS MT rs_o_oini)⟩⟩, ⟨⟨Or.inr (rs_toS MT rs_o_iload_n), Or.inr (rs_toS MT rs_o_len)⟩, ⟨Or.inr (rs_toS MT rs_o_ishr), Or.inr (rs_toS MT rs_o_zret)⟩⟩⟩, ⟨⟨⟨Or.inr (rs_toS MT rs_o_ldc), Or.inr (rs_toS MT rs_o_get)⟩, ⟨Or.inr (rs_toS MT rs_o_irem), Or.inr (rs_toS MT rs_o_virt)⟩⟩, ⟨⟨Or.inr (rs_toS MT rs_o_istore_n), Or.inr (rs_toS MT rs_o_aast)⟩, ⟨Or.inr (rs_toS MT rs_o_dup2), Or.inr (rs_o_sld MT)⟩⟩⟩⟩, ⟨⟨⟨⟨Or.inr (rs_toS MT rs_o_bipush), Or.inr (rs_toS MT rs_o_tsw)⟩, ⟨Or.inr (rs_toS MT rs_o_imul), Or.inr (rs_toS MT rs_o_min)⟩⟩, ⟨⟨Or.inr (rs_toS MT rs_o_aload_n), Or.inr (rs_toS MT rs_o_iast)⟩, ⟨Or.inr (rs_toS MT rs_o_pop), Or.inr (rs_toS MT rs_o_vret)⟩⟩⟩, ⟨⟨⟨Or.inr (rs_toS MT rs_o_null), Or.inr (rs_toS MT rs_o_putZ)⟩, ⟨Or.inr (rs_toS MT rs_o_ior), Or.inr (rs_toS MT rs_o_init)⟩⟩, ⟨⟨Or.inr (rs_toS MT rs_o_astore_n), Or.inr (rs_toS MT rs_o_newa)⟩, ⟨Or.inr (rs_toS MT rs_o_icmp), Or.inl rfl⟩⟩⟩⟩⟩, ⟨⟨⟨⟨⟨Or.inr (rs_toS MT rs_o_iconst), Or.inr (rs_toS MT rs_o_ifnonnull)⟩, ⟨Or.inr (rs_toS MT rs_o_isub), Or.inr (rs_toS MT rs_o_max)⟩⟩, ⟨⟨Or.inr (rs_toS MT rs_o_aload), Or.inr (rs_toS MT rs_o_iald)⟩, ⟨Or.inr (rs_toS MT rs_o_iushr), Or.inr (rs_toS MT rs_o_aret)⟩⟩⟩, ⟨⟨⟨Or.inr (rs_toS MT rs_o_ldcw), Or.inr (rs_toS MT rs_o_putI)⟩, ⟨Or.inr (rs_toS MT rs_o_iand), Or.inr (rs_toS MT rs_o_stat)⟩⟩, ⟨⟨Or.inr (rs_toS MT rs_o_astore), Or.inr (rs_toS MT rs_o_new)⟩, ⟨Or.inr (rs_toS MT rs_o_goto), Or.inr (rs_o_slen MT)⟩⟩⟩⟩, ⟨⟨⟨⟨Or.inr (rs_toS MT rs_o_sipush), Or.inr (rs_toS MT rs_o_lsw)⟩, ⟨Or.inr (rs_toS MT rs_o_idiv), Or.inr (rs_toS MT rs_o_acp)⟩⟩, ⟨⟨Or.inr (rs_toS MT rs_o_istore), Or.inr (rs_toS MT rs_o_aald)⟩, ⟨Or.inr (rs_toS MT rs_o_dup), Or.inr (rs_o_sal MT)⟩⟩⟩, ⟨⟨⟨Or.inr (rs_toS MT rs_o_iload), Or.inr (rs_toS MT rs_o_putA)⟩, ⟨Or.inr (rs_toS MT rs_o_ishl), Or.inr (rs_toS MT rs_o_iret)⟩⟩, ⟨⟨Or.inr (rs_toS MT rs_o_iinc), Or.inr (rs_toS MT rs_o_anew)⟩, ⟨Or.inr (rs_toS MT rs_o_if0), Or.inl rfl⟩⟩⟩⟩⟩⟩)
/-- what the tables must say of method z at each instruction -/
def rs_Tok (ds : Lean.RArray rs_Dc) (t : Lean.RArray rs_I) (M : rk_Mt × Nat × Nat) (ft : List (Nat × Nat × Nat × Nat)) : Prop := ∀ pc cd a b c l, rt_g t pc = (pc, cd, a, b, c, l) → cd = 0 ∨ (decode M.1.2.1 pc = .ok (rt_g ds cd pc a b c l) ∧ rt_g (rs_cks MT) cd M.1 M.2 ft pc a b c l = true)
/-- a method's own facts -/
def rs_Mok (M : rk_Mt × Nat × Nat) (ft : List (Nat × Nat × Nat × Nat)) : Prop := plainName M.1.1.cls = true ∧ (∀ (s : State) (args : Array Value), (∀ w ∈ rk_tbl, w.before args s = true) → rs_NU s → rk_FlOk s args rk_tbl M.1.1.cls (rk_flf ft))
theorem rs_args {dn : rs_V → Value → Prop} (hcat : ∀ v x, dn v x → x.category = 1) : ∀ (as : List rs_V) (vs : List Value), rs_stk dn as vs → ∀ i, (rs_ln as i).1 < 7 → ∃ x, vs[i]? = some x ∧ dn (rs_ln as i) x
  | [], [], _, i, h => absurd h (by show ¬ (9 : Nat) < 7; decide)
  | v :: as, x :: vs, h, 0, _ => ⟨x, rfl, h.1⟩
  | v :: as, x :: vs, h, i + 1, hi => rs_args hcat as vs h.2 i hi
  | [], _ :: _, h, _, _ => absurd h id
  | _ :: _, [], h, _, _ => absurd h id
theorem rs_stk_mem {dn : rs_V → Value → Prop} (hcat : ∀ v x, dn v x → x.category = 1) : ∀ (as : List rs_V) (vs : List Value), rs_stk dn as vs → ∀ x ∈ vs, x.category = 1
  | [], [], _, x, hx => absurd hx List.not_mem_nil
  | v :: as, y :: vs, h, x, hx => by
    rcases List.mem_cons.mp hx with rfl | hx
    · exact hcat _ _ h.1
    · exact rs_stk_mem hcat as vs h.2 x hx
  | [], _ :: _, h, _, _ => absurd h id
  | _ :: _, [], h, _, _ => absurd h id
theorem rs_fr_rf {X : List (ClassId × FieldType) × va_G × (Nat → Prop) × Heap × (Nat → Int32) × Nat × Nat} {hp : rs_H} {nn : Nat} {ad : Nat → Nat} {L : List Nat} {f : Nat → va_E} : rs_fr (X, hp, nn, ad, L, f) hp nn ad L f := ⟨Nat.le_refl _, fun _ _ => rfl, fun _ _ h => h, fun _ h => h, fun i h1 h2 => absurd h2 (by omega), fun _ _ _ => rfl⟩
variable {MT} {FT : Nat → List (Nat × Nat × Nat × Nat)} {ct : Lean.RArray (Lean.RArray rs_I)}
set_option maxHeartbeats 1000000 in
theorem rs_con_of (hMo : ∀ z, rs_Mok (MT z) (FT z)) {l : Launch} {tys : List (ClassId × FieldType)} {D : va_G} {r : Nat → Int32} {sb q : Nat} {as : List rs_V} {en : rs_E} {hp : rs_H} {nn : Nat} {kr : rs_KR} (hty0 : ∃ cI c1 c2 c3 c4 c5 : ClassId, tys = rk_tys cI c1 c2 c3 c4 c5) (hG : ∀ (p : Program) (e : Env) (R : Room) (s : State) (m : MethodId) (args : Array Value) (below : List Frame) (meth : Method) (c : Code) (Q : State → Prop) (F : rs_Fx), rs_Cx p R s m args meth c F (MT q).1 (MT q).2 (FT q) → rs_KRok p l e R s m args below meth c Q F (MT q).1 (MT q).2 kr → rs_G p l e R s m args below meth c Q F 0 [] as en (hp, nn, 0, 0)) : rs_Con l tys D r sb (MT q).1 (MT q).2 as en hp nn kr := by
  intro he hlen0 ad L f vs sz hvs hWd
  refine Met.ofW (cc := (MT q).1.2.1) (maxL := (MT q).1.2.2.1) (ret := (MT q).1.2.2.2.1) (hMo q).1 rfl ?_
  intro p e s m args below meth c s₁ B hml0 hv
  obtain ⟨rfl, hsz, hP, hK, hD0, hN⟩ := hv
  have hts0 := atoms_spec (ws := rk_ws (MT q).1) B.pre
  have hts : ∀ w ∈ rk_tbl, w.before vs.toArray s = true := fun w hw => hts0 w (List.mem_cons_of_mem _ hw)
  have hown : s.vm.findClass (MT q).1.1.cls = some m.cls := findClass_of_methodNamed B.named
  subst hsz
  have hD := hD0.self (sz := s.heap.size)
  generalize hAe : va_A (va_pl L f) s.heap.size = A at hD ⊢
  have hA : ∀ z : Nat, s.heap.size ≤ z → A z := fun z h => by rw [← hAe]; exact Or.inr h
  have hcat := rs_stk_mem (fun _ _ => rs_den_cat) _ _ hvs
  obtain ⟨cI, c1, c2, c3, c4, c5, hty⟩ := hty0
  have cx' : rs_Cx p (headSpec (rk_ws (MT q).1) { frames := (MT q).1.2.2.2.2.1, cells := (MT q).2.1, slots := (MT q).2.2, locals := (MT q).1.2.2.2.2.2 }).room s m vs.toArray meth c ((tys, D, A, s.heap, r, sb, (MT q).1.2.2.1), hp, nn, ad, L, f) (MT q).1 (MT q).2 (FT q) := ⟨B.exec, B.bytes, ⟨hml0, rfl⟩, hown, hts, hK, hA, hN, ⟨Nat.le_refl _, Nat.le_refl _, Nat.le_refl _, Nat.le_refl _⟩, (name_of_methodNamed B.named B.method).1, ⟨cI, c1, c2, c3, c4, c5, hty⟩, (hMo q).2 s _ hts hN⟩
  have hlen9 : (lg_sl vs).length ≤ (MT q).1.2.2.1 := by
    rw [rk_sl_len vs hcat, rs_stk_len _ _ hvs]
    exact hlen0
  have hl := lv_entry vs (n := (MT q).1.2.2.1) hlen9
  rw [lg_entry_eq]
  generalize (lg_sl vs ++ List.replicate ((MT q).1.2.2.1 - (lg_sl vs).length) Slot.unset).toArray = ls at hl ⊢
  have hret : rs_KRok p l e (headSpec (rk_ws (MT q).1) { frames := (MT q).1.2.2.2.2.1, cells := (MT q).2.1, slots := (MT q).2.2, locals := (MT q).1.2.2.2.2.2 }).room s m vs.toArray below meth c (MQ below (rs_Q tys D r sb hp nn ad L f A (MT q).1.2.2.2.1 kr) vs.toArray s (MT q).2.1 (MT q).2.2 A) ((tys, D, A, s.heap, r, sb, (MT q).1.2.2.1), hp, nn, ad, L, f) (MT q).1 (MT q).2 kr := by
    have hlocks := B.notSynchronized
    have hr9 := B.returns
    have hx9 := B.exec
    have hb9 := B.bytes
    intro pc v lo en w hkr hc1 hc2
    have fin : ∀ (x : Option Value) (sk : List rs_V) (st : List Value) (ad' : Nat → Nat) (L' : List Nat) (f' : Nat → va_E) (H : Heap) (locs : List Loc) (ls : Array Slot), rs_on ((tys, D, A, s.heap, r, sb, (MT q).1.2.2.1), hp, nn, ad, L, f) sk lo en w ad' L' f' H locs ls st → (x = none ↔ (MT q).1.2.2.2.1 = none) → (∀ y, x = some y → rs_den r sb ad' w.2.1 v y) → ∀ t : State, t.heap = H → s.WarmedH t.vm → rs_Q tys D r sb hp nn ad L f A (MT q).1.2.2.2.1 kr vs.toArray s (.returned x) t := by
      intro x sk st ad' L' f' H locs ls hon hiff hden t ht hW
      obtain ⟨o1, ⟨o2, o3, o4, o5, o6, o7⟩, o8, -, -⟩ := hon
      exact ⟨⟨x, v, en, w.1, w.2.1, ad', L', f', rfl, hiff, hkr, o1, hden, ⟨o5, o6, o7⟩, o8, by rw [ht]; exact o2, va_K.moved hW.alike hK, o3⟩, o4.F ht⟩
    refine ⟨fun hdg hrt => ?_, fun hdg hrt h3 => ?_, fun hdg hrt h3 h4 => ?_, fun hdg hrt h3 => ?_⟩
    · intro ad' L' f' H locs ls st hon
      have hst := rs_stk_nil hon.2.2.2.2
      have hq9 := fin none _ _ _ _ _ _ _ _ hon ⟨fun _ => hrt, fun _ => rfl⟩ (fun y h => by cases h)
      rw [hst]
      exact W.widen hc1 hc2 (W.vret hx9 hb9 (by rw [hr9]; exact hrt) hq9 hon.2.1.2.2.1.2.2 hdg)
    · intro ad' L' f' H locs ls st hon
      obtain ⟨x, st', hst, hv9, hst'⟩ := rs_stk_cons hon.2.2.2.2
      have hst' := rs_stk_nil hst'
      obtain ⟨y, hy⟩ := rs_den_I h3 hv9
      have hq9 := fin (some x) _ _ _ _ _ _ _ _ hon ⟨fun h => (by cases h), fun h => (by rw [hrt] at h; cases h)⟩ (fun y h => by cases h; exact hv9)
      rw [hst, hst', hy]
      rw [hy] at hq9
      exact W.widen hc1 hc2 (W.iret hx9 hb9 (by rw [hr9]; exact hrt) hq9 hon.2.1.2.2.1.2.2 hdg)
    · intro ad' L' f' H locs ls st hon
      obtain ⟨x, st', hst, hv9, hst'⟩ := rs_stk_cons hon.2.2.2.2
      have hst' := rs_stk_nil hst'
      have hy := rs_den_0 h3 hv9
      have hq9 := fin (some x) _ _ _ _ _ _ _ _ hon ⟨fun h => (by cases h), fun h => (by rw [hrt] at h; cases h)⟩ (fun y h => by cases h; exact hv9)
      rw [hst, hst', hy]
      rw [hy] at hq9
      refine W.widen hc1 hc2 (W.zret (ty := .boolean) hx9 hb9 (by rw [hr9]; exact hrt) ?_ hq9 hon.2.1.2.2.1.2.2 hdg)
      have : v.2.1 = 0 ∨ v.2.1 = 1 := by omega
      rcases this with h | h <;> rw [h] <;> rfl
    · intro ad' L' f' H locs ls st hon
      obtain ⟨rt, hrt1, hrt2⟩ := hrt
      obtain ⟨x, st', hst, hv9, hst'⟩ := rs_stk_cons hon.2.2.2.2
      have hst' := rs_stk_nil hst'
      have hq9 := fin (some x) _ _ _ _ _ _ _ _ hon ⟨fun h => (by cases h), fun h => (by rw [hrt1] at h; cases h)⟩ (fun y h => by cases h; exact hv9)
      rw [hst, hst']
      refine W.widen hc1 hc2 (W.aret hx9 hb9 (by rw [hr9]; exact hrt1) hrt2 ?_ hq9 hon.2.1.2.2.1.2.2 hdg)
      rcases h3 with h3 | h3
      · exact Or.inr ⟨_, (rs_den_R h3 hv9).2⟩
      · exact Or.inl (rs_den_N h3 hv9)
  refine hG p e _ s m vs.toArray below meth c _ _ cx' hret ad L f s.heap [] ls [] ⟨he, ⟨hP, hD, va_S.rf, hWd.1, hWd.2.1, hWd.2.2⟩, rs_fr_rf, ⟨hl.1, hl.2.1, fun i hi => ?_⟩, trivial⟩
  obtain ⟨x, e1, e2⟩ := rs_args (fun _ _ => rs_den_cat) _ _ hvs i hi
  have := rk_args_in vs 0 i hcat e1
  rw [Nat.zero_add] at this
  exact ⟨x, hl.2.2 _ this, e2⟩
set_option maxHeartbeats 1000000 in
theorem rs_run_ok (hT : ∀ z, rs_Tok MT rs_ds (rt_g ct z) (MT z) (FT z)) (hMo : ∀ z, rs_Mok (MT z) (FT z)) : ∀ (n z : Nat) (p : Program) (l : Launch) (e : Env) (R : Room) (s : State) (m : MethodId) (args : Array Value) (below : List Frame) (meth : Method) (c : Code) (Q : State → Prop) (F : rs_Fx), rs_Cx p R s m args meth c F (MT z).1 (MT z).2 (FT z) → ∀ (k : rs_KR) (pc : Nat) (sk lo : List rs_V) (en : rs_E) (w : rs_W), rs_run ct n z k pc sk lo en w = true → rs_KRok p l e R s m args below meth c Q F (MT z).1 (MT z).2 k → rs_G p l e R s m args below meth c Q F pc sk lo en w := by
  intro n
  induction n with
  | zero => intro z p l e R s m args below meth c Q F cx k pc sk lo en w h; cases h
  | succ n ih =>
    intro z p l e R s m args below meth c Q F cx k pc sk lo en w h hr
    have h : @Prod.rec _ _ (fun _ => Bool) (fun p1 r1 => @Prod.rec _ _ (fun _ => Bool) (fun cd r2 => @Prod.rec _ _ (fun _ => Bool) (fun a r_a => @Prod.rec _ _ (fun _ => Bool) (fun b r4 => @Prod.rec _ _ (fun _ => Bool) (fun c l => @Bool.rec (fun _ => Bool) false (@Prod.rec _ _ (fun _ => Bool) (fun _ h => h a b c l (rs_run ct n z k) (fun q as en hp nn kr => rs_run ct n q kr 0 [] as en (hp, nn, 0, 0)) k p1 sk lo en w) (rt_g rs_hs cd)) (Nat.beq p1 pc)) r4) r_a) r2) r1) (rt_g (rt_g ct z) pc) = true := h
    rcases hop : rt_g (rt_g ct z) pc with ⟨p1, cd, a, b, c9, l9⟩
    rw [hop] at h
    obtain ⟨h1, h⟩ := rs_andE h
    have h1 : p1 = pc := rs_eqE h1
    rw [h1] at h hop
    rcases hh : rt_g rs_hs cd with ⟨n9, hd⟩
    rw [hh] at h
    have h : hd a b c9 l9 (rs_run ct n z k) (fun q as en hp nn kr => rs_run ct n q kr 0 [] as en (hp, nn, 0, 0)) k pc sk lo en w = true := h
    have hdp := rs_disp MT cd
    rw [hh] at hdp
    rcases hdp with hno | hs
    · have hno : hd = rs_h_no := hno
      rw [hno] at h
      cases h
    · rcases hT z pc cd a b c9 l9 hop with h0 | ⟨t1, t2⟩
      · rw [h0] at hh
        have : hd = rs_h_no := (congrArg Prod.snd hh).symm
        rw [this] at h
        cases h
      · refine hs p l e R s m args below meth c Q F (MT z).1 (MT z).2 (FT z) cx pc a b c9 l9 _ _ _ sk lo en w t1 t2 h (fun pc sk lo en w h9 => ih z p l e R s m args below meth c Q F cx k pc sk lo en w h9 hr) ?_ hr
        intro q as en hp nn kr hq
        exact rs_con_of hMo cx.2.2.2.2.2.2.2.2.2.2.1 (fun p e R s m args below meth c Q F cx' hret => ih q p l e R s m args below meth c Q F cx' kr 0 [] as en (hp, nn, 0, 0) hq hret)
set_option maxHeartbeats 1000000 in
theorem rs_top_ok (hT : ∀ z, rs_Tok MT rs_ds (rt_g ct z) (MT z) (FT z)) (hMo : ∀ z, rs_Mok (MT z) (FT z)) {lt : Lean.RArray rs_I} {Ml : rk_Mt} {capl : Nat × Nat} (hTl : rs_Tok MT rs_dsL lt (Ml, capl) []) {fu : Nat} {k : rs_KR} : ∀ (n : Nat) (p : Program) (l : Launch) (e : Env) (R : Room) (s : State) (m : MethodId) (args : Array Value) (below : List Frame) (meth : Method) (c : Code) (Q : State → Prop) (F : rs_Fx), rs_Cx p R s m args meth c F Ml capl [] → rs_Scr s F → rs_KRok p l e R s m args below meth c Q F Ml capl k → ∀ (pc : Nat) (sk lo : List rs_V) (en : rs_E) (w : rs_W), rs_top ct lt fu k n pc sk lo en w = true → rs_G p l e R s m args below meth c Q F pc sk lo en w := by
  intro n
  induction n with
  | zero => intro p l e R s m args below meth c Q F cx hscr hr pc sk lo en w h; cases h
  | succ n ih =>
    intro p l e R s m args below meth c Q F cx hscr hr pc sk lo en w h
    have h : @Prod.rec _ _ (fun _ => Bool) (fun p1 r1 => @Prod.rec _ _ (fun _ => Bool) (fun cd r2 => @Prod.rec _ _ (fun _ => Bool) (fun a r_a => @Prod.rec _ _ (fun _ => Bool) (fun b r4 => @Prod.rec _ _ (fun _ => Bool) (fun c l => @Bool.rec (fun _ => Bool) false (@Prod.rec _ _ (fun _ => Bool) (fun _ h => h a b c l (rs_top ct lt fu k n) (fun q as en hp nn kr => rs_run ct fu q kr 0 [] as en (hp, nn, 0, 0)) k p1 sk lo en w) (rt_g rs_hsL cd)) (Nat.beq p1 pc)) r4) r_a) r2) r1) (rt_g lt pc) = true := h
    rcases hop : rt_g lt pc with ⟨p1, cd, a, b, c9, l9⟩
    rw [hop] at h
    obtain ⟨h1, h⟩ := rs_andE h
    have h1 : p1 = pc := rs_eqE h1
    rw [h1] at h hop
    rcases hh : rt_g rs_hsL cd with ⟨n9, hd⟩
    rw [hh] at h
    have h : hd a b c9 l9 (rs_top ct lt fu k n) (fun q as en hp nn kr => rs_run ct fu q kr 0 [] as en (hp, nn, 0, 0)) k pc sk lo en w = true := h
    have hdp := rs_dispL MT cd
    rw [hh] at hdp
    rcases hdp with hno | hs
    · have hno : hd = rs_h_no := hno
      rw [hno] at h
      cases h
    · rcases hTl pc cd a b c9 l9 hop with h0 | ⟨t1, t2⟩
      · rw [h0] at hh
        have : hd = rs_h_no := (congrArg Prod.snd hh).symm
        rw [this] at h
        cases h
      · refine hs p l e R s m args below meth c Q F Ml capl [] cx hscr pc a b c9 l9 _ _ _ sk lo en w t1 t2 h (fun pc sk lo en w h9 => ih p l e R s m args below meth c Q F cx hscr hr pc sk lo en w h9) ?_ hr
        intro q as en hp nn kr hq
        exact rs_con_of hMo cx.2.2.2.2.2.2.2.2.2.2.1 (fun p e R s m args below meth c Q F cx' hret => rs_run_ok hT hMo fu q p l e R s m args below meth c Q F cx' kr 0 [] as en (hp, nn, 0, 0) hq hret)
end RSR
