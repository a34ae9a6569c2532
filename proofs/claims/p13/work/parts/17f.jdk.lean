/-! String constants: length and charAt, by the JDK's own code -/
theorem rj_warm (s : State) : s.WarmedH s.vm := ⟨rfl, rfl, fun d k h => ⟨k, h, rfl, rfl, fun _ => Or.inl rfl, Or.inl ⟨rfl, rfl⟩⟩⟩
section RJX
variable {base : Nat} {ad adV : Nat → Nat} {K : Nat → rk_KD} {E : Nat → Nat → rk_AV} {tys : List (ClassId × FieldType)} {D : va_G} {M : rk_Mt} {mt : Nat → rk_Mt} {ml : rk_Ml} {fl : rk_Fl}
variable {p : Program} {l : Launch} {e : Env} {R : Room} {s : State} {m : MethodId} {args : Array Value} {below : List Frame} {meth : Method} {c : Code} {Q : State → Prop} {cells slots : Nat} {A : Nat → Prop} {G : Nat → Option Nat} {L : List Nat} {X : Int} {f : Nat → va_E} {H : Heap} {locs : List Loc}
theorem rj_NU (hC : rm_Cx base tys D (rk_NU base ad adV) M mt ml fl p R s m args meth c A L) (hh : rm_h D A s L f H locs) : vk_S 5 rk_len rk_byt ad adV (fun q => base ≤ q) s H ∧ va_Z RJ0 "COMPACT_STRINGS" "Z" (.int 1) (fun q => base ≤ q) s H ∧ va_Zq RJ3 "SIOOBE_FORMATTER" "Ljava/util/function/BiFunction;" (fun q => base ≤ q) s H := by
  obtain ⟨hx, hb, hml9, -, -, hown, hts, hK, hNs, hNw, hNc, hml, -, hBL, hB0, hA⟩ := hC
  obtain ⟨-, -, h3, h4, h5, -⟩ := hNw { s with heap := H } locs hh.2.2 (rj_warm s)
  exact ⟨vk_S.moved (Vm.Alike.refl _) h3, va_Z.moved (Vm.Alike.refl _) h4, va_Zq.moved (Vm.Alike.refl _) h5⟩
theorem rj_getf (hC : rm_Cx base tys D (rk_NU base ad adV) M mt ml fl p R s m args meth c A L) {pc idx : Nat} (hdg : decode M.2.1 pc = .ok (.getfield idx, 3)) {o n d : String} {q : Nat} {v : Value} {B : Nat → Prop} (hE : va_OF o n d v q B s H) (hlink : Jvm.Cond.fieldLink M.1.cls idx o n d ∈ rk_tbl) {rest : List Value} {lo : List (Nat × Value)}
    (kk : rv_G p l e R s m args below meth c Q M.2.2.1 cells slots H locs (pc + 3) (v :: rest) lo) : rv_G p l e R s m args below meth c Q M.2.2.1 cells slots H locs pc (.ref q :: rest) lo := by
  intro ls hl
  obtain ⟨hx, hb, hml9, -, -, hown, hts, -⟩ := hC
  obtain ⟨cf, k, fi, f, cell, h1, h2, h3, h4, h5, h6⟩ := hE
  exact W.getf hx hb hown (hts _ (List.mem_cons_of_mem _ hlink)) h1 h2 h3 h4 (v := v) h5 rfl rfl hdg (kk ls hl)
theorem rj_gets (hC : rm_Cx base tys D (rk_NU base ad adV) M mt ml fl p R s m args meth c A L) {pc idx : Nat} (hdg : decode M.2.1 pc = .ok (.getstatic idx, 3)) {o n d : String} {v : Value} {B : Nat → Prop} (hZ : va_Z o n d v B s H) (hlink : Jvm.Cond.fieldLink M.1.cls idx o n d ∈ rk_tbl) {rest : List Value} {lo : List (Nat × Value)}
    (kk : rv_G p l e R s m args below meth c Q M.2.2.1 cells slots H locs (pc + 3) (v :: rest) lo) : rv_G p l e R s m args below meth c Q M.2.2.1 cells slots H locs pc rest lo := by
  intro ls hl
  obtain ⟨hx, hb, hml9, -, -, hown, hts, -⟩ := hC
  obtain ⟨cf, kf, fi, f, a, cell, h1, h2, h3, h4, h5, h6, h7, h8⟩ := hZ
  exact W.gets hx hb hown (hts _ (List.mem_cons_of_mem _ hlink)) h1 h2 h3 h4 h5 (fun e => by rw [e] at h6; cases h6) h7 rfl hdg (kk ls hl)
theorem rj_alen (hC : rm_Cx base tys D (rk_NU base ad adV) M mt ml fl p R s m args meth c A L) {pc : Nat} (hdg : decode M.2.1 pc = .ok (.arraylength, 1)) {ty : FieldType} {t N : Nat} {g : Nat → Value} {B : Nat → Prop} (hT : va_T ty t N g B s H) {rest : List Value} {lo : List (Nat × Value)}
    (kk : rv_G p l e R s m args below meth c Q M.2.2.1 cells slots H locs (pc + 1) (.int (Int32.ofNat N) :: rest) lo) : rv_G p l e R s m args below meth c Q M.2.2.1 cells slots H locs pc (.ref t :: rest) lo := by
  intro ls hl
  obtain ⟨hx, hb, -⟩ := hC
  obtain ⟨cell, h1, h2, h3, h4, h5, h6, h7⟩ := hT
  exact W.alen (n := Int32.ofNat N) hx hb h1 h2 h5 rfl rfl hdg (kk ls hl)
theorem rj_bald (hC : rm_Cx base tys D (rk_NU base ad adV) M mt ml fl p R s m args meth c A L) {pc : Nat} (hdg : decode M.2.1 pc = .ok (.baload, 1)) {t N : Nat} {g : Nat → Value} {B : Nat → Prop} (hT : va_T .byte t N g B s H) {i : Int32} (hin : vp_in i N) {rest : List Value} {lo : List (Nat × Value)}
    (kk : rv_G p l e R s m args below meth c Q M.2.2.1 cells slots H locs (pc + 1) (g i.toNatClampNeg :: rest) lo) : rv_G p l e R s m args below meth c Q M.2.2.1 cells slots H locs pc (.int i :: .ref t :: rest) lo := by
  intro ls hl
  obtain ⟨hx, hb, -⟩ := hC
  obtain ⟨cell, h1, h2, h3, h4, h5, h6, h7⟩ := hT
  have hlt : i.toNatClampNeg < N := Nat.not_le.mp fun q => hin (Or.inr q)
  have hin' : ¬ (i < 0 ∨ cell.slots.size ≤ i.toNatClampNeg) := by
    intro q
    rcases q with q | q
    · exact hin (Or.inl q)
    · omega
  exact W.bald (v := g i.toNatClampNeg) hx hb h1 h2 h3 hin' (h6 _ hlt) rfl rfl hdg (kk ls hl)
theorem rj_i2c (hC : rm_Cx base tys D (rk_NU base ad adV) M mt ml fl p R s m args meth c A L) {pc : Nat} (hdg : decode M.2.1 pc = .ok (.i2c, 1)) {x : Int32} {rest : List Value} {lo : List (Nat × Value)}
    (kk : rv_G p l e R s m args below meth c Q M.2.2.1 cells slots H locs (pc + 1) (.int (x.toUInt32 % 65536).toInt32 :: rest) lo) : rv_G p l e R s m args below meth c Q M.2.2.1 cells slots H locs pc (.int x :: rest) lo := by
  intro ls hl
  obtain ⟨hx, hb, -⟩ := hC
  exact lv_i2c hx hb hdg rfl (kk ls hl)
theorem rj_nret (hC : rm_Cx base tys D (rk_NU base ad adV) M mt ml fl p R s m args meth c A L) (hh : rm_h D A s L f H locs) {pc : Nat} (hdg : decode M.2.1 pc = .ok (.ireturn, 1)) {ty : FieldType} (hM : M.2.2.2.1 = some ty) {x : Int32} (hn : narrow ty (.int x) = .int x) {Pq : Option Value → (Nat → va_E) → Prop} (hq : Pq (some (.int x)) f) {lo : List (Nat × Value)} : rv_G p l e R s m args below meth c (MQ below (rk_Q Pq (rk_B D tys L A) A) args s cells slots A) M.2.2.1 cells slots H locs pc [.int x] lo := by
  intro ls hl
  obtain ⟨hx, hb, hml9, hr, hlk, hown, hts, hK, hNs, hNw, hNc, -, hfl, hBL, hB0, hA⟩ := hC
  obtain ⟨hP, hD, hS⟩ := hh
  exact W.zret (ty := ty) hx hb (by rw [hr, hM]) hn (fun t ht hW => ⟨⟨some (.int x), f, rfl, hq, ⟨by rw [ht]; exact hP, va_K.moved hW.alike hK, hD⟩⟩, hS.F ht⟩) hS.2.2 hdg hlk
/-- what a call of a method of the JDK rests on -/
def rj_lk (own : String) (idx : Nat) (N : rk_Mt) (R : Room) (n : Nat) : Prop := Jvm.Cond.code N.1 N.2.1 N.2.2.1 N.2.2.2.1 ∈ rk_tbl ∧ Jvm.Cond.initialized N.1.cls ∈ rk_tbl ∧ (N.1.cls ≠ "java/lang/invoke/MethodHandle" ∧ N.1.cls ≠ "java/lang/invoke/VarHandle" ∧ (parseMethodDescriptor N.1.desc).map (fun d => d.parameters.length) = some n) ∧ Jvm.Cond.methodLink own idx N.1 ∈ rk_tbl ∧ (N.2.2.2.2.1 + 1 ≤ R.frames ∧ 8 + (N.2.2.1 + 11) + N.2.2.2.2.2 ≤ R.locals)
abbrev rj_Met (base : Nat) (l : Launch) (K : Nat → rk_KD) (E : Nat → Nat → rk_AV) (tys : List (ClassId × FieldType)) (D : va_G) (ad adV : Nat → Nat) (N : rk_Mt) (av : List Value) (Qv : Option Value → Prop) : Prop := rm_Met base l K E tys D (rk_NU base ad adV) N av (fun _ _ _ _ => True) (fun _ _ _ f v u => Qv v ∧ u = f) 0
theorem rj_callS (hC : rm_Cx base tys D (rk_NU base ad adV) M mt ml fl p R s m args meth c A L) (hh : rm_h D A s L f H locs) {N : rk_Mt} {n pc idx : Nat} (hdg : decode M.2.1 pc = .ok (.invokestatic idx, 3)) (hlk : rj_lk M.1.cls idx N R n) (hst : Jvm.Cond.static N.1 ∈ rk_tbl) {as : List Value} {Qv : Option Value → Prop} (hM : rj_Met base l K E tys D ad adV N as Qv) (hX : 0 ≤ X) (hXC : X ≤ rk_top) (hT : rk_TY K E tys G X L f) (hn : as.length = n) {sk rest : List Value} (hsk : sk = as.reverse ++ rest) (hcat : rm_cat rest) (hcs : cells ≤ R.cells ∧ slots ≤ R.slots) {lo : List (Nat × Value)}
    (kk : ∀ (v : Option Value) (H1 : Heap) (locs1 : List Loc), Qv v → rm_h D A s L f H1 locs1 → rv_G p l e R s m args below meth c Q M.2.2.1 cells slots H1 locs1 (pc + 3) (v.toList ++ rest) lo) : rv_G p l e R s m args below meth c Q M.2.2.1 cells slots H locs pc sk lo := by
  intro ls hl
  obtain ⟨hx, hb, hml9, -, -, hown, hts, hK, hNs, hNw, hNc, hml, -, hBL, hB0, hA⟩ := hC
  obtain ⟨hP, hD, hS⟩ := hh
  have hM := hM G X L f H.size hX (by rw [Int.add_zero]; exact hXC) hT trivial hBL (Nat.le_trans hB0 hS.1)
  obtain ⟨k1, k2, k3, k4, k5⟩ := hlk
  have hF : ∀ q, va_A (va_pl L f) H.size q → A q := by
    intro q hq
    rcases hq with ⟨k, e9, hke⟩ | hq
    · exact hD.2 k (q, e9) hke
    · exact hA q (Nat.le_trans hS.1 hq)
  have htb : ∀ w ∈ rk_tbl, w ∈ rk_ws M := fun w hw => List.mem_cons_of_mem _ hw
  have hG := rk_good (M := N) htb k1
  have hbl : FrameBlind (va_Pc as (rk_Pre D tys (rk_NU base ad adV) L f H.size)) := fun a U g mk q => by
    obtain ⟨q0, q1, q2, q3, q4, q5⟩ := q
    exact ⟨q0, q1, q2, va_K.moved (u := U) (U := U.calling g mk a) (Vm.Alike.refl U.vm) q3, q4, hNc U _ rfl rfl q5⟩
  have hpre9 : ∀ U : State, U.heap = H → s.WarmedH U.vm → rk_Pre D tys (rk_NU base ad adV) L f H.size U := fun U hU hW => ⟨by rw [hU], by rw [hU]; exact hP, va_K.moved hW.alike hK, hD.weaken (fun _ _ _ _ => trivial), hNw U locs (by rw [hU]; exact hS) hW⟩
  have hPs : PreS s H (va_Pc as (rk_Pre D tys (rk_NU base ad adV) L f H.size)) as := ⟨hbl, fun U hU hW => ⟨rfl, hpre9 U hU hW⟩⟩
  have hsz : ls.size = M.2.2.1 := hl.1
  have hcs0 : cells + 0 ≤ R.cells ∧ slots + 0 ≤ R.slots := hcs
  refine rm_callW (va_runS (As := as) (rest := rest) ⟨hx, hb, hml9, hown, hts⟩ hM ⟨callB_of n hts hG rfl rfl rfl (hts _ (htb _ k2)) (hts _ (htb _ k4)) k3 k5, hts _ (htb _ hst)⟩ hPs rfl hn hsz hsk (lv_room hcat) hdg hcs0) hS (fun q _ h9 => hF q h9) hF ?_
  intro v u t H1 locs1 ht hvm hp hB hS1
  obtain ⟨hp1, rfl⟩ := hp
  obtain ⟨hP1, hK1, hD1⟩ := hB
  rw [ht] at hP1
  exact kk v H1 locs1 hp1 ⟨hP1, hD1.weaken (fun k q _ h9 => hF q.1 h9), hS1⟩ ls hl
theorem rj_callV (hC : rm_Cx base tys D (rk_NU base ad adV) M mt ml fl p R s m args meth c A L) (hh : rm_h D A s L f H locs) {N : rk_Mt} {n pc idx : Nat} (hdg : decode M.2.1 pc = .ok (.invokevirtual idx, 3)) (hlk : rj_lk M.1.cls idx N R n) (hin : Jvm.Cond.instanceMethod N.1 ∈ rk_tbl) (hse : Jvm.Cond.selects N.1.cls N.1 N.1 ∈ rk_tbl) {B : Nat → Prop} {b : Nat} (hO : va_O N.1.cls b B s H) {as : List Value} {Qv : Option Value → Prop} (hM : rj_Met base l K E tys D ad adV N (.ref b :: as) Qv) (hX : 0 ≤ X) (hXC : X ≤ rk_top) (hT : rk_TY K E tys G X L f) (hn : as.length = n) {sk rest : List Value} (hsk : sk = as.reverse ++ .ref b :: rest) (hcat : rm_cat rest) (hcs : cells ≤ R.cells ∧ slots ≤ R.slots) {lo : List (Nat × Value)}
    (kk : ∀ (v : Option Value) (H1 : Heap) (locs1 : List Loc), Qv v → rm_h D A s L f H1 locs1 → rv_G p l e R s m args below meth c Q M.2.2.1 cells slots H1 locs1 (pc + 3) (v.toList ++ rest) lo) : rv_G p l e R s m args below meth c Q M.2.2.1 cells slots H locs pc sk lo := by
  intro ls hl
  obtain ⟨hx, hb, hml9, -, -, hown, hts, hK, hNs, hNw, hNc, hml, -, hBL, hB0, hA⟩ := hC
  obtain ⟨hP, hD, hS⟩ := hh
  have hM := hM G X L f H.size hX (by rw [Int.add_zero]; exact hXC) hT trivial hBL (Nat.le_trans hB0 hS.1)
  obtain ⟨k1, k2, k3, k4, k5⟩ := hlk
  have hF : ∀ q, va_A (va_pl L f) H.size q → A q := by
    intro q hq
    rcases hq with ⟨k, e9, hke⟩ | hq
    · exact hD.2 k (q, e9) hke
    · exact hA q (Nat.le_trans hS.1 hq)
  have htb : ∀ w ∈ rk_tbl, w ∈ rk_ws M := fun w hw => List.mem_cons_of_mem _ hw
  have hG := rk_good (M := N) htb k1
  have hbl : FrameBlind (va_Pc (.ref b :: as) (rk_Pre D tys (rk_NU base ad adV) L f H.size)) := fun a U g mk q => by
    obtain ⟨q0, q1, q2, q3, q4, q5⟩ := q
    exact ⟨q0, q1, q2, va_K.moved (u := U) (U := U.calling g mk a) (Vm.Alike.refl U.vm) q3, q4, hNc U _ rfl rfl q5⟩
  have hpre9 : ∀ U : State, U.heap = H → s.WarmedH U.vm → rk_Pre D tys (rk_NU base ad adV) L f H.size U := fun U hU hW => ⟨by rw [hU], by rw [hU]; exact hP, va_K.moved hW.alike hK, hD.weaken (fun _ _ _ _ => trivial), hNw U locs (by rw [hU]; exact hS) hW⟩
  obtain ⟨cell, o1, o2, o3, -⟩ := hO
  have hPv : PreV s H N.1.cls b (va_Pc (.ref b :: as) (rk_Pre D tys (rk_NU base ad adV) L f H.size)) as := ⟨hbl, ⟨cell, o1, o2, o3⟩, fun U hU hW => ⟨rfl, hpre9 U hU hW⟩⟩
  have hsz : ls.size = M.2.2.1 := hl.1
  have hcs0 : cells + 0 ≤ R.cells ∧ slots + 0 ≤ R.slots := hcs
  refine rm_callW (va_runV (As := as) (rest := rest) (b := b) (C := N.1.cls) ⟨hx, hb, hml9, hown, hts⟩ hM ⟨callB_of n hts hG rfl rfl rfl (hts _ (htb _ k2)) (hts _ (htb _ k4)) k3 k5, hts _ (htb _ hin), hts _ (htb _ hse)⟩ hPv rfl hn hsz hsk (lv_room hcat) hdg hcs0) hS (fun q _ h9 => hF q h9) hF ?_
  intro v u t H1 locs1 ht hvm hp hB hS1
  obtain ⟨hp1, rfl⟩ := hp
  obtain ⟨hP1, hK1, hD1⟩ := hB
  rw [ht] at hP1
  exact kk v H1 locs1 hp1 ⟨hP1, hD1.weaken (fun k q _ h9 => hF q.1 h9), hS1⟩ ls hl
end RJX
def rk_q_J0_length : rk_Mt := (yJ0_length_8abf5, cJ0_length_8abf5, 1, (some .int), 1, 20)
def rv_t_J0_length : rv_T := (.branch 0 (.branch 0 (.branch 0 (.leaf (0, .aload_n 0, 1)) (.leaf (4, .arraylength, 1))) (.branch 0 (.leaf (10, .ireturn, 1)) (.leaf (6, .invokevirtual 335, 3)))) (.branch 0 (.branch 0 (.branch 0 (.leaf (1, .getfield 9, 3)) (.leaf (9, .ishr, 1))) (.leaf (5, .aload_n 0, 1))) (.leaf (99999, .nop, 1))))
theorem rv_k_J0_length : rv_tok cJ0_length_8abf5 rv_t_J0_length = true := by decide +kernel
def rk_q_J0_coder : rk_Mt := (yJ0_coder_7d493, cJ0_coder_7d493, 1, (some .byte), 0, 0)
def rv_t_J0_coder : rv_T := (.branch 0 (.branch 0 (.leaf (0, .getstatic 38, 3)) (.branch 0 (.leaf (10, .goto (4), 3)) (.branch 0 (.leaf (6, .aload_n 0, 1)) (.leaf (14, .ireturn, 1))))) (.branch 0 (.leaf (13, .iconst 1, 1)) (.branch 0 (.leaf (3, .ifCond .eq (10), 3)) (.leaf (7, .getfield 15, 3)))))
theorem rv_k_J0_coder : rv_tok cJ0_coder_7d493 rv_t_J0_coder = true := by decide +kernel
def rk_q_J0_charAt : rk_Mt := (yJ0_charAt_5068e, cJ0_charAt_5068e, 2, (some .char), 3, 64)
def rv_t_J0_charAt : rv_T := (.branch 0 (.branch 0 (.branch 0 (.branch 0 (.leaf (0, .aload_n 0, 1)) (.leaf (8, .getfield 9, 3))) (.branch 0 (.leaf (4, .ifCond .eq (12), 3)) (.leaf (12, .invokestatic 495, 3)))) (.leaf (99999, .nop, 1))) (.branch 0 (.leaf (1, .invokevirtual 492, 3)) (.branch 0 (.leaf (11, .iload_n 1, 1)) (.branch 0 (.leaf (7, .aload_n 0, 1)) (.leaf (15, .ireturn, 1))))))
theorem rv_k_J0_charAt : rv_tok cJ0_charAt_5068e rv_t_J0_charAt = true := by decide +kernel
def rk_q_J0_isLatin1 : rk_Mt := (yJ0_isLatin1_aae02, cJ0_isLatin1_aae02, 1, (some .boolean), 0, 0)
def rv_t_J0_isLatin1 : rv_T := (.branch 0 (.branch 0 (.leaf (0, .getstatic 38, 3)) (.branch 0 (.branch 0 (.leaf (18, .ireturn, 1)) (.leaf (10, .ifCond .ne (7), 3))) (.branch 0 (.leaf (6, .aload_n 0, 1)) (.leaf (14, .goto (4), 3))))) (.branch 0 (.branch 0 (.leaf (17, .iconst 0, 1)) (.leaf (13, .iconst 1, 1))) (.branch 0 (.leaf (3, .ifCond .eq (14), 3)) (.leaf (7, .getfield 15, 3)))))
theorem rv_k_J0_isLatin1 : rv_tok cJ0_isLatin1_aae02 rv_t_J0_isLatin1 = true := by decide +kernel
def rk_q_J0_checkIndex : rk_Mt := (yJ0_checkIndex_df160, cJ0_checkIndex_df160, 2, none, 1, 22)
def rv_t_J0_checkIndex : rv_T := (.branch 0 (.branch 0 (.branch 0 (.branch 0 (.leaf (0, .iload_n 0, 1)) (.leaf (8, .pop, 1))) (.leaf (99999, .nop, 1))) (.leaf (2, .getstatic 1053, 3))) (.branch 0 (.branch 0 (.branch 0 (.leaf (1, .iload_n 1, 1)) (.leaf (9, .return_, 1))) (.leaf (5, .invokestatic 1059, 3))) (.leaf (99999, .nop, 1))))
theorem rv_k_J0_checkIndex : rv_tok cJ0_checkIndex_df160 rv_t_J0_checkIndex = true := by decide +kernel
def rk_q_J1_charAt : rk_Mt := (yJ1_charAt_3b067, cJ1_charAt_3b067, 2, (some .char), 2, 43)
def rv_t_J1_charAt : rv_T := (.branch 0 (.branch 0 (.branch 0 (.branch 0 (.leaf (0, .iload_n 1, 1)) (.leaf (8, .baload, 1))) (.leaf (12, .iand, 1))) (.branch 0 (.leaf (2, .arraylength, 1)) (.branch 0 (.leaf (6, .aload_n 0, 1)) (.leaf (14, .ireturn, 1))))) (.branch 0 (.branch 0 (.branch 0 (.leaf (1, .aload_n 0, 1)) (.leaf (9, .sipush (255), 3))) (.leaf (13, .i2c, 1))) (.branch 0 (.leaf (3, .invokestatic 9, 3)) (.leaf (7, .iload_n 1, 1)))))
theorem rv_k_J1_charAt : rv_tok cJ1_charAt_3b067 rv_t_J1_charAt = true := by decide +kernel
def rk_q_J3_checkIndex : rk_Mt := (yJ3_checkIndex_8e157, cJ3_checkIndex_8e157, 3, (some .int), 0, 0)
def rv_t_J3_checkIndex : rv_T := (.branch 0 (.branch 0 (.branch 0 (.branch 0 (.branch 0 (.leaf (0, .iload_n 0, 1)) (.leaf (16, .iload_n 0, 1))) (.leaf (99999, .nop, 1))) (.leaf (4, .iload_n 0, 1))) (.leaf (6, .if_icmp .lt (10), 3))) (.branch 0 (.branch 0 (.branch 0 (.branch 0 (.leaf (1, .ifCond .lt (8), 3)) (.leaf (17, .ireturn, 1))) (.leaf (99999, .nop, 1))) (.leaf (5, .iload_n 1, 1))) (.leaf (99999, .nop, 1))))
theorem rv_k_J3_checkIndex : rv_tok cJ3_checkIndex_8e157 rv_t_J3_checkIndex = true := by decide +kernel
theorem rj_lk_J0_335 : rj_lk RJ0 335 rk_q_J0_coder { frames := 1, cells := 0, slots := 0, locals := 20 } 0 := ⟨rk_tat_ok (i := 861) (by decide +kernel), rk_tat_ok (i := 134) (by decide +kernel), ⟨by decide, by decide, by decide +kernel⟩, rk_tat_ok (i := 858) (by decide +kernel), by decide⟩
theorem rj_lk_J0_492 : rj_lk RJ0 492 rk_q_J0_isLatin1 { frames := 3, cells := 0, slots := 0, locals := 64 } 0 := ⟨rk_tat_ok (i := 871) (by decide +kernel), rk_tat_ok (i := 134) (by decide +kernel), ⟨by decide, by decide, by decide +kernel⟩, rk_tat_ok (i := 868) (by decide +kernel), by decide⟩
theorem rj_lk_J0_495 : rj_lk RJ0 495 rk_q_J1_charAt { frames := 3, cells := 0, slots := 0, locals := 64 } 2 := ⟨rk_tat_ok (i := 874) (by decide +kernel), rk_tat_ok (i := 135) (by decide +kernel), ⟨by decide, by decide, by decide +kernel⟩, rk_tat_ok (i := 872) (by decide +kernel), by decide⟩
theorem rj_lk_J1_9 : rj_lk RJ1 9 rk_q_J0_checkIndex { frames := 2, cells := 0, slots := 0, locals := 43 } 2 := ⟨rk_tat_ok (i := 877) (by decide +kernel), rk_tat_ok (i := 134) (by decide +kernel), ⟨by decide, by decide, by decide +kernel⟩, rk_tat_ok (i := 875) (by decide +kernel), by decide⟩
theorem rj_lk_J0_1059 : rj_lk RJ0 1059 rk_q_J3_checkIndex { frames := 1, cells := 0, slots := 0, locals := 22 } 3 := ⟨rk_tat_ok (i := 882) (by decide +kernel), rk_tat_ok (i := 136) (by decide +kernel), ⟨by decide, by decide, by decide +kernel⟩, rk_tat_ok (i := 880) (by decide +kernel), by decide⟩
theorem rj_lk_X9_123 : rj_lk RX9 123 rk_q_J0_length { frames := 6, cells := 0, slots := 0, locals := 300 } 0 := ⟨rk_tat_ok (i := 857) (by decide +kernel), rk_tat_ok (i := 134) (by decide +kernel), ⟨by decide, by decide, by decide +kernel⟩, rk_tat_ok (i := 854) (by decide +kernel), by decide⟩
theorem rj_lk_X9_127 : rj_lk RX9 127 rk_q_J0_charAt { frames := 6, cells := 0, slots := 0, locals := 300 } 1 := ⟨rk_tat_ok (i := 867) (by decide +kernel), rk_tat_ok (i := 134) (by decide +kernel), ⟨by decide, by decide, by decide +kernel⟩, rk_tat_ok (i := 864) (by decide +kernel), by decide⟩
theorem rj_lk_X12_255 : rj_lk RX12 255 rk_q_J0_length { frames := 6, cells := 0, slots := 0, locals := 300 } 0 := ⟨rk_tat_ok (i := 857) (by decide +kernel), rk_tat_ok (i := 134) (by decide +kernel), ⟨by decide, by decide, by decide +kernel⟩, rk_tat_ok (i := 1526) (by decide +kernel), by decide⟩
theorem rj_lk_X12_260 : rj_lk RX12 260 rk_q_J0_charAt { frames := 6, cells := 0, slots := 0, locals := 300 } 1 := ⟨rk_tat_ok (i := 867) (by decide +kernel), rk_tat_ok (i := 134) (by decide +kernel), ⟨by decide, by decide, by decide +kernel⟩, rk_tat_ok (i := 1527) (by decide +kernel), by decide⟩
section RJY
variable (base : Nat) (l : Launch) (K : Nat → rk_KD) (E : Nat → Nat → rk_AV) (tys : List (ClassId × FieldType)) (D : va_G) (ad adV : Nat → Nat)
theorem j_ckP (a b : Int32) (r : Nat) (h0 : 0 ≤ a.toInt) (h1 : a.toInt < b.toInt) : rj_Met base l K E tys D ad adV rk_q_J3_checkIndex [.int a, .int b, .ref r] (fun v => v = some (.int a)) := by
  refine rm_start (M := rk_q_J3_checkIndex) (rk_hNw base ad adV) (rk_hNc base ad adV) (by decide +kernel) (mt := rk_mt []) (ml := rk_mlf []) (fl := rk_flf []) (fun s args h hN => rk_MlOk_of (fun _ h => absurd h List.not_mem_nil) (by decide +kernel)) (fun s args h hN => rk_FlOk_of (fun _ h => absurd h List.not_mem_nil)) (rm_cat1 rfl) (Nat.le_of_ble_eq_true rfl) ?_
  intro p e st m below meth c G X L f0 A hC hh hX0 hXC hT hpre
  rw [Int.add_zero] at hXC
  have hcs : 0 ≤ 0 ∧ 0 ≤ 0 := ⟨Nat.le_refl 0, Nat.le_refl 0⟩
  obtain ⟨hS, hZ, hF⟩ := rj_NU hC hh
  refine rv_run hC.1 hC.2.1 (T := rv_t_J3_checkIndex) rv_k_J3_checkIndex (2) ?_
  refine ⟨fun h => absurd h (by show ¬ a.toInt < 0; omega), fun _ => ?_⟩
  refine rv_run hC.1 hC.2.1 (T := rv_t_J3_checkIndex) rv_k_J3_checkIndex (3) ?_
  refine ⟨fun _ => ?_, fun h => absurd h (by show ¬ b.toInt ≤ a.toInt; omega)⟩
  refine rv_run hC.1 hC.2.1 (T := rv_t_J3_checkIndex) rv_k_J3_checkIndex (1) ?_
  exact rm_iret hC hh (by decide +kernel) rfl ⟨rfl, rfl⟩
theorem j_ckN (a b : Int32) (h0 : 0 ≤ a.toInt) (h1 : a.toInt < b.toInt) : rj_Met base l K E tys D ad adV rk_q_J3_checkIndex [.int a, .int b, .null] (fun v => v = some (.int a)) := by
  refine rm_start (M := rk_q_J3_checkIndex) (rk_hNw base ad adV) (rk_hNc base ad adV) (by decide +kernel) (mt := rk_mt []) (ml := rk_mlf []) (fl := rk_flf []) (fun s args h hN => rk_MlOk_of (fun _ h => absurd h List.not_mem_nil) (by decide +kernel)) (fun s args h hN => rk_FlOk_of (fun _ h => absurd h List.not_mem_nil)) (rm_cat1 rfl) (Nat.le_of_ble_eq_true rfl) ?_
  intro p e st m below meth c G X L f0 A hC hh hX0 hXC hT hpre
  rw [Int.add_zero] at hXC
  have hcs : 0 ≤ 0 ∧ 0 ≤ 0 := ⟨Nat.le_refl 0, Nat.le_refl 0⟩
  obtain ⟨hS, hZ, hF⟩ := rj_NU hC hh
  refine rv_run hC.1 hC.2.1 (T := rv_t_J3_checkIndex) rv_k_J3_checkIndex (2) ?_
  refine ⟨fun h => absurd h (by show ¬ a.toInt < 0; omega), fun _ => ?_⟩
  refine rv_run hC.1 hC.2.1 (T := rv_t_J3_checkIndex) rv_k_J3_checkIndex (3) ?_
  refine ⟨fun _ => ?_, fun h => absurd h (by show ¬ b.toInt ≤ a.toInt; omega)⟩
  refine rv_run hC.1 hC.2.1 (T := rv_t_J3_checkIndex) rv_k_J3_checkIndex (1) ?_
  exact rm_iret hC hh (by decide +kernel) rfl ⟨rfl, rfl⟩
theorem j_ck (a b : Int32) (h0 : 0 ≤ a.toInt) (h1 : a.toInt < b.toInt) : rj_Met base l K E tys D ad adV rk_q_J0_checkIndex [.int a, .int b] (fun v => v = none) := by
  refine rm_start (M := rk_q_J0_checkIndex) (rk_hNw base ad adV) (rk_hNc base ad adV) (by decide +kernel) (mt := rk_mt []) (ml := rk_mlf []) (fl := rk_flf []) (fun s args h hN => rk_MlOk_of (fun _ h => absurd h List.not_mem_nil) (by decide +kernel)) (fun s args h hN => rk_FlOk_of (fun _ h => absurd h List.not_mem_nil)) (rm_cat1 rfl) (Nat.le_of_ble_eq_true rfl) ?_
  intro p e st m below meth c G X L f0 A hC hh hX0 hXC hT hpre
  rw [Int.add_zero] at hXC
  have hcs : 0 ≤ 0 ∧ 0 ≤ 0 := ⟨Nat.le_refl 0, Nat.le_refl 0⟩
  obtain ⟨hS, hZ, hF⟩ := rj_NU hC hh
  refine rv_run hC.1 hC.2.1 (T := rv_t_J0_checkIndex) rv_k_J0_checkIndex (2) ?_
  rcases hF with hF | ⟨tf, hF⟩
  · refine rj_gets (idx := 1053) hC (by decide +kernel) hF (rk_tat_ok (i := 878) (by decide +kernel)) ?_
    refine rj_callS hC hh (by decide +kernel) rj_lk_J0_1059 (rk_tat_ok (i := 881) (by decide +kernel)) (j_ckN base l K E tys D ad adV a b h0 h1) hX0 hXC hT rfl rfl (Nat.le_of_ble_eq_true rfl) hcs (fun v H locs hv hh => ?_)
    subst hv
    refine rv_run hC.1 hC.2.1 (T := rv_t_J0_checkIndex) rv_k_J0_checkIndex (1) ?_
    exact rm_vret hC hh (by decide +kernel) rfl ⟨rfl, rfl⟩
  · refine rj_gets (idx := 1053) hC (by decide +kernel) hF (rk_tat_ok (i := 878) (by decide +kernel)) ?_
    refine rj_callS hC hh (by decide +kernel) rj_lk_J0_1059 (rk_tat_ok (i := 881) (by decide +kernel)) (j_ckP base l K E tys D ad adV a b tf h0 h1) hX0 hXC hT rfl rfl (Nat.le_of_ble_eq_true rfl) hcs (fun v H locs hv hh => ?_)
    subst hv
    refine rv_run hC.1 hC.2.1 (T := rv_t_J0_checkIndex) rv_k_J0_checkIndex (1) ?_
    exact rm_vret hC hh (by decide +kernel) rfl ⟨rfl, rfl⟩
theorem rj_nar : ∀ i, i < 5 → ∀ k, k < rk_len.getD i 0 → narrow .char (.int ((((rk_byt.getD i []).getD k 0) &&& ((Int16.ofInt 255).toInt32)).toUInt32 % 65536).toInt32) = .int ((((rk_byt.getD i []).getD k 0) &&& ((Int16.ofInt 255).toInt32)).toUInt32 % 65536).toInt32 := by decide +kernel
theorem j_ch1 (i : Nat) (hi : i < 5) (k : Int32) (kn : Nat) (hk : k.toInt = (kn : Int)) (hkn : kn < rk_len.getD i 0) (hlen : (Int32.ofNat (rk_len.getD i 0)).toInt = (rk_len.getD i 0 : Int)) : rj_Met base l K E tys D ad adV rk_q_J1_charAt [.ref (adV i), .int k] (fun v => ∃ x : Int32, v = some (.int x) ∧ narrow .char (.int x) = .int x) := by
  refine rm_start (M := rk_q_J1_charAt) (rk_hNw base ad adV) (rk_hNc base ad adV) (by decide +kernel) (mt := rk_mt []) (ml := rk_mlf []) (fl := rk_flf []) (fun s args h hN => rk_MlOk_of (fun _ h => absurd h List.not_mem_nil) (by decide +kernel)) (fun s args h hN => rk_FlOk_of (fun _ h => absurd h List.not_mem_nil)) (rm_cat1 rfl) (Nat.le_of_ble_eq_true rfl) ?_
  intro p e st m below meth c G X L f0 A hC hh hX0 hXC hT hpre
  rw [Int.add_zero] at hXC
  have hcs : 0 ≤ 0 ∧ 0 ≤ 0 := ⟨Nat.le_refl 0, Nat.le_refl 0⟩
  obtain ⟨hS, hZ, hF⟩ := rj_NU hC hh
  refine rv_run hC.1 hC.2.1 (T := rv_t_J1_charAt) rv_k_J1_charAt (2) ?_
  refine rj_alen hC (by decide +kernel) (hS.1 i hi).2.2.2 ?_
  refine rj_callS hC hh (by decide +kernel) rj_lk_J1_9 (rk_tat_ok (i := 876) (by decide +kernel)) (j_ck base l K E tys D ad adV k (Int32.ofNat (rk_len.getD i 0)) (by omega) (by omega)) hX0 hXC hT rfl rfl (Nat.le_of_ble_eq_true rfl) hcs (fun v H locs hv hh => ?_)
  subst hv
  obtain ⟨hS, hZ, hF⟩ := rj_NU hC hh
  refine rv_run hC.1 hC.2.1 (T := rv_t_J1_charAt) rv_k_J1_charAt (2) ?_
  refine rj_bald hC (by decide +kernel) (hS.1 i hi).2.2.2 (vp_in_iff.mpr ⟨by omega, by omega⟩) ?_
  refine rv_run hC.1 hC.2.1 (T := rv_t_J1_charAt) rv_k_J1_charAt (2) ?_
  refine rj_i2c hC (by decide +kernel) ?_
  rw [rm_clamp hk]
  exact rj_nret hC hh (by decide +kernel) rfl (rj_nar i hi kn hkn) ⟨⟨_, rfl, rj_nar i hi kn hkn⟩, rfl⟩
theorem j_lat (i : Nat) (hi : i < 5) : rj_Met base l K E tys D ad adV rk_q_J0_isLatin1 [.ref (ad i)] (fun v => v = some (.int 1)) := by
  refine rm_start (M := rk_q_J0_isLatin1) (rk_hNw base ad adV) (rk_hNc base ad adV) (by decide +kernel) (mt := rk_mt []) (ml := rk_mlf []) (fl := rk_flf []) (fun s args h hN => rk_MlOk_of (fun _ h => absurd h List.not_mem_nil) (by decide +kernel)) (fun s args h hN => rk_FlOk_of (fun _ h => absurd h List.not_mem_nil)) (rm_cat1 rfl) (Nat.le_of_ble_eq_true rfl) ?_
  intro p e st m below meth c G X L f0 A hC hh hX0 hXC hT hpre
  rw [Int.add_zero] at hXC
  have hcs : 0 ≤ 0 ∧ 0 ≤ 0 := ⟨Nat.le_refl 0, Nat.le_refl 0⟩
  obtain ⟨hS, hZ, hF⟩ := rj_NU hC hh
  refine rj_gets (idx := 38) hC (by decide +kernel) hZ (rk_tat_ok (i := 862) (by decide +kernel)) ?_
  refine rv_run hC.1 hC.2.1 (T := rv_t_J0_isLatin1) rv_k_J0_isLatin1 (1) ?_
  refine ⟨fun h => absurd (show (1 : Int32).toInt = 0 from h) (by decide), fun _ => ?_⟩
  refine rv_run hC.1 hC.2.1 (T := rv_t_J0_isLatin1) rv_k_J0_isLatin1 (1) ?_
  refine rj_getf (idx := 15) hC (by decide +kernel) (hS.1 i hi).2.1 (rk_tat_ok (i := 1681) (by decide +kernel)) ?_
  refine rv_run hC.1 hC.2.1 (T := rv_t_J0_isLatin1) rv_k_J0_isLatin1 (1) ?_
  refine ⟨fun h => absurd rfl h, fun _ => ?_⟩
  refine rv_run hC.1 hC.2.1 (T := rv_t_J0_isLatin1) rv_k_J0_isLatin1 (2) ?_
  exact rm_zret hC hh (by decide +kernel) rfl (Or.inr rfl) ⟨rfl, rfl⟩
theorem j_cod (i : Nat) (hi : i < 5) : rj_Met base l K E tys D ad adV rk_q_J0_coder [.ref (ad i)] (fun v => v = some (.int 0)) := by
  refine rm_start (M := rk_q_J0_coder) (rk_hNw base ad adV) (rk_hNc base ad adV) (by decide +kernel) (mt := rk_mt []) (ml := rk_mlf []) (fl := rk_flf []) (fun s args h hN => rk_MlOk_of (fun _ h => absurd h List.not_mem_nil) (by decide +kernel)) (fun s args h hN => rk_FlOk_of (fun _ h => absurd h List.not_mem_nil)) (rm_cat1 rfl) (Nat.le_of_ble_eq_true rfl) ?_
  intro p e st m below meth c G X L f0 A hC hh hX0 hXC hT hpre
  rw [Int.add_zero] at hXC
  have hcs : 0 ≤ 0 ∧ 0 ≤ 0 := ⟨Nat.le_refl 0, Nat.le_refl 0⟩
  obtain ⟨hS, hZ, hF⟩ := rj_NU hC hh
  refine rj_gets (idx := 38) hC (by decide +kernel) hZ (rk_tat_ok (i := 862) (by decide +kernel)) ?_
  refine rv_run hC.1 hC.2.1 (T := rv_t_J0_coder) rv_k_J0_coder (1) ?_
  refine ⟨fun h => absurd (show (1 : Int32).toInt = 0 from h) (by decide), fun _ => ?_⟩
  refine rv_run hC.1 hC.2.1 (T := rv_t_J0_coder) rv_k_J0_coder (1) ?_
  refine rj_getf (idx := 15) hC (by decide +kernel) (hS.1 i hi).2.1 (rk_tat_ok (i := 1681) (by decide +kernel)) ?_
  refine rv_run hC.1 hC.2.1 (T := rv_t_J0_coder) rv_k_J0_coder (1) ?_
  exact rj_nret hC hh (by decide +kernel) rfl rfl ⟨rfl, rfl⟩
theorem rj_lens : ∀ i, i < 5 → (Int32.ofNat (rk_len.getD i 0) >>> (0 : Int32)) = Int32.ofNat (rk_len.getD i 0) ∧ (Int32.ofNat (rk_len.getD i 0)).toInt = (rk_len.getD i 0 : Int) ∧ 0 < rk_len.getD i 0 ∧ rk_len.getD i 0 < 6 := by decide +kernel
theorem j_len (i : Nat) (hi : i < 5) : rj_Met base l K E tys D ad adV rk_q_J0_length [.ref (ad i)] (fun v => v = some (.int (Int32.ofNat (rk_len.getD i 0)))) := by
  refine rm_start (M := rk_q_J0_length) (rk_hNw base ad adV) (rk_hNc base ad adV) (by decide +kernel) (mt := rk_mt []) (ml := rk_mlf []) (fl := rk_flf []) (fun s args h hN => rk_MlOk_of (fun _ h => absurd h List.not_mem_nil) (by decide +kernel)) (fun s args h hN => rk_FlOk_of (fun _ h => absurd h List.not_mem_nil)) (rm_cat1 rfl) (Nat.le_of_ble_eq_true rfl) ?_
  intro p e st m below meth c G X L f0 A hC hh hX0 hXC hT hpre
  rw [Int.add_zero] at hXC
  have hcs : 0 ≤ 0 ∧ 0 ≤ 0 := ⟨Nat.le_refl 0, Nat.le_refl 0⟩
  obtain ⟨hS, hZ, hF⟩ := rj_NU hC hh
  refine rv_run hC.1 hC.2.1 (T := rv_t_J0_length) rv_k_J0_length (1) ?_
  refine rj_getf (idx := 9) hC (by decide +kernel) (hS.1 i hi).2.2.1 (rk_tat_ok (i := 1680) (by decide +kernel)) ?_
  refine rj_alen hC (by decide +kernel) (hS.1 i hi).2.2.2 ?_
  refine rv_run hC.1 hC.2.1 (T := rv_t_J0_length) rv_k_J0_length (1) ?_
  refine rj_callV hC hh (by decide +kernel) rj_lk_J0_335 (rk_tat_ok (i := 859) (by decide +kernel)) (rk_tat_ok (i := 860) (by decide +kernel)) (hS.1 i hi).1 (j_cod base l K E tys D ad adV i hi) hX0 hXC hT rfl rfl (Nat.le_of_ble_eq_true rfl) hcs (fun v H locs hv hh => ?_)
  subst hv
  refine rv_run hC.1 hC.2.1 (T := rv_t_J0_length) rv_k_J0_length (1) ?_
  refine rm_iret hC hh (by decide +kernel) rfl ⟨?_, rfl⟩
  exact congrArg (fun x => some (Value.int x)) (rj_lens i hi).1
theorem j_chr (i : Nat) (hi : i < 5) (k : Int32) (kn : Nat) (hk : k.toInt = (kn : Int)) (hkn : kn < rk_len.getD i 0) : rj_Met base l K E tys D ad adV rk_q_J0_charAt [.ref (ad i), .int k] (fun v => ∃ x : Int32, v = some (.int x)) := by
  refine rm_start (M := rk_q_J0_charAt) (rk_hNw base ad adV) (rk_hNc base ad adV) (by decide +kernel) (mt := rk_mt []) (ml := rk_mlf []) (fl := rk_flf []) (fun s args h hN => rk_MlOk_of (fun _ h => absurd h List.not_mem_nil) (by decide +kernel)) (fun s args h hN => rk_FlOk_of (fun _ h => absurd h List.not_mem_nil)) (rm_cat1 rfl) (Nat.le_of_ble_eq_true rfl) ?_
  intro p e st m below meth c G X L f0 A hC hh hX0 hXC hT hpre
  rw [Int.add_zero] at hXC
  have hcs : 0 ≤ 0 ∧ 0 ≤ 0 := ⟨Nat.le_refl 0, Nat.le_refl 0⟩
  obtain ⟨hS, hZ, hF⟩ := rj_NU hC hh
  refine rv_run hC.1 hC.2.1 (T := rv_t_J0_charAt) rv_k_J0_charAt (1) ?_
  refine rj_callV hC hh (by decide +kernel) rj_lk_J0_492 (rk_tat_ok (i := 869) (by decide +kernel)) (rk_tat_ok (i := 870) (by decide +kernel)) (hS.1 i hi).1 (j_lat base l K E tys D ad adV i hi) hX0 hXC hT rfl rfl (Nat.le_of_ble_eq_true rfl) hcs (fun v H locs hv hh => ?_)
  subst hv
  obtain ⟨hS, hZ, hF⟩ := rj_NU hC hh
  refine rv_run hC.1 hC.2.1 (T := rv_t_J0_charAt) rv_k_J0_charAt (1) ?_
  refine ⟨fun h => absurd (show (1 : Int32).toInt = 0 from h) (by decide), fun _ => ?_⟩
  refine rv_run hC.1 hC.2.1 (T := rv_t_J0_charAt) rv_k_J0_charAt (1) ?_
  refine rj_getf (idx := 9) hC (by decide +kernel) (hS.1 i hi).2.2.1 (rk_tat_ok (i := 1680) (by decide +kernel)) ?_
  refine rv_run hC.1 hC.2.1 (T := rv_t_J0_charAt) rv_k_J0_charAt (1) ?_
  refine rj_callS hC hh (by decide +kernel) rj_lk_J0_495 (rk_tat_ok (i := 873) (by decide +kernel)) (j_ch1 base l K E tys D ad adV i hi k kn hk hkn (rj_lens i hi).2.1) hX0 hXC hT rfl rfl (Nat.le_of_ble_eq_true rfl) hcs (fun v H locs hv hh => ?_)
  obtain ⟨x, rfl, hx⟩ := hv
  exact rj_nret hC hh (by decide +kernel) rfl hx ⟨⟨x, rfl⟩, rfl⟩
end RJY
theorem rj_i_J0_length : Jvm.Cond.instanceMethod rk_q_J0_length.1 ∈ rk_tbl := (rk_tat_ok (i := 855) (by decide +kernel))
theorem rj_s_J0_length : Jvm.Cond.selects rk_q_J0_length.1.cls rk_q_J0_length.1 rk_q_J0_length.1 ∈ rk_tbl := (rk_tat_ok (i := 856) (by decide +kernel))
theorem rj_i_J0_charAt : Jvm.Cond.instanceMethod rk_q_J0_charAt.1 ∈ rk_tbl := (rk_tat_ok (i := 865) (by decide +kernel))
theorem rj_s_J0_charAt : Jvm.Cond.selects rk_q_J0_charAt.1.cls rk_q_J0_charAt.1 rk_q_J0_charAt.1 ∈ rk_tbl := (rk_tat_ok (i := 866) (by decide +kernel))
