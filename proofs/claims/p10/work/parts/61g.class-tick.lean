theorem rm_ldc {base : Nat} {l : Launch} {tys : List (ClassId × FieldType)} {D : va_G} {NU : State → Prop} {M : rk_Mt} {mt : Nat → rk_Mt} {ml : rk_Ml} {fl : rk_Fl} {A : Nat → Prop} {L : List Nat} {p : Program} {e : Env} {R : Room} {s : State} {m : MethodId} {args : Array Value} {below : List Frame} {meth : Method} {c : Code} {Q : State → Prop} {cells slots : Nat} {H : Heap} {locs : List Loc} (hC : rm_Cx base tys D NU M mt ml fl p R s m args meth c A L) {pc i : Nat} {v : Int32} (hdg : decode M.2.1 pc = .ok (.ldc i, 2)) (hk : Jvm.Cond.constant M.1.cls i v ∈ rk_tbl) {rest : List Value} {lo : List (Nat × Value)} (kk : rv_G p l e R s m args below meth c Q M.2.2.1 cells slots H locs (pc + 2) (.int v :: rest) lo) : rv_G p l e R s m args below meth c Q M.2.2.1 cells slots H locs pc rest lo := by
  intro ls hl
  obtain ⟨hx, hb, -, -, -, hown, hts, -⟩ := hC
  exact lv_ldc hx hb hown (hts _ (List.mem_cons_of_mem _ hk)) hdg (kk ls hl)
section RCW
variable {base : Nat} {l : Launch} {cI c1 c2 c3 c4 c5 : ClassId} {D : va_G} {ad adV : Nat → Nat} {G : Nat → Option Nat} {L : List Nat} {X : Int} {f u : Nat → va_E}
/-- the tick of a World -/
theorem rc_wtick (hT : rm_TY cI c1 c2 c3 c4 c5 ad G X L f) {a : Nat} (hG : G a = some 10) : a ∈ L ∧ ∃ (fs : List Value) (z : Int32), f a = .inr (9, fs) ∧ fs.length = 10 ∧ fs[6]? = some (.int z) ∧ rk_fld (f a) 6 = some (.int z) ∧ rm_fi f a 6 = z.toInt := by
  obtain ⟨hL0, fs, e1, e2, e3⟩ := rc_me hT hG rfl
  have e2 : fs.length = 10 := e2
  have hv : fs[6]? = some fs[6] := List.getElem?_eq_getElem (by omega)
  obtain ⟨z, ez, -, -⟩ := (e3 6 (0, -2147483648, 2147483647) _ rfl hv : rk_has G X (0, -2147483648, 2147483647) _)
  rw [ez] at hv
  have h9 : rk_fld (f a) 6 = some (.int z) := by
    rw [e1]
    exact hv
  exact ⟨hL0, fs, z, e1, e2, hv, h9, rm_fi_of h9⟩
/-- and a new one -/
theorem rc_wset (hT : rm_TY cI c1 c2 c3 c4 c5 ad G X L f) {a : Nat} (hG : G a = some 10) {fs : List Value} (e1 : f a = .inr (9, fs)) (e2 : fs.length = 10) (y : Int32) : rm_TY cI c1 c2 c3 c4 c5 ad G X L (va_up f a (.inr (9, fs.set 6 (.int y)))) ∧ rc_Lv G 9 f (va_up f a (.inr (9, fs.set 6 (.int y)))) ∧ rk_fld (va_up f a (.inr (9, fs.set 6 (.int y))) a) 6 = some (.int y) ∧ ∀ w, w ≠ a → va_up f a (.inr (9, fs.set 6 (.int y))) w = f w := by
  refine ⟨?_, (rc_LvOk G).2.2.2 9 f f a 10 _ 6 6 rfl hG (Or.inl ⟨9, fs, 6, _, e1, rfl, Int.le_refl _, Int.le_refl _⟩) (rc_lv_rf 9), ?_, fun w hw => va_up_ne _ _ hw⟩
  · obtain ⟨-, fs9, e19, -, e3⟩ := rc_me hT hG rfl
    rw [e1] at e19
    cases e19
    refine rk_TY_up hT hG ⟨_, rfl, by rw [List.length_set]; exact e2, fun j t' v' hj hv' => ?_⟩
    by_cases hji : j = 6
    · subst hji
      rw [List.getElem?_set_self (by rw [e2]; decide)] at hv'
      cases hv'
      cases hj
      exact rk_full_ok y
    · rw [List.getElem?_set_ne (Ne.symm hji)] at hv'
      exact e3 j t' v' hj hv'
  · rw [va_up_self]
    exact List.getElem?_set_self (by omega)
theorem rc_tk {lv : Nat} (hL : rc_Lv G lv f u) (b3 : Nat.testBit lv 3 = false) {w : Nat} (hw : G w = some 10) : rk_fld (u w) 6 = rk_fld (f w) 6 := ((hL 3 (by decide) b3 : rc_Rb 3 G f u) w hw).symm
/-- the SpaceLinks itself stays -/
theorem rc_same {lv : Nat} (hL : rc_Lv G lv f u) (b4 : Nat.testBit lv 4 = false) (b5 : Nat.testBit lv 5 = false) (b6 : Nat.testBit lv 6 = false) (hT : rm_TY cI c1 c2 c3 c4 c5 ad G X L u) {a0 : Nat} (hG : G a0 = some 11) {fs : List Value} (e1 : f a0 = .inr (10, fs)) (e2 : fs.length = 4) : u a0 = .inr (10, fs) := by
  obtain ⟨-, fs', k1, k2, -⟩ := rc_me hT hG rfl
  have k2 : fs'.length = 4 := k2
  have h2 := (hL 4 (by decide) b4 : rc_Rb 4 G f u) a0 hG
  have h5 : rc_FZ G f u := hL 5 (by decide) b5
  have h0 := h5.1.1 a0 hG
  have h1 := h5.1.2 a0 hG
  have h3 := (hL 6 (by decide) b6 : rc_Rb 6 G f u) a0 hG
  rw [e1, k1] at h0 h1 h2 h3
  have h0 : fs[0]? = fs'[0]? := h0
  have h1 : fs[1]? = fs'[1]? := h1
  have h2 : fs[2]? = fs'[2]? := h2
  have h3 : fs[3]? = fs'[3]? := h3
  have : fs' = fs := by
    refine List.ext_getElem? (fun i => ?_)
    rcases i with _ | _ | _ | _ | i
    · exact h0.symm
    · exact h1.symm
    · exact h2.symm
    · exact h3.symm
    · rw [List.getElem?_eq_none (by omega), List.getElem?_eq_none (by omega)]
  rw [k1, this]
/-- the World of lasts is typed -/
theorem rc_th (hT : rm_TY cI c1 c2 c3 c4 c5 ad G X L f) {a0 : Nat} (hG : G a0 = some 11) (q : Nat) (h : rk_fld (f a0) 3 = some (.ref q)) : ¬ G q = none := by
  obtain ⟨-, fs, e1, e2, e3⟩ := rc_me hT hG rfl
  rw [e1] at h
  have h : fs[3]? = some (.ref q) := h
  rcases (e3 3 (3, 10, 0) _ rfl h : Value.ref q = .null ∨ ∃ q' : Nat, Value.ref q = .ref q' ∧ G q' = some 10) with h9 | ⟨q', h9, h8⟩
  · cases h9
  · cases h9
    rw [h8]
    intro h7
    cases h7
end RCW
def rv_t_X10_step : rv_T := (.branch 0 (.branch 0 (.branch 0 (.branch 0 (.branch 0 (.branch 0 (.branch 0 (.leaf (0, .aload_n 0, 1)) (.leaf (64, .istore_n 2, 1))) (.branch 0 (.leaf (32, .bipush (40), 2)) (.leaf (96, .aload_n 0, 1)))) (.branch 0 (.leaf (144, .istore_n 1, 1)) (.branch 0 (.leaf (48, .iconst 0, 1)) (.leaf (112, .iinc 3 (1), 3))))) (.branch 0 (.leaf (99999, .nop, 1)) (.branch 0 (.branch 0 (.leaf (152, .iload_n 1, 1)) (.leaf (88, .iload_n 3, 1))) (.leaf (56, .getfield 25, 3))))) (.branch 0 (.branch 0 (.branch 0 (.branch 0 (.leaf (132, .aload_n 0, 1)) (.leaf (68, .bipush (7), 2))) (.leaf (100, .iload_n 1, 1))) (.branch 0 (.branch 0 (.branch 0 (.leaf (20, .invokevirtual 169, 3)) (.leaf (148, .if_icmp .ge (14), 3))) (.leaf (84, .goto (9), 3))) (.leaf (52, .if_icmp .ge (72), 3)))) (.branch 0 (.branch 0 (.branch 0 (.branch 0 (.leaf (12, .iload_n 1, 1)) (.leaf (140, .goto (-14), 3))) (.leaf (76, .bipush (7), 2))) (.leaf (108, .iadd, 1))) (.branch 0 (.branch 0 (.leaf (156, .iinc 1 (1), 3)) (.leaf (92, .isub, 1))) (.branch 0 (.leaf (60, .aaload, 1)) (.leaf (124, .iconst 0, 1))))))) (.branch 0 (.branch 0 (.branch 0 (.branch 0 (.branch 0 (.leaf (2, .getfield 76, 3)) (.leaf (66, .istore_n 3, 1))) (.branch 0 (.branch 0 (.leaf (34, .if_icmp .ge (14), 3)) (.leaf (162, .aload_n 0, 1))) (.leaf (99999, .nop, 1)))) (.branch 0 (.branch 0 (.branch 0 (.leaf (18, .aload_n 0, 1)) (.leaf (146, .bipush (40), 2))) (.leaf (82, .iload_n 3, 1))) (.leaf (50, .iload_n 1, 1)))) (.branch 0 (.branch 0 (.branch 0 (.leaf (10, .iconst 0, 1)) (.leaf (74, .iload_n 3, 1))) (.branch 0 (.leaf (42, .iinc 1 (1), 3)) (.leaf (106, .iload 4, 2)))) (.branch 0 (.branch 0 (.leaf (26, .goto (-14), 3)) (.leaf (90, .bipush (7), 2))) (.leaf (99999, .nop, 1))))) (.branch 0 (.branch 0 (.branch 0 (.branch 0 (.branch 0 (.leaf (6, .iadd, 1)) (.leaf (134, .invokevirtual 182, 3))) (.leaf (70, .if_icmp .ge (48), 3))) (.branch 0 (.branch 0 (.leaf (38, .iload_n 1, 1)) (.leaf (166, .return_, 1))) (.leaf (102, .iload_n 1, 1)))) (.leaf (118, .iinc 1 (1), 3))) (.branch 0 (.leaf (78, .if_icmp .gt (9), 3)) (.branch 0 (.leaf (30, .istore_n 1, 1)) (.leaf (126, .iload_n 1, 1))))))) (.branch 0 (.branch 0 (.branch 0 (.branch 0 (.branch 0 (.branch 0 (.branch 0 (.leaf (1, .dup, 1)) (.leaf (129, .if_icmp .ge (14), 3))) (.leaf (65, .iconst 0, 1))) (.leaf (97, .getfield 25, 3))) (.branch 0 (.branch 0 (.leaf (145, .iload_n 1, 1)) (.leaf (81, .iload_n 2, 1))) (.leaf (49, .istore_n 1, 1)))) (.branch 0 (.branch 0 (.branch 0 (.leaf (137, .iinc 1 (1), 3)) (.leaf (73, .iload_n 2, 1))) (.leaf (105, .imul, 1))) (.branch 0 (.branch 0 (.leaf (153, .invokevirtual 185, 3)) (.leaf (89, .iadd, 1))) (.leaf (121, .goto (-71), 3))))) (.branch 0 (.branch 0 (.branch 0 (.branch 0 (.branch 0 (.leaf (5, .iconst 1, 1)) (.leaf (133, .iload_n 1, 1))) (.leaf (99999, .nop, 1))) (.branch 0 (.leaf (37, .aload_n 0, 1)) (.leaf (101, .aaload, 1)))) (.leaf (99999, .nop, 1))) (.branch 0 (.branch 0 (.leaf (13, .bipush (40), 2)) (.branch 0 (.leaf (45, .goto (-14), 3)) (.leaf (109, .invokevirtual 178, 3)))) (.branch 0 (.branch 0 (.leaf (29, .iconst 0, 1)) (.leaf (93, .istore 4, 2))) (.branch 0 (.leaf (61, .getfield 175, 3)) (.leaf (125, .istore_n 1, 1))))))) (.branch 0 (.branch 0 (.branch 0 (.branch 0 (.leaf (67, .iload_n 3, 1)) (.leaf (163, .invokevirtual 188, 3))) (.branch 0 (.branch 0 (.leaf (19, .iload_n 1, 1)) (.leaf (83, .iadd, 1))) (.branch 0 (.leaf (51, .iconst 4, 1)) (.leaf (115, .goto (-48), 3))))) (.branch 0 (.branch 0 (.branch 0 (.leaf (11, .istore_n 1, 1)) (.leaf (75, .iadd, 1))) (.leaf (99999, .nop, 1))) (.leaf (59, .iload_n 1, 1)))) (.branch 0 (.branch 0 (.branch 0 (.leaf (7, .putfield 76, 3)) (.branch 0 (.leaf (39, .invokevirtual 172, 3)) (.leaf (103, .bipush (8), 2)))) (.branch 0 (.branch 0 (.branch 0 (.leaf (23, .iinc 1 (1), 3)) (.leaf (151, .aload_n 0, 1))) (.leaf (87, .iload_n 2, 1))) (.leaf (55, .aload_n 0, 1)))) (.branch 0 (.branch 0 (.branch 0 (.branch 0 (.leaf (15, .if_icmp .ge (14), 3)) (.leaf (143, .iconst 0, 1))) (.leaf (99999, .nop, 1))) (.leaf (99999, .nop, 1))) (.branch 0 (.branch 0 (.branch 0 (.leaf (31, .iload_n 1, 1)) (.leaf (159, .goto (-14), 3))) (.leaf (95, .aload_n 0, 1))) (.leaf (127, .bipush (8), 2))))))))
theorem rv_k_X10_step : rv_tok cX10_step rv_t_X10_step = true := by decide +kernel

def rv_t_X10_copyFrom : rv_T := (.branch 0 (.branch 0 (.branch 0 (.branch 0 (.branch 0 (.branch 0 (.leaf (0, .iconst 0, 1)) (.leaf (32, .bipush (32), 2))) (.branch 0 (.leaf (80, .iinc 2 (1), 3)) (.branch 0 (.leaf (48, .aaload, 1)) (.leaf (112, .goto (-24), 3))))) (.branch 0 (.branch 0 (.branch 0 (.branch 0 (.leaf (8, .aload_n 0, 1)) (.leaf (136, .iconst 5, 1))) (.leaf (72, .getfield 25, 3))) (.leaf (104, .iload_n 2, 1))) (.branch 0 (.leaf (88, .iload_n 2, 1)) (.leaf (120, .getfield 38, 3))))) (.branch 0 (.branch 0 (.branch 0 (.leaf (132, .getfield 42, 3)) (.branch 0 (.leaf (164, .aload_n 0, 1)) (.leaf (100, .aload_n 1, 1)))) (.branch 0 (.branch 0 (.branch 0 (.leaf (20, .invokevirtual 54, 3)) (.leaf (148, .aload_n 0, 1))) (.leaf (99999, .nop, 1))) (.branch 0 (.leaf (52, .iinc 2 (1), 3)) (.leaf (116, .getfield 38, 3))))) (.branch 0 (.branch 0 (.branch 0 (.branch 0 (.leaf (12, .iload_n 2, 1)) (.leaf (140, .aload_n 0, 1))) (.leaf (76, .aaload, 1))) (.branch 0 (.branch 0 (.leaf (44, .getfield 19, 3)) (.leaf (172, .return_, 1))) (.leaf (99999, .nop, 1)))) (.branch 0 (.leaf (156, .aload_n 0, 1)) (.leaf (60, .iload_n 2, 1)))))) (.branch 0 (.branch 0 (.branch 0 (.branch 0 (.branch 0 (.branch 0 (.leaf (2, .iload_n 2, 1)) (.leaf (130, .iconst 0, 1))) (.leaf (66, .getfield 25, 3))) (.branch 0 (.leaf (34, .if_icmp .ge (24), 3)) (.leaf (98, .iload_n 2, 1)))) (.leaf (18, .iload_n 2, 1))) (.branch 0 (.branch 0 (.leaf (99999, .nop, 1)) (.branch 0 (.leaf (42, .aaload, 1)) (.leaf (106, .invokevirtual 64, 3)))) (.branch 0 (.leaf (26, .goto (-24), 3)) (.leaf (58, .iconst 0, 1))))) (.branch 0 (.branch 0 (.branch 0 (.leaf (70, .aaload, 1)) (.branch 0 (.branch 0 (.leaf (38, .getfield 19, 3)) (.leaf (166, .getfield 82, 3))) (.leaf (99999, .nop, 1)))) (.branch 0 (.branch 0 (.leaf (150, .getfield 46, 3)) (.leaf (86, .iconst 0, 1))) (.leaf (99999, .nop, 1)))) (.branch 0 (.branch 0 (.branch 0 (.branch 0 (.leaf (14, .aload_n 1, 1)) (.leaf (142, .getfield 76, 3))) (.leaf (99999, .nop, 1))) (.leaf (99999, .nop, 1))) (.branch 0 (.branch 0 (.branch 0 (.leaf (30, .istore_n 2, 1)) (.leaf (158, .getfield 79, 3))) (.leaf (94, .aload_n 0, 1))) (.branch 0 (.leaf (62, .if_icmp .ge (24), 3)) (.leaf (126, .aload_n 1, 1)))))))) (.branch 0 (.branch 0 (.branch 0 (.branch 0 (.branch 0 (.branch 0 (.leaf (1, .istore_n 2, 1)) (.leaf (65, .aload_n 0, 1))) (.leaf (161, .putfield 79, 3))) (.branch 0 (.leaf (145, .putfield 76, 3)) (.leaf (49, .invokevirtual 58, 3)))) (.branch 0 (.branch 0 (.branch 0 (.branch 0 (.leaf (9, .getfield 11, 3)) (.leaf (137, .invokestatic 70, 3))) (.leaf (99999, .nop, 1))) (.branch 0 (.branch 0 (.leaf (41, .iload_n 2, 1)) (.leaf (169, .putfield 82, 3))) (.leaf (105, .aaload, 1)))) (.branch 0 (.branch 0 (.leaf (153, .putfield 46, 3)) (.leaf (89, .bipush (8), 2))) (.leaf (99999, .nop, 1))))) (.branch 0 (.branch 0 (.branch 0 (.branch 0 (.leaf (5, .if_icmp .ge (24), 3)) (.leaf (69, .iload_n 2, 1))) (.branch 0 (.branch 0 (.leaf (37, .aload_n 0, 1)) (.leaf (165, .aload_n 1, 1))) (.leaf (101, .getfield 31, 3)))) (.leaf (149, .aload_n 1, 1))) (.branch 0 (.branch 0 (.branch 0 (.branch 0 (.leaf (13, .aaload, 1)) (.leaf (141, .aload_n 1, 1))) (.leaf (77, .invokevirtual 61, 3))) (.leaf (109, .iinc 2 (1), 3))) (.branch 0 (.branch 0 (.branch 0 (.leaf (29, .iconst 0, 1)) (.leaf (157, .aload_n 1, 1))) (.leaf (99999, .nop, 1))) (.leaf (61, .iconst 4, 1)))))) (.branch 0 (.branch 0 (.branch 0 (.branch 0 (.branch 0 (.branch 0 (.leaf (3, .bipush (40), 2)) (.leaf (131, .aload_n 0, 1))) (.leaf (99999, .nop, 1))) (.leaf (99, .aaload, 1))) (.branch 0 (.branch 0 (.leaf (19, .aaload, 1)) (.leaf (83, .goto (-23), 3))) (.leaf (115, .aload_n 0, 1)))) (.branch 0 (.branch 0 (.leaf (75, .iload_n 2, 1)) (.leaf (43, .aload_n 1, 1))) (.branch 0 (.leaf (91, .if_icmp .ge (24), 3)) (.branch 0 (.leaf (59, .istore_n 2, 1)) (.leaf (123, .invokevirtual 67, 3)))))) (.branch 0 (.branch 0 (.branch 0 (.branch 0 (.leaf (135, .iconst 0, 1)) (.leaf (71, .aload_n 1, 1))) (.leaf (99999, .nop, 1))) (.branch 0 (.branch 0 (.leaf (23, .iinc 2 (1), 3)) (.leaf (87, .istore_n 2, 1))) (.branch 0 (.leaf (55, .goto (-24), 3)) (.leaf (119, .aload_n 1, 1))))) (.branch 0 (.branch 0 (.leaf (15, .getfield 11, 3)) (.leaf (47, .iload_n 2, 1))) (.branch 0 (.branch 0 (.leaf (31, .iload_n 2, 1)) (.leaf (95, .getfield 31, 3))) (.leaf (127, .getfield 42, 3))))))))
theorem rv_k_X10_copyFrom : rv_tok cX10_copyFrom rv_t_X10_copyFrom = true := by decide +kernel

def rv_t_X11_tick : rv_T := (.branch 0 (.branch 0 (.branch 0 (.branch 0 (.branch 0 (.leaf (0, .iload_n 1, 1)) (.leaf (48, .getfield 12, 3))) (.leaf (8, .if_icmp .gt (17), 3))) (.branch 0 (.leaf (20, .iload_n 1, 1)) (.branch 0 (.branch 0 (.leaf (12, .getfield 12, 3)) (.leaf (44, .goto (-15), 3))) (.leaf (28, .istore_n 2, 1))))) (.branch 0 (.branch 0 (.branch 0 (.branch 0 (.leaf (2, .if_icmp .lt (23), 3)) (.leaf (34, .aload_n 0, 1))) (.leaf (18, .ldc 93, 2))) (.leaf (26, .ireturn, 1))) (.branch 0 (.branch 0 (.branch 0 (.leaf (6, .bipush (100), 2)) (.leaf (38, .invokevirtual 94, 3))) (.branch 0 (.leaf (22, .if_icmp .le (5), 3)) (.leaf (54, .ireturn, 1)))) (.leaf (30, .iload_n 1, 1))))) (.branch 0 (.branch 0 (.branch 0 (.leaf (1, .iconst 1, 1)) (.branch 0 (.leaf (41, .iinc 2 (1), 3)) (.leaf (25, .iconst (-1), 1)))) (.branch 0 (.branch 0 (.leaf (5, .iload_n 1, 1)) (.leaf (21, .isub, 1))) (.leaf (29, .iload_n 2, 1)))) (.branch 0 (.branch 0 (.branch 0 (.leaf (35, .getfield 12, 3)) (.leaf (51, .getfield 90, 3))) (.branch 0 (.leaf (11, .aload_n 0, 1)) (.leaf (27, .iconst 0, 1)))) (.branch 0 (.leaf (99999, .nop, 1)) (.branch 0 (.branch 0 (.leaf (15, .getfield 90, 3)) (.leaf (47, .aload_n 0, 1))) (.leaf (31, .if_icmp .ge (16), 3)))))))
theorem rv_k_X11_tick : rv_tok cX11_tick rv_t_X11_tick = true := by decide +kernel

section RMX
variable (base : Nat) (l : Launch) (cI c1 c2 c3 c4 c5 : ClassId) (D : va_G) (ad adV : Nat → Nat)
theorem rc_step (a : Nat) : rm_Met base l rk_K (rk_E ad) (rk_tys cI c1 c2 c3 c4 c5) D (rk_NU base ad adV) rk_q_X10_step [.ref a] (fun G _ _ f => (fun G _ => G a = some 10) G f) (fun G X L f0 => fun v u => (fun G f v u => v = none ∧ (∀ z : Int32, rk_fld (f a) 6 = some (.int z) → rk_fld (u a) 6 = some (.int (z + Int32.ofInt 1))) ∧ ∀ w, G w = some 10 → w ≠ a → rk_fld (u w) 6 = rk_fld (f w) 6) G f0 v u ∧ rm_TY cI c1 c2 c3 c4 c5 ad G (X + 5690) L u ∧ rc_Lv G 9 f0 u) 5690 := by
  refine rm_start (M := rk_q_X10_step) (rk_hNw base ad adV) (rk_hNc base ad adV) (by decide +kernel) (mt := rk_mt []) (ml := rk_mlf []) (fl := rk_flf rk_ftX10) (fun s args h hN => rk_MlOk_of (fun _ h => absurd h List.not_mem_nil) (by decide +kernel)) (fun s args h hN => rk_flX10 (fun w hw => List.mem_cons_of_mem _ hw) h hN) (rm_cat1 rfl) (Nat.le_of_ble_eq_true rfl) ?_
  intro p e st m below meth c G X L f0 A hC hh hX0 hXC hT hpre
  have hcs : 0 ≤ 0 ∧ 0 ≤ 0 := ⟨Nat.le_refl 0, Nat.le_refl 0⟩
  have hG : G a = some 10 := hpre
  obtain ⟨hL0, fs, z, e1, e2, hv, hz, -⟩ := rc_wtick hT hG
  refine rv_run hC.1 hC.2.1 (T := rv_t_X10_step) rv_k_X10_step 2 ?_
  refine rm_get (idx := 76) hC hh (by decide +kernel) rfl hL0 e1 hv ?_
  refine rv_run hC.1 hC.2.1 (T := rv_t_X10_step) rv_k_X10_step 2 ?_
  refine rm_putf (idx := 76) (i := 6) (w := 0) hC hh (by decide +kernel) rfl hL0 e1 (by omega) (Or.inl ⟨rfl, _, rfl⟩) (fun H2 locs2 hh2 => ?_)
  obtain ⟨hT2, hL2, hz2, hk2⟩ := rc_wset hT hG e1 e2 (z + Int32.ofInt 1)
  refine m_step_10 base l cI c1 c2 c3 c4 c5 D ad adV hC hcs hX0 hXC hT2 hh2 (fun v u hA hT3 hL3 => ?_) (fun _ => .ref a) (fun i ty hi _ => ?_) (fun i ty hi => ?_)
  · cases rk_alt_vn hA
    refine ⟨⟨rfl, fun z9 h9 => ?_, fun w hw hwa => ?_⟩, hT3, rc_lv_tr (k := 9) hL2 hL3 rfl rfl⟩
    · rw [hz] at h9
      cases h9
      rw [rc_tk hL3 rfl hG]
      exact hz2
    · rw [rc_tk hL3 rfl hw, hk2 w hwa]
  · rcases i with _ | i
    · exact List.mem_of_getElem? (i := 0) rfl
    · cases hi
  · rcases i with _ | i
    · cases hi
      exact ⟨a, rfl, hG⟩
    · cases hi
theorem rc_copyW (a b : Nat) : rm_Met base l rk_K (rk_E ad) (rk_tys cI c1 c2 c3 c4 c5) D (rk_NU base ad adV) rk_q_X10_copyFrom [.ref a, .ref b] (fun G _ _ f => (fun G _ => G a = some 10 ∧ G b = some 10) G f) (fun G X L f0 => fun v u => (fun G f v u => v = none ∧ rk_fld (u a) 6 = rk_fld (f b) 6 ∧ ∀ w, G w = some 10 → w ≠ a → rk_fld (u w) 6 = rk_fld (f w) 6) G f0 v u ∧ rm_TY cI c1 c2 c3 c4 c5 ad G (X + 0) L u ∧ rc_Lv G 13 f0 u) 0 := by
  refine rm_start (M := rk_q_X10_copyFrom) (rk_hNw base ad adV) (rk_hNc base ad adV) (by decide +kernel) (mt := rk_mt []) (ml := rk_mlf []) (fl := rk_flf rk_ftX10) (fun s args h hN => rk_MlOk_of (fun _ h => absurd h List.not_mem_nil) (by decide +kernel)) (fun s args h hN => rk_flX10 (fun w hw => List.mem_cons_of_mem _ hw) h hN) (rm_cat1 rfl) (Nat.le_of_ble_eq_true rfl) ?_
  intro p e st m below meth c G X L f0 A hC hh hX0 hXC hT hpre
  have hcs : 0 ≤ 0 ∧ 0 ≤ 0 := ⟨Nat.le_refl 0, Nat.le_refl 0⟩
  obtain ⟨hG, hGb⟩ := hpre
  rw [Int.add_zero] at hXC
  have hXC0 : X + 0 ≤ rk_top := by rw [Int.add_zero]; exact hXC
  refine m_copyW_0 base l cI c1 c2 c3 c4 c5 D ad adV hC hcs hX0 hXC0 hT hh (fun i => if i = 0 then .ref a else .ref b) (fun i ty hi _ => ?_) (fun i ty hi => ?_) (fun r1 f1 H1 locs1 p0 p1 hty hT1 hL1 hh1 => ?_)
  · rcases i with _ | _ | i
    · exact List.mem_of_getElem? (i := 0) rfl
    · exact List.mem_of_getElem? (i := 1) rfl
    · cases hi
  · rcases i with _ | _ | i
    · cases hi
      exact ⟨a, rfl, hG⟩
    · cases hi
      exact ⟨b, rfl, hGb⟩
    · cases hi
  · rw [Int.add_zero] at hT1
    have p0 : r1 0 = .ref a := p0
    have p1 : r1 1 = .ref b := p1
    rw [p0, p1]
    obtain ⟨hLb, fb, zb, b1, b2, bv, bz, -⟩ := rc_wtick hT1 hGb
    obtain ⟨hLa, fa, za, a1, a2, av, az, -⟩ := rc_wtick hT1 hG
    refine rv_run hC.1 hC.2.1 (T := rv_t_X10_copyFrom) rv_k_X10_copyFrom 2 ?_
    refine rm_get (idx := 76) hC hh1 (by decide +kernel) rfl hLb b1 bv ?_
    refine rm_putf (idx := 76) (i := 6) (w := 0) hC hh1 (by decide +kernel) rfl hLa a1 (by omega) (Or.inl ⟨rfl, _, rfl⟩) (fun H2 locs2 hh2 => ?_)
    obtain ⟨hT2, hL2, hz2, hk2⟩ := rc_wset hT1 hG a1 a2 zb
    refine m_copyW_148 base l cI c1 c2 c3 c4 c5 D ad adV hC hcs hX0 hXC0 hT2 hh2 (fun v u hA hT3 hL3 => ?_) (fun i => if i = 0 then .ref a else .ref b) (fun i ty hi _ => ?_) (fun i ty hi => ?_)
    · cases rk_alt_vn hA
      refine ⟨⟨rfl, ?_, fun w hw hwa => ?_⟩, hT3, rc_lv_tr (k := 13) (rc_lv_tr (k := 13) hL1 hL2 rfl rfl) hL3 rfl rfl⟩
      · rw [rc_tk hL3 rfl hG, hz2, ← bz]
        exact rc_tk hL1 rfl hGb
      · rw [rc_tk hL3 rfl hw, hk2 w hwa]
        exact rc_tk hL1 rfl hw
    · rcases i with _ | _ | i
      · exact List.mem_of_getElem? (i := 0) rfl
      · exact List.mem_of_getElem? (i := 1) rfl
      · cases hi
    · rcases i with _ | _ | i
      · cases hi
        exact ⟨a, rfl, hG⟩
      · cases hi
        exact ⟨b, rfl, hGb⟩
      · cases hi
theorem rc_tick (a0 aW : Nat) (n z : Int32) : rm_Met base l rk_K (rk_E ad) (rk_tys cI c1 c2 c3 c4 c5) D (rk_NU base ad adV) rk_q_X11_tick [.ref a0, .int n] (fun G _ _ f => (fun G f => G a0 = some 11 ∧ rk_fld (f a0) 0 = some (.ref aW) ∧ rk_fld (f aW) 6 = some (.int z) ∧ 0 ≤ z.toInt ∧ z.toInt ≤ 99999) G f) (fun G X L f0 => fun v u => (fun G f v u => (∃ x : Int32, v = some (.int x) ∧ ((x.toInt = -1 ∧ ¬ (1 ≤ n.toInt ∧ n.toInt ≤ 100 ∧ z.toInt + n.toInt ≤ 99999) ∧ rk_fld (u aW) 6 = some (.int z)) ∨ ((1 ≤ n.toInt ∧ n.toInt ≤ 100 ∧ z.toInt + n.toInt ≤ 99999) ∧ x.toInt = z.toInt + n.toInt ∧ rk_fld (u aW) 6 = some (.int x)))) ∧ ∀ w, G w = some 10 → w ≠ aW → rk_fld (u w) 6 = rk_fld (f w) 6) G f0 v u ∧ rm_TY cI c1 c2 c3 c4 c5 ad G (X + 569000) L u ∧ rc_Lv G 9 f0 u) 569000 := by
  refine rm_start (M := rk_q_X11_tick) (rk_hNw base ad adV) (rk_hNc base ad adV) (by decide +kernel) (mt := rk_mt [rk_q_X10_step]) (ml := rk_mlf [(94, 0, 1, 10)]) (fl := rk_flf rk_ftX11) (fun s args h hN => rk_MlOk_of (List.forall_mem_cons.mpr ⟨rk_mck_ok (fun w hw => List.mem_cons_of_mem _ hw) h hN rk_cm_X10_step rk_lk_X11_94, fun _ h => absurd h List.not_mem_nil⟩) (by decide +kernel)) (fun s args h hN => rk_flX11 (fun w hw => List.mem_cons_of_mem _ hw) h hN) (rm_cat1 rfl) (Nat.le_of_ble_eq_true rfl) ?_
  intro p e st m below meth c G X L f0 A hC hh hX0 hXC hT hpre
  have hcs : 0 ≤ 0 ∧ 0 ≤ 0 := ⟨Nat.le_refl 0, Nat.le_refl 0⟩
  obtain ⟨hG, h0, hz, z0, z1⟩ := hpre
  have hXt : X + 569000 ≤ 2000000000 := hXC
  obtain ⟨hL0, fs, e1, e2, e3⟩ := rc_me hT hG rfl
  have e2 : fs.length = 4 := e2
  have hv0 : fs[0]? = some (.ref aW) := by
    rw [e1] at h0
    exact h0
  obtain ⟨aW9, eW, hW⟩ := (e3 0 (2, 10, 0) _ rfl hv0 : rk_has G X (2, 10, 0) _)
  cases eW
  have no : ¬ (1 ≤ n.toInt ∧ n.toInt ≤ 100 ∧ z.toInt + n.toInt ≤ 99999) → rv_G p l e { frames := rk_q_X11_tick.2.2.2.2.1, cells := 0, slots := 0, locals := rk_q_X11_tick.2.2.2.2.2 } st m ([.ref a0, .int n] : List Value).toArray below meth c (MQ below (rk_Q (fun v u => (fun G f v u => (∃ x : Int32, v = some (.int x) ∧ ((x.toInt = -1 ∧ ¬ (1 ≤ n.toInt ∧ n.toInt ≤ 100 ∧ z.toInt + n.toInt ≤ 99999) ∧ rk_fld (u aW) 6 = some (.int z)) ∨ ((1 ≤ n.toInt ∧ n.toInt ≤ 100 ∧ z.toInt + n.toInt ≤ 99999) ∧ x.toInt = z.toInt + n.toInt ∧ rk_fld (u aW) 6 = some (.int x)))) ∧ ∀ w, G w = some 10 → w ≠ aW → rk_fld (u w) 6 = rk_fld (f w) 6) G f0 v u ∧ rm_TY cI c1 c2 c3 c4 c5 ad G (X + 569000) L u ∧ rc_Lv G 9 f0 u) (rk_B D (rk_tys cI c1 c2 c3 c4 c5) L A) A) ([.ref a0, .int n] : List Value).toArray st 0 0 A) rk_q_X11_tick.2.2.1 0 0 st.heap [] 25 [] [(0, .ref a0), (1, .int n)] := by
    intro h
    refine rv_run hC.1 hC.2.1 (T := rv_t_X11_tick) rv_k_X11_tick 1 ?_
    exact rm_iret hC hh (by decide +kernel) rfl ⟨⟨⟨_, rfl, Or.inl ⟨rfl, h, hz⟩⟩, fun _ _ _ => rfl⟩, rk_TY_X (by omega) hT, rc_lv_rf 9⟩
  have loop : ∀ (d : Nat) (k y : Int32) (kn : Nat) (f : Nat → va_E) (H : Heap) (locs : List Loc), rm_h D A st L f H locs → rm_TY cI c1 c2 c3 c4 c5 ad G (X + 5690 * (kn : Int)) L f → rc_Lv G 9 f0 f → rk_fld (f aW) 6 = some (.int y) → y.toInt = z.toInt + (kn : Int) → (∀ w, G w = some 10 → w ≠ aW → rk_fld (f w) 6 = rk_fld (f0 w) 6) → k.toInt = (kn : Int) → (kn : Int) + (d : Int) = n.toInt → n.toInt ≤ 100 → z.toInt + n.toInt ≤ 99999 → 1 ≤ n.toInt → rv_G p l e { frames := rk_q_X11_tick.2.2.2.2.1, cells := 0, slots := 0, locals := rk_q_X11_tick.2.2.2.2.2 } st m ([.ref a0, .int n] : List Value).toArray below meth c (MQ below (rk_Q (fun v u => (fun G f v u => (∃ x : Int32, v = some (.int x) ∧ ((x.toInt = -1 ∧ ¬ (1 ≤ n.toInt ∧ n.toInt ≤ 100 ∧ z.toInt + n.toInt ≤ 99999) ∧ rk_fld (u aW) 6 = some (.int z)) ∨ ((1 ≤ n.toInt ∧ n.toInt ≤ 100 ∧ z.toInt + n.toInt ≤ 99999) ∧ x.toInt = z.toInt + n.toInt ∧ rk_fld (u aW) 6 = some (.int x)))) ∧ ∀ w, G w = some 10 → w ≠ aW → rk_fld (u w) 6 = rk_fld (f w) 6) G f0 v u ∧ rm_TY cI c1 c2 c3 c4 c5 ad G (X + 569000) L u ∧ rc_Lv G 9 f0 u) (rk_B D (rk_tys cI c1 c2 c3 c4 c5) L A) A) ([.ref a0, .int n] : List Value).toArray st 0 0 A) rk_q_X11_tick.2.2.1 0 0 H locs 29 [] [(0, .ref a0), (1, .int n), (2, .int k)] := by
    intro d
    induction d with
    | zero =>
      intro k y kn f H locs hh hT hLt hy hyn hK hk hd h100 h99 h1
      have e1' := rc_same hLt rfl rfl rfl hT hG e1 e2
      obtain ⟨hLw, fw, zw, w1, w2, wv, wz, -⟩ := rc_wtick hT hW
      rw [hy] at wz
      cases wz
      refine rv_run hC.1 hC.2.1 (T := rv_t_X11_tick) rv_k_X11_tick 3 ?_
      refine ⟨fun _ => ?_, fun h => absurd h (by show ¬ k.toInt < n.toInt; omega)⟩
      refine rv_run hC.1 hC.2.1 (T := rv_t_X11_tick) rv_k_X11_tick 1 ?_
      refine rm_get (idx := 12) hC hh (by decide +kernel) rfl hL0 e1' hv0 ?_
      refine rm_get (idx := 90) hC hh (by decide +kernel) rfl hLw w1 wv ?_
      exact rm_iret hC hh (by decide +kernel) rfl ⟨⟨⟨_, rfl, Or.inr ⟨⟨h1, h100, h99⟩, by omega, hy⟩⟩, hK⟩, rk_TY_X (by omega) hT, hLt⟩
    | succ d ih =>
      intro k y kn f H locs hh hT hLt hy hyn hK hk hd h100 h99 h1
      have e1' := rc_same hLt rfl rfl rfl hT hG e1 e2
      obtain ⟨hLw, fw, zw, w1, w2, wv, wz, -⟩ := rc_wtick hT hW
      refine rv_run hC.1 hC.2.1 (T := rv_t_X11_tick) rv_k_X11_tick 3 ?_
      refine ⟨fun h => absurd h (by show ¬ n.toInt ≤ k.toInt; omega), fun _ => ?_⟩
      refine rv_run hC.1 hC.2.1 (T := rv_t_X11_tick) rv_k_X11_tick 1 ?_
      refine rm_get (idx := 12) hC hh (by decide +kernel) rfl hL0 e1' hv0 ?_
      refine rm_callV (idx := 94) (z := 0) (n := 1) (ci := 9) (as := []) (rest := []) hC hh (by decide +kernel) rfl hLw w1 (rc_step base l cI c1 c2 c3 c4 c5 D ad adV aW) (by omega) (by show _ ≤ (2000000000 : Int); omega) hT hW rfl rfl (Nat.le_of_ble_eq_true rfl) hcs (fun v u H1 locs1 hP hh1 => ?_)
      obtain ⟨⟨rfl, hu, hk1⟩, hT1, hL1⟩ := hP
      have e4 := rm_ad (x := k) hk rm_e1 (by omega) (by decide)
      have e5 := rm_ad (x := y) hyn rm_e1 (by omega) (by decide)
      refine rv_run hC.1 hC.2.1 (T := rv_t_X11_tick) rv_k_X11_tick 2 ?_
      exact ih _ _ (kn + 1) u H1 locs1 hh1 (rk_TY_X (by omega) hT1) (rc_lv_tr (k := 9) hLt hL1 rfl rfl) (hu y hy) (by rw [e5]; omega) (fun w hw hwa => (hk1 w hw hwa).trans (hK w hw hwa)) (by rw [e4]; omega) (by omega) h100 h99 h1
  obtain ⟨hLw, fw, zw, w1, w2, wv, wz, -⟩ := rc_wtick hT hW
  rw [hz] at wz
  cases wz
  refine rv_run hC.1 hC.2.1 (T := rv_t_X11_tick) rv_k_X11_tick 3 ?_
  refine ⟨fun h => no (by have h : n.toInt < 1 := h; omega), fun h1 => ?_⟩
  have h1 : 1 ≤ n.toInt := by
    first | exact h1 | exact Int.not_lt.mp h1
  refine rv_run hC.1 hC.2.1 (T := rv_t_X11_tick) rv_k_X11_tick 3 ?_
  refine ⟨fun h => no (by have h : 100 < n.toInt := h; omega), fun h2 => ?_⟩
  have h2 : n.toInt ≤ 100 := by
    first | exact h2 | exact Int.not_lt.mp h2
  refine rv_run hC.1 hC.2.1 (T := rv_t_X11_tick) rv_k_X11_tick 1 ?_
  refine rm_get (idx := 12) hC hh (by decide +kernel) rfl hL0 e1 hv0 ?_
  refine rm_get (idx := 90) hC hh (by decide +kernel) rfl hLw w1 wv ?_
  refine rm_ldc (i := 93) (v := 99999) hC (by decide +kernel) (rk_tat_ok (i := 668) (by decide +kernel)) ?_
  have e9 : (99999 : Int32).toInt = 99999 := rfl
  have e6 : ((99999 : Int32) - n).toInt = 99999 - n.toInt := by
    rw [rk_sub_e (by rw [e9]; omega) (by rw [e9]; omega), e9]
  refine rv_run hC.1 hC.2.1 (T := rv_t_X11_tick) rv_k_X11_tick 3 ?_
  refine ⟨fun h => ?_, fun h => ?_⟩
  · have h : z.toInt ≤ ((99999 : Int32) - n).toInt := h
    rw [e6] at h
    refine rv_run hC.1 hC.2.1 (T := rv_t_X11_tick) rv_k_X11_tick 2 ?_
    exact loop n.toInt.toNat _ z 0 f0 _ _ hh (by rw [show X + 5690 * ((0 : Nat) : Int) = X by omega]; exact hT) (rc_lv_rf 9) hz (by omega) (fun _ _ _ => rfl) rfl (by omega) h2 (by omega) h1
  · have h : ¬ z.toInt ≤ ((99999 : Int32) - n).toInt := by
      first | exact h | exact Int.not_le.mpr h
    rw [e6] at h
    exact no (by omega)
end RMX
