theorem rm_iush {base : Nat} {tys : List (ClassId × FieldType)} {D : va_G} {NU : State → Prop} {M : rk_Mt} {mt : Nat → rk_Mt} {ml : rk_Ml} {fl : rk_Fl} {A : Nat → Prop} {L : List Nat} {p : Program} {l : Launch} {e : Env} {R : Room} {s : State} {m : MethodId} {args : Array Value} {below : List Frame} {meth : Method} {c : Code} {Q : State → Prop} {cells slots : Nat} {H : Heap} {locs : List Loc} (hC : rm_Cx base tys D NU M mt ml fl p R s m args meth c A L) {pc : Nat} (hdg : decode M.2.1 pc = .ok (.iushr, 1)) {x y : Int32} {rest : List Value} {lo : List (Nat × Value)} (kk : ∀ z : Int32, rv_G p l e R s m args below meth c Q M.2.2.1 cells slots H locs (pc + 1) (.int z :: rest) lo) : rv_G p l e R s m args below meth c Q M.2.2.1 cells slots H locs pc (.int y :: .int x :: rest) lo := by
  intro ls hl
  exact rk_arW hC.1 hC.2.1 hdg rfl (kk _ ls hl)
theorem rc_fi_k {G : Nat → Option Nat} {lv : Nat} {f u : Nat → va_E} {a : Nat} (hL : rc_Lv G lv f u) (b1 : Nat.testBit lv 1 = false) (hG : G a = some 9) : rm_fi u a 1 = rm_fi f a 1 := rm_fi_eq ((hL 1 (by decide) b1 : rc_Rb 1 G f u) a hG)
section RCT
variable {base : Nat} {l : Launch} {cI c1 c2 c3 c4 c5 : ClassId} {D : va_G} {ad adV : Nat → Nat} {G : Nat → Option Nat} {L : List Nat} {X : Int} {f : Nat → va_E}
/-- the tape of a SpaceLinks -/
theorem rc_tape (hT : rm_TY cI c1 c2 c3 c4 c5 ad G X L f) {a0 : Nat} (hG : G a0 = some 11) : ∃ aT : Nat, (a0 ∈ L ∧ ∃ fs : List Value, f a0 = .inr (10, fs) ∧ fs[1]? = some (.ref aT)) ∧ G aT = some 9 := by
  obtain ⟨hL0, fs, e1, e2, e3⟩ := rc_me hT hG rfl
  have e2 : fs.length = 4 := e2
  have hv : fs[1]? = some fs[1] := List.getElem?_eq_getElem (by omega)
  obtain ⟨aT, eT, hT9⟩ := (e3 1 (2, 9, 0) _ rfl hv : rk_has G X (2, 9, 0) _)
  rw [eT] at hv
  exact ⟨aT, ⟨hL0, fs, e1, hv⟩, hT9⟩
/-- its length -/
theorem rc_tlen (hT : rm_TY cI c1 c2 c3 c4 c5 ad G X L f) {aT : Nat} (hG : G aT = some 9) : aT ∈ L ∧ ∃ (fs : List Value) (z : Int32), f aT = .inr (8, fs) ∧ fs.length = 7 ∧ fs[1]? = some (.int z) ∧ z.toInt = rm_fi f aT 1 ∧ 0 ≤ z.toInt ∧ z.toInt ≤ 400 := by
  obtain ⟨hL0, fs, e1, e2, e3⟩ := rc_me hT hG rfl
  have e2 : fs.length = 7 := e2
  have hv : fs[1]? = some fs[1] := List.getElem?_eq_getElem (by omega)
  obtain ⟨z, ez, h1, h2⟩ := (e3 1 (0, 0, 400) _ rfl hv : rk_has G X (0, 0, 400) _)
  rw [ez] at hv
  refine ⟨hL0, fs, z, e1, e2, hv, ?_, h1, h2⟩
  have h9 : rk_fld (f aT) 1 = some (.int z) := by
    rw [e1]
    exact hv
  exact (rm_fi_of h9).symm
/-- and a new one -/
theorem rc_tset (hT : rm_TY cI c1 c2 c3 c4 c5 ad G X L f) {aT : Nat} (hG : G aT = some 9) {fs : List Value} (e1 : f aT = .inr (8, fs)) (e2 : fs.length = 7) {y : Int32} (h1 : 0 ≤ y.toInt) (h2 : y.toInt ≤ 400) : rm_TY cI c1 c2 c3 c4 c5 ad G X L (va_up f aT (.inr (8, fs.set 1 (.int y)))) ∧ rc_Lv G 3 f (va_up f aT (.inr (8, fs.set 1 (.int y)))) ∧ rm_fi (va_up f aT (.inr (8, fs.set 1 (.int y)))) aT 1 = y.toInt := by
  refine ⟨?_, (rc_LvOk G).2.2.2 3 f f aT 9 _ 1 1 rfl hG (Or.inl ⟨8, fs, 1, _, e1, rfl, Int.le_refl _, Int.le_refl _⟩) (rc_lv_rf 3), ?_⟩
  · obtain ⟨-, fs9, e19, -, e3⟩ := rc_me hT hG rfl
    rw [e1] at e19
    cases e19
    refine rk_TY_up hT hG ⟨_, rfl, by rw [List.length_set]; exact e2, fun j t' v' hj hv' => ?_⟩
    by_cases hji : j = 1
    · subst hji
      rw [List.getElem?_set_self (by rw [e2]; decide)] at hv'
      cases hv'
      cases hj
      exact ⟨_, rfl, h1, h2⟩
    · rw [List.getElem?_set_ne (Ne.symm hji)] at hv'
      exact e3 j t' v' hj hv'
  · refine rm_fi_of ?_
    rw [va_up_self]
    exact List.getElem?_set_self (by omega)
/-- one of its cells -/
theorem rc_aset (hT : rm_TY cI c1 c2 c3 c4 c5 ad G X L f) {aC : Nat} (hC9 : G aC = some 20) {cA : ClassId} {g : Nat → Int32} (f1 : f aC = .inl (cA, 400, .inl g)) (f2 : (rk_tys cI c1 c2 c3 c4 c5)[0]? = some (cA, .int)) {j : Nat} {x : Int32} (hj : j ≤ 400) : rm_TY cI c1 c2 c3 c4 c5 ad G X L (va_up f aC (.inl (cA, 400, .inl (upd g j x)))) ∧ rc_Lv G 3 f (va_up f aC (.inl (cA, 400, .inl (upd g j x)))) :=
  ⟨rk_TY_up hT hC9 ⟨cA, _, rfl, f2, fun i hi => rk_full_ok _⟩, (rc_LvOk G).2.2.2 3 f f aC 20 _ 0 400 rfl hC9 (Or.inr (Or.inl ⟨cA, 400, g, _, f1, rfl, fun i hi => pk_un (by omega)⟩)) (rc_lv_rf 3)⟩
end RCT
def rv_t_X9_add : rv_T := (.branch 0 (.branch 0 (.branch 0 (.branch 0 (.branch 0 (.branch 0 (.leaf (0, .bipush (24), 2)) (.leaf (32, .iastore, 1))) (.leaf (99999, .nop, 1))) (.branch 0 (.branch 0 (.leaf (8, .getfield 25, 3)) (.leaf (40, .putfield 25, 3))) (.leaf (99999, .nop, 1)))) (.branch 0 (.leaf (4, .ifCond .lt (45), 3)) (.leaf (28, .sipush (255), 3)))) (.branch 0 (.branch 0 (.branch 0 (.branch 0 (.leaf (2, .istore_n 2, 1)) (.leaf (34, .dup, 1))) (.leaf (18, .getfield 11, 3))) (.leaf (26, .iload_n 2, 1))) (.branch 0 (.branch 0 (.leaf (38, .iconst 1, 1)) (.leaf (22, .getfield 25, 3))) (.branch 0 (.branch 0 (.leaf (14, .if_icmp .ge (35), 3)) (.leaf (46, .goto (-43), 3))) (.leaf (99999, .nop, 1)))))) (.branch 0 (.branch 0 (.branch 0 (.branch 0 (.leaf (33, .aload_n 0, 1)) (.branch 0 (.leaf (17, .aload_n 0, 1)) (.leaf (49, .return_, 1)))) (.leaf (25, .iload_n 1, 1))) (.leaf (21, .aload_n 0, 1))) (.branch 0 (.branch 0 (.branch 0 (.branch 0 (.leaf (3, .iload_n 2, 1)) (.leaf (35, .getfield 25, 3))) (.leaf (99999, .nop, 1))) (.branch 0 (.branch 0 (.leaf (11, .sipush (400), 3)) (.leaf (43, .iinc 2 (-8), 3))) (.leaf (27, .iushr, 1)))) (.branch 0 (.branch 0 (.branch 0 (.leaf (7, .aload_n 0, 1)) (.leaf (39, .iadd, 1))) (.leaf (99999, .nop, 1))) (.leaf (31, .iand, 1))))))
theorem rv_k_X9_add : rv_tok cX9_add rv_t_X9_add = true := by decide +kernel

def rv_t_X11_feed : rv_T := (.branch 0 (.branch 0 (.branch 0 (.branch 0 (.branch 0 (.branch 0 (.branch 0 (.leaf (0, .aload_n 0, 1)) (.leaf (64, .getfield 97, 3))) (.leaf (99999, .nop, 1))) (.branch 0 (.leaf (16, .iconst (-1), 1)) (.leaf (48, .invokevirtual 100, 3)))) (.leaf (99999, .nop, 1))) (.branch 0 (.branch 0 (.leaf (4, .getfield 97, 3)) (.leaf (52, .getfield 19, 3))) (.leaf (60, .aload_n 0, 1)))) (.branch 0 (.branch 0 (.branch 0 (.leaf (34, .aload_n 0, 1)) (.leaf (18, .aload_n 0, 1))) (.branch 0 (.branch 0 (.leaf (10, .sipush (400), 3)) (.leaf (42, .aload_n 0, 1))) (.leaf (26, .aload_n 0, 1)))) (.branch 0 (.branch 0 (.leaf (38, .iload_n 3, 1)) (.leaf (22, .iload_n 1, 1))) (.branch 0 (.leaf (46, .iload 4, 2)) (.leaf (30, .iload_n 2, 1)))))) (.branch 0 (.branch 0 (.branch 0 (.branch 0 (.leaf (1, .getfield 19, 3)) (.leaf (17, .ireturn, 1))) (.branch 0 (.leaf (9, .iadd, 1)) (.leaf (57, .invokevirtual 100, 3)))) (.branch 0 (.leaf (99999, .nop, 1)) (.branch 0 (.leaf (13, .if_icmp .le (5), 3)) (.leaf (61, .getfield 19, 3))))) (.branch 0 (.branch 0 (.branch 0 (.branch 0 (.leaf (67, .ireturn, 1)) (.leaf (35, .getfield 19, 3))) (.branch 0 (.leaf (19, .getfield 19, 3)) (.leaf (51, .aload_n 0, 1)))) (.branch 0 (.leaf (43, .getfield 19, 3)) (.leaf (27, .getfield 19, 3)))) (.branch 0 (.branch 0 (.branch 0 (.leaf (7, .bipush (20), 2)) (.leaf (39, .invokevirtual 100, 3))) (.branch 0 (.leaf (23, .invokevirtual 100, 3)) (.leaf (55, .iload 5, 2)))) (.leaf (31, .invokevirtual 100, 3))))))
theorem rv_k_X11_feed : rv_tok cX11_feed rv_t_X11_feed = true := by decide +kernel

def rv_t_X11_end : rv_T := (.branch 0 (.branch 0 (.branch 0 (.branch 0 (.branch 0 (.leaf (0, .iload_n 1, 1)) (.leaf (16, .ireturn, 1))) (.leaf (99999, .nop, 1))) (.branch 0 (.leaf (4, .iload_n 1, 1)) (.leaf (12, .if_icmp .le (5), 3)))) (.branch 0 (.branch 0 (.leaf (18, .getfield 19, 3)) (.leaf (26, .ireturn, 1))) (.branch 0 (.branch 0 (.leaf (6, .getfield 19, 3)) (.leaf (22, .putfield 97, 3))) (.leaf (99999, .nop, 1))))) (.branch 0 (.branch 0 (.branch 0 (.branch 0 (.leaf (1, .ifCond .lt (14), 3)) (.leaf (17, .aload_n 0, 1))) (.branch 0 (.leaf (9, .getfield 97, 3)) (.leaf (25, .iconst 1, 1)))) (.branch 0 (.branch 0 (.leaf (5, .aload_n 0, 1)) (.leaf (21, .iload_n 1, 1))) (.leaf (99999, .nop, 1)))) (.leaf (15, .iconst 0, 1))))
theorem rv_k_X11_end : rv_tok cX11_end rv_t_X11_end = true := by decide +kernel

def rv_t_X11_send : rv_T := (.branch 0 (.branch 0 (.branch 0 (.branch 0 (.branch 0 (.leaf (0, .aload_n 0, 1)) (.branch 0 (.leaf (16, .iload_n 1, 1)) (.leaf (48, .iconst 1, 1)))) (.branch 0 (.leaf (8, .aload_n 0, 1)) (.branch 0 (.branch 0 (.leaf (24, .ifCond .ne (5), 3)) (.leaf (88, .iinc 4 (1), 3))) (.leaf (56, .ireturn, 1))))) (.branch 0 (.branch 0 (.branch 0 (.branch 0 (.leaf (4, .getfield 97, 3)) (.leaf (68, .sipush (400), 3))) (.leaf (36, .iload_n 1, 1))) (.branch 0 (.branch 0 (.leaf (20, .ifCond .eq (7), 3)) (.leaf (84, .iaload, 1))) (.leaf (52, .if_icmp .le (5), 3)))) (.branch 0 (.branch 0 (.branch 0 (.leaf (12, .iconst 0, 1)) (.leaf (76, .getfield 19, 3))) (.leaf (99999, .nop, 1))) (.branch 0 (.leaf (28, .ireturn, 1)) (.leaf (60, .iload 4, 2)))))) (.branch 0 (.branch 0 (.branch 0 (.branch 0 (.leaf (66, .iload 4, 2)) (.leaf (98, .invokevirtual 116, 3))) (.branch 0 (.leaf (82, .iload 4, 2)) (.leaf (50, .bipush (120), 2)))) (.branch 0 (.branch 0 (.leaf (74, .aload_n 3, 1)) (.leaf (42, .aload_n 3, 1))) (.leaf (58, .istore 4, 2)))) (.branch 0 (.branch 0 (.branch 0 (.leaf (99999, .nop, 1)) (.branch 0 (.leaf (38, .getfield 103, 3)) (.leaf (102, .getfield 107, 3)))) (.leaf (99999, .nop, 1))) (.branch 0 (.leaf (46, .iload_n 2, 1)) (.branch 0 (.branch 0 (.leaf (30, .getfield 12, 3)) (.leaf (94, .aload_n 3, 1))) (.leaf (62, .iload_n 2, 1))))))) (.branch 0 (.branch 0 (.branch 0 (.branch 0 (.branch 0 (.leaf (1, .getfield 19, 3)) (.leaf (33, .getfield 81, 3))) (.branch 0 (.leaf (17, .invokestatic 78, 3)) (.leaf (49, .iadd, 1)))) (.branch 0 (.branch 0 (.leaf (9, .getfield 19, 3)) (.branch 0 (.leaf (41, .astore_n 3, 1)) (.leaf (105, .ireturn, 1)))) (.leaf (57, .iconst 0, 1)))) (.branch 0 (.branch 0 (.branch 0 (.leaf (99999, .nop, 1)) (.branch 0 (.leaf (37, .aaload, 1)) (.leaf (101, .aload_n 3, 1)))) (.leaf (85, .invokevirtual 116, 3))) (.branch 0 (.leaf (13, .putfield 97, 3)) (.leaf (29, .aload_n 0, 1))))) (.branch 0 (.branch 0 (.leaf (99999, .nop, 1)) (.branch 0 (.branch 0 (.leaf (75, .aload_n 0, 1)) (.leaf (43, .getfield 107, 3))) (.branch 0 (.branch 0 (.leaf (27, .iconst (-1), 1)) (.leaf (91, .goto (-31), 3))) (.leaf (99999, .nop, 1))))) (.branch 0 (.branch 0 (.branch 0 (.branch 0 (.leaf (7, .istore_n 2, 1)) (.leaf (71, .if_icmp .ge (23), 3))) (.leaf (99999, .nop, 1))) (.branch 0 (.leaf (23, .iload_n 2, 1)) (.leaf (55, .iconst (-1), 1)))) (.branch 0 (.branch 0 (.leaf (79, .getfield 112, 3)) (.leaf (47, .iadd, 1))) (.branch 0 (.leaf (95, .sipush (256), 3)) (.leaf (63, .if_icmp .ge (31), 3))))))))
theorem rv_k_X11_send : rv_tok cX11_send rv_t_X11_send = true := by decide +kernel

def rv_t_X11_text : rv_T := (.branch 0 (.branch 0 (.branch 0 (.branch 0 (.branch 0 (.leaf (0, .aload_n 0, 1)) (.leaf (16, .iconst 0, 1))) (.leaf (8, .invokevirtual 117, 3))) (.branch 0 (.branch 0 (.leaf (4, .aload_n 0, 1)) (.leaf (20, .iload_n 1, 1))) (.leaf (12, .aload_n 0, 1)))) (.branch 0 (.leaf (26, .invokevirtual 121, 3)) (.branch 0 (.leaf (22, .if_icmp .eq (7), 3)) (.leaf (30, .ireturn, 1))))) (.branch 0 (.branch 0 (.branch 0 (.branch 0 (.leaf (1, .getfield 19, 3)) (.leaf (17, .putfield 97, 3))) (.leaf (25, .aload_n 0, 1))) (.branch 0 (.branch 0 (.leaf (5, .getfield 12, 3)) (.leaf (21, .iconst (-1), 1))) (.branch 0 (.leaf (13, .getfield 19, 3)) (.leaf (29, .iload_n 1, 1))))) (.leaf (11, .istore_n 1, 1))))
theorem rv_k_X11_text : rv_tok cX11_text rv_t_X11_text = true := by decide +kernel

section RMX
variable (base : Nat) (l : Launch) (cI c1 c2 c3 c4 c5 : ClassId) (D : va_G) (ad adV : Nat → Nat)
theorem m_send_16 {mt0 : Nat → rk_Mt} {ml0 : rk_Ml} {fl0 : rk_Fl} {p : Program} {e : Env} {s : State} {m : MethodId} {args : Array Value} {below : List Frame} {meth : Method} {c : Code} {A : Nat → Prop} {G : Nat → Option Nat} {L : List Nat} {cc ss cm sm : Nat} (hC : rm_Cx base (rk_tys cI c1 c2 c3 c4 c5) D (rk_NU base ad adV) rk_q_X11_send mt0 ml0 fl0 p { frames := rk_q_X11_send.2.2.2.2.1, cells := cc, slots := ss, locals := rk_q_X11_send.2.2.2.2.2 } s m args meth c A L) (hcm : cm ≤ cc ∧ sm ≤ ss) {X : Int} {f : Nat → va_E} {H : Heap} {locs : List Loc} (hX : 0 ≤ X) (hXC : X + 0 ≤ rk_top) (hT : rm_TY cI c1 c2 c3 c4 c5 ad G X L f) (hh : rm_h D A s L f H locs) {Pq : Option Value → (Nat → va_E) → Prop} (hq : ∀ v u, rk_alt G (X + 0) ([] : List Value) [((0, -1, 120), [])] v → rm_TY cI c1 c2 c3 c4 c5 ad G (X + 0) L u → rc_Lv G 1 f u → Pq v u) {lo : List (Nat × Value)} (vs : Nat → Value) (hlo : ∀ i t, ([(2, 11, 0), (0, -2147483648, 2147483647), (0, 0, 400)] : List rk_AV)[i]? = some t → t.1 < 4 → (i, vs i) ∈ lo) (hty : ∀ i t, ([(2, 11, 0), (0, -2147483648, 2147483647), (0, 0, 400)] : List rk_AV)[i]? = some t → rk_has G X t (vs i)) : rv_G p l e { frames := rk_q_X11_send.2.2.2.2.1, cells := cc, slots := ss, locals := rk_q_X11_send.2.2.2.2.2 } s m args below meth c (MQ below (rk_Q Pq (rk_B D (rk_tys cI c1 c2 c3 c4 c5) L A) A) args s cm sm A) rk_q_X11_send.2.2.1 cm sm H locs 16 [] lo := by
  exact rk_midC (Pw := fun _ _ => True) (rk_hER ad) (ap := (5, 4)) (rk_hap cI c1 c2 c3 c4 c5) (rk_hNc base ad adV) rc_LvOk (mt := rk_mt [rk_q_X11_isEnd, rk_q_X7_add]) (ctr := rk_look [(0, [(0, -2147483648, 2147483647)], [((0, 1, 1), [(0, (0, 0, 7))]), ((0, 0, 0), [])], 0, 0), (1, [(2, 7, 0), (0, -2147483648, 2147483647)], [((9, 0, 0), [])], 0, 1)]) (rk_look_ok _ (List.forall_mem_cons.mpr ⟨c_X11_isEnd base l cI c1 c2 c3 c4 c5 D ad adV, List.forall_mem_cons.mpr ⟨c_X7_add_1 base l cI c1 c2 c3 c4 c5 D ad adV, fun _ h => absurd h List.not_mem_nil⟩⟩)) (M := rk_q_X11_send) (P := (cX11_send, 5, rk_flf rk_ftX11, rk_mlf [(78, 0, 1, 0), (116, 1, 2, 7)], rk_csf [], rk_ssf [], rk_acf [] [])) rfl rfl (fun s args h hN => rk_flX11 (fun w hw => List.mem_cons_of_mem _ hw) h hN)
    (fun s args h hN => rk_MlOk_of (List.forall_mem_cons.mpr ⟨rk_mck_ok (fun w hw => List.mem_cons_of_mem _ hw) h hN rk_cm_X11_isEnd rk_lk_X11_78, List.forall_mem_cons.mpr ⟨rk_mck_ok (fun w hw => List.mem_cons_of_mem _ hw) h hN rk_cm_X7_add rk_lk_X11_116, fun _ h => absurd h List.not_mem_nil⟩⟩) (by decide +kernel))
    (fun s args h i v hi => absurd hi (by simp [rk_csf])) (fun s hN i k hi => absurd hi (by simp [rk_ssf, rk_lk])) (fun s args h => rk_acf_ok (fun _ h => absurd h List.not_mem_nil) (fun _ h => absurd h List.not_mem_nil))
    (fun _ _ _ _ h => h) (rk := 1) ⟨fun h => absurd h (by decide), fun _ => rfl, fun h => absurd h (by decide), fun h => absurd h (by decide)⟩ hC hcm hX hXC hT trivial hh hq vs hlo hty (cs := [(60, [(2, 11, 0), (0, 0, 7), (0, 1, 400), (2, 7, 0), (0, 0, 400)], [], (400, [(4, -1)]), (0, []))]) (fuel := 3000) (by decide +kernel)
theorem rc_add (a9 : Nat) (w : Int32) : rm_Met base l rk_K (rk_E ad) (rk_tys cI c1 c2 c3 c4 c5) D (rk_NU base ad adV) rk_q_X9_add [.ref a9, .int w] (fun G _ _ f => (fun G f => G a9 = some 9 ∧ rm_fi f a9 1 ≤ 396) G f) (fun G X L f0 => fun v u => (fun G f v u => v = none ∧ rm_fi u a9 1 = rm_fi f a9 1 + 4 ∧ ∀ a, G a = some 11 → u a = f a) G f0 v u ∧ rm_TY cI c1 c2 c3 c4 c5 ad G (X + 0) L u ∧ rc_Lv G 3 f0 u) 0 := by
  refine rm_start (M := rk_q_X9_add) (rk_hNw base ad adV) (rk_hNc base ad adV) (by decide +kernel) (mt := rk_mt []) (ml := rk_mlf []) (fl := rk_flf rk_ftX9) (fun s args h hN => rk_MlOk_of (fun _ h => absurd h List.not_mem_nil) (by decide +kernel)) (fun s args h hN => rk_flX9 (fun w hw => List.mem_cons_of_mem _ hw) h hN) (rm_cat1 rfl) (Nat.le_of_ble_eq_true rfl) ?_
  intro p e st m below meth c G X L f0 A hC hh hX0 hXC hT hpre
  have hcs : 0 ≤ 0 ∧ 0 ≤ 0 := ⟨Nat.le_refl 0, Nat.le_refl 0⟩
  obtain ⟨hG, h396⟩ := hpre
  have h0 : 0 ≤ rm_fi f0 a9 1 := by
    obtain ⟨-, fs, z, -, -, -, ez, h1, -⟩ := rc_tlen hT hG
    omega
  have loop : ∀ (d : Nat) (sh : Int32) (f : Nat → va_E) (H : Heap) (locs : List Loc), rm_h D A st L f H locs → rm_TY cI c1 c2 c3 c4 c5 ad G X L f → rc_Lv G 3 f0 f → (∀ a, G a = some 11 → f a = f0 a) → d ≤ 4 → rm_fi f a9 1 = rm_fi f0 a9 1 + 4 - (d : Int) → sh.toInt = 8 * (d : Int) - 8 → rv_G p l e { frames := rk_q_X9_add.2.2.2.2.1, cells := 0, slots := 0, locals := rk_q_X9_add.2.2.2.2.2 } st m ([.ref a9, .int w] : List Value).toArray below meth c (MQ below (rk_Q (fun v u => (fun G f v u => v = none ∧ rm_fi u a9 1 = rm_fi f a9 1 + 4 ∧ ∀ a, G a = some 11 → u a = f a) G f0 v u ∧ rm_TY cI c1 c2 c3 c4 c5 ad G (X + 0) L u ∧ rc_Lv G 3 f0 u) (rk_B D (rk_tys cI c1 c2 c3 c4 c5) L A) A) ([.ref a9, .int w] : List Value).toArray st 0 0 A) rk_q_X9_add.2.2.1 0 0 H locs 3 [] [(0, .ref a9), (1, .int w), (2, .int sh)] := by
    intro d
    induction d with
    | zero =>
      intro sh f H locs hh hT hLt hK hd4 hf hs
      refine rv_run hC.1 hC.2.1 (T := rv_t_X9_add) rv_k_X9_add 2 ?_
      refine ⟨fun _ => ?_, fun h => absurd h (by show ¬ 0 ≤ sh.toInt; omega)⟩
      exact rm_vret hC hh (by decide +kernel) rfl ⟨⟨rfl, by omega, hK⟩, by rw [Int.add_zero]; exact hT, hLt⟩
    | succ d ih =>
      intro sh f H locs hh hT hLt hK hd4 hf hs
      obtain ⟨hL0, fs, z, e1, e2, hv, ez, h1, h2⟩ := rc_tlen hT hG
      refine rv_run hC.1 hC.2.1 (T := rv_t_X9_add) rv_k_X9_add 2 ?_
      refine ⟨fun h => absurd h (by show ¬ sh.toInt < 0; omega), fun _ => ?_⟩
      refine rv_run hC.1 hC.2.1 (T := rv_t_X9_add) rv_k_X9_add 1 ?_
      refine rm_get (idx := 25) hC hh (by decide +kernel) rfl hL0 e1 hv ?_
      refine rv_run hC.1 hC.2.1 (T := rv_t_X9_add) rv_k_X9_add 2 ?_
      refine ⟨fun h => absurd h (by show ¬ 400 ≤ z.toInt; omega), fun _ => ?_⟩
      have hv0 : fs[0]? = some fs[0] := List.getElem?_eq_getElem (by omega)
      obtain ⟨-, fs9, k1, -, k3⟩ := rc_me hT hG rfl
      rw [e1] at k1
      cases k1
      obtain ⟨aC, eC, hC9⟩ := (k3 0 (2, 20, 0) _ rfl hv0 : rk_has G X (2, 20, 0) _)
      rw [eC] at hv0
      obtain ⟨hLC, hcC⟩ := hT.1 aC 20 hC9 (by decide)
      obtain ⟨cA, g, f1, f2, f3⟩ := (hcC : ∃ (cA : ClassId) (g : Nat → Int32), f aC = .inl (cA, 400, .inl g) ∧ (rk_tys cI c1 c2 c3 c4 c5)[0]? = some (cA, .int) ∧ ∀ i, i < 400 → rk_has G X (rk_E ad 20 i) (.int (g i)))
      have hne : a9 ≠ aC := fun h9 => by
        rw [h9, hC9] at hG
        cases hG
      refine rv_run hC.1 hC.2.1 (T := rv_t_X9_add) rv_k_X9_add 1 ?_
      refine rm_get (idx := 11) hC hh (by decide +kernel) rfl hL0 e1 hv0 ?_
      refine rv_run hC.1 hC.2.1 (T := rv_t_X9_add) rv_k_X9_add 1 ?_
      refine rm_get (idx := 25) hC hh (by decide +kernel) rfl hL0 e1 hv ?_
      refine rv_run hC.1 hC.2.1 (T := rv_t_X9_add) rv_k_X9_add 2 ?_
      refine rm_iush hC (by decide +kernel) (fun y => ?_)
      refine rv_run hC.1 hC.2.1 (T := rv_t_X9_add) rv_k_X9_add 2 ?_
      refine rm_iast hC hh (by decide +kernel) hLC f1 f2 h1 (by omega) (fun H1 locs1 hh1 => ?_)
      have hzn : z.toInt = ((z.toInt.toNat : Nat) : Int) := by omega
      rw [rm_clamp hzn] at hh1
      obtain ⟨hT1, hL1⟩ := rc_aset hT hC9 f1 f2 (j := z.toInt.toNat) (x := y &&& (Int16.ofInt 255).toInt32) (by omega)
      generalize hu : va_up f aC (.inl (cA, 400, .inl (upd g z.toInt.toNat (y &&& (Int16.ofInt 255).toInt32)))) = u at hh1 hT1 hL1
      have eu : u a9 = f a9 := by
        rw [← hu, va_up_ne _ _ hne]
      have e1u : u a9 = .inr (8, fs) := by rw [eu]; exact e1
      refine rv_run hC.1 hC.2.1 (T := rv_t_X9_add) rv_k_X9_add 2 ?_
      refine rm_get (idx := 25) hC hh1 (by decide +kernel) rfl hL0 e1u hv ?_
      have e4 := rm_ad (x := z) rfl rm_e1 (by omega) (by decide)
      refine rv_run hC.1 hC.2.1 (T := rv_t_X9_add) rv_k_X9_add 2 ?_
      refine rm_putf (idx := 25) (i := 1) (w := 0) hC hh1 (by decide +kernel) rfl hL0 e1u (by omega) (Or.inl ⟨rfl, _, rfl⟩) (fun H2 locs2 hh2 => ?_)
      obtain ⟨hT2, hL2, hz2⟩ := rc_tset hT1 hG e1u e2 (y := z + Int32.ofInt 1) (by rw [e4]; omega) (by rw [e4]; omega)
      have e5 : (sh + Int32.ofInt (-8)).toInt = sh.toInt + -8 := rk_add_e (by show _ ≤ sh.toInt + -8; omega) (by show sh.toInt + -8 ≤ _; omega)
      refine rv_run hC.1 hC.2.1 (T := rv_t_X9_add) rv_k_X9_add 2 ?_
      exact ih _ _ H2 locs2 hh2 hT2 (rc_lv_tr (k := 3) (rc_lv_tr (k := 3) hLt hL1 rfl rfl) hL2 rfl rfl) (fun a ha => by
        rw [va_up_ne _ _ (fun h9 => by rw [h9, hG] at ha; cases ha), ← hu, va_up_ne _ _ (fun h9 => by rw [h9, hC9] at ha; cases ha)]
        exact hK a ha) (by omega) (by rw [hz2, e4]; omega) (by rw [e5]; omega)
  refine rv_run hC.1 hC.2.1 (T := rv_t_X9_add) rv_k_X9_add 2 ?_
  exact loop 4 _ f0 _ _ hh hT (rc_lv_rf 3) (fun _ _ => rfl) (Nat.le_refl 4) (by omega) rfl
theorem rc_feed (a0 : Nat) (w1 w2 w3 w4 w5 : Int32) : rm_Met base l rk_K (rk_E ad) (rk_tys cI c1 c2 c3 c4 c5) D (rk_NU base ad adV) rk_q_X11_feed [.ref a0, .int w1, .int w2, .int w3, .int w4, .int w5] (fun G _ _ f => (fun G _ => G a0 = some 11) G f) (fun G X L f0 => fun v u => (fun G f v u => ∃ (aT : Nat) (x : Int32), G aT = some 9 ∧ v = some (.int x) ∧ ((x.toInt = -1 ∧ 380 < rm_fi f aT 1 ∧ rm_fi u aT 1 = rm_fi f aT 1) ∨ (rm_fi f aT 1 ≤ 380 ∧ x.toInt = rm_fi f aT 1 + 20 ∧ rm_fi u aT 1 = rm_fi f aT 1 + 20))) G f0 v u ∧ rm_TY cI c1 c2 c3 c4 c5 ad G (X + 0) L u ∧ rc_Lv G 3 f0 u) 0 := by
  refine rm_start (M := rk_q_X11_feed) (rk_hNw base ad adV) (rk_hNc base ad adV) (by decide +kernel) (mt := rk_mt [rk_q_X9_add]) (ml := rk_mlf [(100, 0, 2, 9)]) (fl := rk_flf rk_ftX11) (fun s args h hN => rk_MlOk_of (List.forall_mem_cons.mpr ⟨rk_mck_ok (fun w hw => List.mem_cons_of_mem _ hw) h hN rk_cm_X9_add rk_lk_X11_100, fun _ h => absurd h List.not_mem_nil⟩) (by decide +kernel)) (fun s args h hN => rk_flX11 (fun w hw => List.mem_cons_of_mem _ hw) h hN) (rm_cat1 rfl) (Nat.le_of_ble_eq_true rfl) ?_
  intro p e st m below meth c G X L f0 A hC hh hX0 hXC hT hpre
  have hcs : 0 ≤ 0 ∧ 0 ≤ 0 := ⟨Nat.le_refl 0, Nat.le_refl 0⟩
  have hG : G a0 = some 11 := hpre
  obtain ⟨aT, ⟨hL0, fs, e1, hv1⟩, hT9⟩ := rc_tape hT hG
  obtain ⟨hLT, ft, z, t1, t2, tv, tz, tz1, tz2⟩ := rc_tlen hT hT9
  rw [Int.add_zero] at hXC
  refine rv_run hC.1 hC.2.1 (T := rv_t_X11_feed) rv_k_X11_feed 1 ?_
  refine rm_get (idx := 19) hC hh (by decide +kernel) rfl hL0 e1 hv1 ?_
  refine rm_get (idx := 97) hC hh (by decide +kernel) rfl hLT t1 tv ?_
  have e20 : (z + (Int8.ofInt 20).toInt32).toInt = z.toInt + 20 := rk_add_e (by show _ ≤ z.toInt + 20; omega) (by show z.toInt + 20 ≤ _; omega)
  refine rv_run hC.1 hC.2.1 (T := rv_t_X11_feed) rv_k_X11_feed 4 ?_
  refine ⟨fun h => ?_, fun h => ?_⟩
  · have h : (z + (Int8.ofInt 20).toInt32).toInt ≤ 400 := h
    rw [e20] at h
    have st9 : ∀ (w : Int32) (j : Int) (pc : Nat) (f : Nat → va_E) (H : Heap) (locs : List Loc) (lo : List (Nat × Value)), rm_h D A st L f H locs → rm_TY cI c1 c2 c3 c4 c5 ad G X L f → rc_Lv G 3 f0 f → rm_fi f aT 1 = z.toInt + j → 0 ≤ j → j ≤ 16 → decode rk_q_X11_feed.2.1 pc = .ok (.invokevirtual 100, 3) → (∀ (u : Nat → va_E) (H : Heap) (locs : List Loc), rm_h D A st L u H locs → rm_TY cI c1 c2 c3 c4 c5 ad G X L u → rc_Lv G 3 f0 u → rm_fi u aT 1 = z.toInt + j + 4 → u a0 = .inr (10, fs) → rv_G p l e { frames := rk_q_X11_feed.2.2.2.2.1, cells := 0, slots := 0, locals := rk_q_X11_feed.2.2.2.2.2 } st m ([.ref a0, .int w1, .int w2, .int w3, .int w4, .int w5] : List Value).toArray below meth c (MQ below (rk_Q (fun v u => (fun G f v u => ∃ (aT : Nat) (x : Int32), G aT = some 9 ∧ v = some (.int x) ∧ ((x.toInt = -1 ∧ 380 < rm_fi f aT 1 ∧ rm_fi u aT 1 = rm_fi f aT 1) ∨ (rm_fi f aT 1 ≤ 380 ∧ x.toInt = rm_fi f aT 1 + 20 ∧ rm_fi u aT 1 = rm_fi f aT 1 + 20))) G f0 v u ∧ rm_TY cI c1 c2 c3 c4 c5 ad G (X + 0) L u ∧ rc_Lv G 3 f0 u) (rk_B D (rk_tys cI c1 c2 c3 c4 c5) L A) A) ([.ref a0, .int w1, .int w2, .int w3, .int w4, .int w5] : List Value).toArray st 0 0 A) rk_q_X11_feed.2.2.1 0 0 H locs (pc + 3) [] lo) → f a0 = .inr (10, fs) → rv_G p l e { frames := rk_q_X11_feed.2.2.2.2.1, cells := 0, slots := 0, locals := rk_q_X11_feed.2.2.2.2.2 } st m ([.ref a0, .int w1, .int w2, .int w3, .int w4, .int w5] : List Value).toArray below meth c (MQ below (rk_Q (fun v u => (fun G f v u => ∃ (aT : Nat) (x : Int32), G aT = some 9 ∧ v = some (.int x) ∧ ((x.toInt = -1 ∧ 380 < rm_fi f aT 1 ∧ rm_fi u aT 1 = rm_fi f aT 1) ∨ (rm_fi f aT 1 ≤ 380 ∧ x.toInt = rm_fi f aT 1 + 20 ∧ rm_fi u aT 1 = rm_fi f aT 1 + 20))) G f0 v u ∧ rm_TY cI c1 c2 c3 c4 c5 ad G (X + 0) L u ∧ rc_Lv G 3 f0 u) (rk_B D (rk_tys cI c1 c2 c3 c4 c5) L A) A) ([.ref a0, .int w1, .int w2, .int w3, .int w4, .int w5] : List Value).toArray st 0 0 A) rk_q_X11_feed.2.2.1 0 0 H locs pc [.int w, .ref aT] lo := by
      intro w j pc f H locs lo hh hT hLt hf hj0 hj hd kk e1
      obtain ⟨hLT, ft, y, t1, -⟩ := rc_tlen hT hT9
      refine rm_callV (idx := 100) (z := 0) (n := 2) (ci := 8) (as := [.int w]) (rest := []) hC hh hd rfl hLT t1 (rc_add base l cI c1 c2 c3 c4 c5 D ad adV aT w) hX0 (by rw [Int.add_zero]; exact hXC) hT ⟨hT9, by omega⟩ rfl rfl (Nat.le_of_ble_eq_true rfl) hcs (fun v u H1 locs1 hP hh1 => ?_)
      obtain ⟨⟨rfl, hu, hk⟩, hT1, hL1⟩ := hP
      rw [Int.add_zero] at hT1
      exact kk u H1 locs1 hh1 hT1 (rc_lv_tr (k := 3) hLt hL1 rfl rfl) (by omega) (by rw [hk a0 hG]; exact e1)
    have all : ∀ (f : Nat → va_E) (H : Heap) (locs : List Loc), rm_h D A st L f H locs → rm_TY cI c1 c2 c3 c4 c5 ad G X L f → rc_Lv G 3 f0 f → rm_fi f aT 1 = z.toInt → f a0 = .inr (10, fs) → rv_G p l e { frames := rk_q_X11_feed.2.2.2.2.1, cells := 0, slots := 0, locals := rk_q_X11_feed.2.2.2.2.2 } st m ([.ref a0, .int w1, .int w2, .int w3, .int w4, .int w5] : List Value).toArray below meth c (MQ below (rk_Q (fun v u => (fun G f v u => ∃ (aT : Nat) (x : Int32), G aT = some 9 ∧ v = some (.int x) ∧ ((x.toInt = -1 ∧ 380 < rm_fi f aT 1 ∧ rm_fi u aT 1 = rm_fi f aT 1) ∨ (rm_fi f aT 1 ≤ 380 ∧ x.toInt = rm_fi f aT 1 + 20 ∧ rm_fi u aT 1 = rm_fi f aT 1 + 20))) G f0 v u ∧ rm_TY cI c1 c2 c3 c4 c5 ad G (X + 0) L u ∧ rc_Lv G 3 f0 u) (rk_B D (rk_tys cI c1 c2 c3 c4 c5) L A) A) ([.ref a0, .int w1, .int w2, .int w3, .int w4, .int w5] : List Value).toArray st 0 0 A) rk_q_X11_feed.2.2.1 0 0 H locs 18 [] [(0, .ref a0), (1, .int w1), (2, .int w2), (3, .int w3), (4, .int w4), (5, .int w5)] := by
      intro f H locs hh hT hLt hf e1
      refine rv_run hC.1 hC.2.1 (T := rv_t_X11_feed) rv_k_X11_feed 1 ?_
      refine rm_get (idx := 19) hC hh (by decide +kernel) rfl hL0 e1 hv1 ?_
      refine rv_run hC.1 hC.2.1 (T := rv_t_X11_feed) rv_k_X11_feed 1 ?_
      refine st9 w1 0 23 f H locs _ hh hT hLt (by omega) (by decide) (by decide) (by decide +kernel) (fun f H locs hh hT hLt hf e1 => ?_) e1
      refine rv_run hC.1 hC.2.1 (T := rv_t_X11_feed) rv_k_X11_feed 1 ?_
      refine rm_get (idx := 19) hC hh (by decide +kernel) rfl hL0 e1 hv1 ?_
      refine rv_run hC.1 hC.2.1 (T := rv_t_X11_feed) rv_k_X11_feed 1 ?_
      refine st9 w2 4 31 f H locs _ hh hT hLt (by omega) (by decide) (by decide) (by decide +kernel) (fun f H locs hh hT hLt hf e1 => ?_) e1
      refine rv_run hC.1 hC.2.1 (T := rv_t_X11_feed) rv_k_X11_feed 1 ?_
      refine rm_get (idx := 19) hC hh (by decide +kernel) rfl hL0 e1 hv1 ?_
      refine rv_run hC.1 hC.2.1 (T := rv_t_X11_feed) rv_k_X11_feed 1 ?_
      refine st9 w3 8 39 f H locs _ hh hT hLt (by omega) (by decide) (by decide) (by decide +kernel) (fun f H locs hh hT hLt hf e1 => ?_) e1
      refine rv_run hC.1 hC.2.1 (T := rv_t_X11_feed) rv_k_X11_feed 1 ?_
      refine rm_get (idx := 19) hC hh (by decide +kernel) rfl hL0 e1 hv1 ?_
      refine rv_run hC.1 hC.2.1 (T := rv_t_X11_feed) rv_k_X11_feed 1 ?_
      refine st9 w4 12 48 f H locs _ hh hT hLt (by omega) (by decide) (by decide) (by decide +kernel) (fun f H locs hh hT hLt hf e1 => ?_) e1
      refine rv_run hC.1 hC.2.1 (T := rv_t_X11_feed) rv_k_X11_feed 1 ?_
      refine rm_get (idx := 19) hC hh (by decide +kernel) rfl hL0 e1 hv1 ?_
      refine rv_run hC.1 hC.2.1 (T := rv_t_X11_feed) rv_k_X11_feed 1 ?_
      refine st9 w5 16 57 f H locs _ hh hT hLt (by omega) (by decide) (by decide) (by decide +kernel) (fun f H locs hh hT hLt hf e1 => ?_) e1
      obtain ⟨hLT, ft, y, t1, t2, tv, ty, ty1, ty2⟩ := rc_tlen hT hT9
      refine rv_run hC.1 hC.2.1 (T := rv_t_X11_feed) rv_k_X11_feed 1 ?_
      refine rm_get (idx := 19) hC hh (by decide +kernel) rfl hL0 e1 hv1 ?_
      refine rm_get (idx := 97) hC hh (by decide +kernel) rfl hLT t1 tv ?_
      exact rm_iret hC hh (by decide +kernel) rfl ⟨⟨aT, _, hT9, rfl, Or.inr ⟨by omega, by omega, by omega⟩⟩, by rw [Int.add_zero]; exact hT, hLt⟩
    exact all f0 _ _ hh hT (rc_lv_rf 3) (by omega) e1
  · have h : ¬ (z + (Int8.ofInt 20).toInt32).toInt ≤ 400 := by
      first | exact h | exact Int.not_le.mpr h
    rw [e20] at h
    refine rv_run hC.1 hC.2.1 (T := rv_t_X11_feed) rv_k_X11_feed 1 ?_
    exact rm_iret hC hh (by decide +kernel) rfl ⟨⟨aT, _, hT9, rfl, Or.inl ⟨rfl, by omega, rfl⟩⟩, by rw [Int.add_zero]; exact hT, rc_lv_rf 3⟩
theorem rc_end (a0 : Nat) (n : Int32) : rm_Met base l rk_K (rk_E ad) (rk_tys cI c1 c2 c3 c4 c5) D (rk_NU base ad adV) rk_q_X11_end [.ref a0, .int n] (fun G _ _ f => (fun G _ => G a0 = some 11) G f) (fun G X L f0 => fun v u => (fun G f v u => ∃ (aT : Nat) (x : Int32), G aT = some 9 ∧ v = some (.int x) ∧ ((x.toInt = 0 ∧ (n.toInt < 0 ∨ rm_fi f aT 1 < n.toInt) ∧ rm_fi u aT 1 = rm_fi f aT 1) ∨ (x.toInt = 1 ∧ (0 ≤ n.toInt ∧ n.toInt ≤ rm_fi f aT 1) ∧ rm_fi u aT 1 = n.toInt))) G f0 v u ∧ rm_TY cI c1 c2 c3 c4 c5 ad G (X + 0) L u ∧ rc_Lv G 3 f0 u) 0 := by
  refine rm_start (M := rk_q_X11_end) (rk_hNw base ad adV) (rk_hNc base ad adV) (by decide +kernel) (mt := rk_mt []) (ml := rk_mlf []) (fl := rk_flf rk_ftX11) (fun s args h hN => rk_MlOk_of (fun _ h => absurd h List.not_mem_nil) (by decide +kernel)) (fun s args h hN => rk_flX11 (fun w hw => List.mem_cons_of_mem _ hw) h hN) (rm_cat1 rfl) (Nat.le_of_ble_eq_true rfl) ?_
  intro p e st m below meth c G X L f0 A hC hh hX0 hXC hT hpre
  have hcs : 0 ≤ 0 ∧ 0 ≤ 0 := ⟨Nat.le_refl 0, Nat.le_refl 0⟩
  have hG : G a0 = some 11 := hpre
  obtain ⟨aT, ⟨hL0, fs, e1, hv1⟩, hT9⟩ := rc_tape hT hG
  obtain ⟨hLT, ft, z, t1, t2, tv, tz, tz1, tz2⟩ := rc_tlen hT hT9
  rw [Int.add_zero] at hXC
  have no : (n.toInt < 0 ∨ rm_fi f0 aT 1 < n.toInt) → rv_G p l e { frames := rk_q_X11_end.2.2.2.2.1, cells := 0, slots := 0, locals := rk_q_X11_end.2.2.2.2.2 } st m ([.ref a0, .int n] : List Value).toArray below meth c (MQ below (rk_Q (fun v u => (fun G f v u => ∃ (aT : Nat) (x : Int32), G aT = some 9 ∧ v = some (.int x) ∧ ((x.toInt = 0 ∧ (n.toInt < 0 ∨ rm_fi f aT 1 < n.toInt) ∧ rm_fi u aT 1 = rm_fi f aT 1) ∨ (x.toInt = 1 ∧ (0 ≤ n.toInt ∧ n.toInt ≤ rm_fi f aT 1) ∧ rm_fi u aT 1 = n.toInt))) G f0 v u ∧ rm_TY cI c1 c2 c3 c4 c5 ad G (X + 0) L u ∧ rc_Lv G 3 f0 u) (rk_B D (rk_tys cI c1 c2 c3 c4 c5) L A) A) ([.ref a0, .int n] : List Value).toArray st 0 0 A) rk_q_X11_end.2.2.1 0 0 st.heap [] 15 [] [(0, .ref a0), (1, .int n)] := by
    intro h
    refine rv_run hC.1 hC.2.1 (T := rv_t_X11_end) rv_k_X11_end 1 ?_
    exact rm_zret hC hh (by decide +kernel) rfl (Or.inl rfl) ⟨⟨aT, _, hT9, rfl, Or.inl ⟨rfl, h, rfl⟩⟩, by rw [Int.add_zero]; exact hT, rc_lv_rf 3⟩
  refine rv_run hC.1 hC.2.1 (T := rv_t_X11_end) rv_k_X11_end 2 ?_
  refine ⟨fun h => no (Or.inl h), fun h0 => ?_⟩
  have h0 : 0 ≤ n.toInt := h0
  refine rv_run hC.1 hC.2.1 (T := rv_t_X11_end) rv_k_X11_end 2 ?_
  refine rm_get (idx := 19) hC hh (by decide +kernel) rfl hL0 e1 hv1 ?_
  refine rm_get (idx := 97) hC hh (by decide +kernel) rfl hLT t1 tv ?_
  refine rv_run hC.1 hC.2.1 (T := rv_t_X11_end) rv_k_X11_end 1 ?_
  refine ⟨fun h => ?_, fun h => ?_⟩
  · have h : n.toInt ≤ z.toInt := h
    refine rv_run hC.1 hC.2.1 (T := rv_t_X11_end) rv_k_X11_end 1 ?_
    refine rm_get (idx := 19) hC hh (by decide +kernel) rfl hL0 e1 hv1 ?_
    refine rv_run hC.1 hC.2.1 (T := rv_t_X11_end) rv_k_X11_end 1 ?_
    refine rm_putf (idx := 97) (i := 1) (w := 0) hC hh (by decide +kernel) rfl hLT t1 (by omega) (Or.inl ⟨rfl, _, rfl⟩) (fun H2 locs2 hh2 => ?_)
    obtain ⟨hT2, hL2, hz2⟩ := rc_tset hT hT9 t1 t2 (y := n) h0 (by omega)
    refine rv_run hC.1 hC.2.1 (T := rv_t_X11_end) rv_k_X11_end 1 ?_
    exact rm_zret hC hh2 (by decide +kernel) rfl (Or.inr rfl) ⟨⟨aT, _, hT9, rfl, Or.inr ⟨rfl, ⟨h0, by omega⟩, hz2⟩⟩, by rw [Int.add_zero]; exact hT2, hL2⟩
  · have h : z.toInt < n.toInt := by
      first | exact h | exact Int.not_le.mp h
    exact no (Or.inr (by omega))
theorem rc_send (a0 : Nat) (n : Int32) : rm_Met base l rk_K (rk_E ad) (rk_tys cI c1 c2 c3 c4 c5) D (rk_NU base ad adV) rk_q_X11_send [.ref a0, .int n] (fun G _ _ f => (fun G _ => G a0 = some 11) G f) (fun G X L f0 => fun v u => (fun G f v u => ∃ (aT : Nat) (x : Int32), G aT = some 9 ∧ v = some (.int x) ∧ rm_fi u aT 1 = 0) G f0 v u ∧ rm_TY cI c1 c2 c3 c4 c5 ad G (X + 0) L u ∧ rc_Lv G 3 f0 u) 0 := by
  refine rm_start (M := rk_q_X11_send) (rk_hNw base ad adV) (rk_hNc base ad adV) (by decide +kernel) (mt := rk_mt []) (ml := rk_mlf []) (fl := rk_flf rk_ftX11) (fun s args h hN => rk_MlOk_of (fun _ h => absurd h List.not_mem_nil) (by decide +kernel)) (fun s args h hN => rk_flX11 (fun w hw => List.mem_cons_of_mem _ hw) h hN) (rm_cat1 rfl) (Nat.le_of_ble_eq_true rfl) ?_
  intro p e st m below meth c G X L f0 A hC hh hX0 hXC hT hpre
  have hcs : 0 ≤ 0 ∧ 0 ≤ 0 := ⟨Nat.le_refl 0, Nat.le_refl 0⟩
  have hG : G a0 = some 11 := hpre
  obtain ⟨aT, ⟨hL0, fs, e1, hv1⟩, hT9⟩ := rc_tape hT hG
  obtain ⟨hLT, ft, z, t1, t2, tv, tz, tz1, tz2⟩ := rc_tlen hT hT9
  rw [Int.add_zero] at hXC
  refine rv_run hC.1 hC.2.1 (T := rv_t_X11_send) rv_k_X11_send 1 ?_
  refine rm_get (idx := 19) hC hh (by decide +kernel) rfl hL0 e1 hv1 ?_
  refine rm_get (idx := 97) hC hh (by decide +kernel) rfl hLT t1 tv ?_
  refine rv_run hC.1 hC.2.1 (T := rv_t_X11_send) rv_k_X11_send 2 ?_
  refine rm_get (idx := 19) hC hh (by decide +kernel) rfl hL0 e1 hv1 ?_
  refine rv_run hC.1 hC.2.1 (T := rv_t_X11_send) rv_k_X11_send 1 ?_
  refine rm_putf (idx := 97) (i := 1) (w := 0) hC hh (by decide +kernel) rfl hLT t1 (by omega) (Or.inl ⟨rfl, _, rfl⟩) (fun H2 locs2 hh2 => ?_)
  obtain ⟨hT2, hL2, hz2⟩ := rc_tset hT hT9 t1 t2 (y := Int32.ofInt 0) (by decide) (by decide)
  refine m_send_16 base l cI c1 c2 c3 c4 c5 D ad adV hC ⟨by decide, by decide⟩ hX0 (by rw [Int.add_zero]; exact hXC) hT2 hh2 (fun v u hA hT3 hL3 => ?_) (fun i => if i = 0 then .ref a0 else if i = 1 then .int n else .int z) (fun i ty hi _ => ?_) (fun i ty hi => ?_)
  · obtain ⟨w, rfl⟩ := rk_alt_i hA rfl
    exact ⟨⟨aT, w, hT9, rfl, by rw [rc_fi_k hL3 rfl hT9, hz2]; rfl⟩, hT3, rc_lv_tr (k := 3) hL2 hL3 rfl rfl⟩
  · rcases i with _ | _ | _ | i
    · exact List.mem_of_getElem? (i := 0) rfl
    · exact List.mem_of_getElem? (i := 1) rfl
    · exact List.mem_of_getElem? (i := 2) rfl
    · cases hi
  · rcases i with _ | _ | _ | i
    · cases hi
      exact ⟨a0, rfl, hG⟩
    · cases hi
      exact rk_full_ok n
    · cases hi
      exact ⟨z, rfl, tz1, tz2⟩
    · cases hi
theorem rc_text (a0 : Nat) : rm_Met base l rk_K (rk_E ad) (rk_tys cI c1 c2 c3 c4 c5) D (rk_NU base ad adV) rk_q_X11_text [.ref a0] (fun G _ _ f => (fun G _ => G a0 = some 11) G f) (fun G X L f0 => fun v u => (fun G f v u => ∃ (aT : Nat) (x : Int32), G aT = some 9 ∧ v = some (.int x) ∧ rm_fi u aT 1 = 0) G f0 v u ∧ rm_TY cI c1 c2 c3 c4 c5 ad G (X + 80) L u ∧ rc_Lv G 3 f0 u) 80 := by
  refine rm_start (M := rk_q_X11_text) (rk_hNw base ad adV) (rk_hNc base ad adV) (by decide +kernel) (mt := rk_mt [rk_q_X9_read, rk_q_X11_layAllTold]) (ml := rk_mlf [(117, 0, 2, 9), (121, 1, 1, 11)]) (fl := rk_flf rk_ftX11) (fun s args h hN => rk_MlOk_of (List.forall_mem_cons.mpr ⟨rk_mck_ok (fun w hw => List.mem_cons_of_mem _ hw) h hN rk_cm_X9_read rk_lk_X11_117, List.forall_mem_cons.mpr ⟨rk_mck_ok (fun w hw => List.mem_cons_of_mem _ hw) h hN rk_cm_X11_layAllTold rk_lk_X11_121, fun _ h => absurd h List.not_mem_nil⟩⟩) (by decide +kernel)) (fun s args h hN => rk_flX11 (fun w hw => List.mem_cons_of_mem _ hw) h hN) (rm_cat1 rfl) (Nat.le_of_ble_eq_true rfl) ?_
  intro p e st m below meth c G X L f0 A hC hh hX0 hXC hT hpre
  have hcs : 0 ≤ 0 ∧ 0 ≤ 0 := ⟨Nat.le_refl 0, Nat.le_refl 0⟩
  have hG : G a0 = some 11 := hpre
  obtain ⟨aT, ⟨hL0, fs, e1, hv1⟩, hT9⟩ := rc_tape hT hG
  obtain ⟨hLT, ft, z, t1, t2, tv, tz, tz1, tz2⟩ := rc_tlen hT hT9
  have hXt : X + 80 ≤ 2000000000 := hXC
  obtain ⟨-, fs9, k1, k2, k3⟩ := rc_me hT hG rfl
  rw [e1] at k1
  cases k1
  have k2 : fs.length = 4 := k2
  have hv0 : fs[0]? = some fs[0] := List.getElem?_eq_getElem (by omega)
  obtain ⟨aW, eW, hW⟩ := (k3 0 (2, 10, 0) _ rfl hv0 : rk_has G X (2, 10, 0) _)
  rw [eW] at hv0
  refine rv_run hC.1 hC.2.1 (T := rv_t_X11_text) rv_k_X11_text 1 ?_
  refine rm_get (idx := 19) hC hh (by decide +kernel) rfl hL0 e1 hv1 ?_
  refine rv_run hC.1 hC.2.1 (T := rv_t_X11_text) rv_k_X11_text 1 ?_
  refine rm_get (idx := 12) hC hh (by decide +kernel) rfl hL0 e1 hv0 ?_
  refine rm_callV (idx := 117) (z := 0) (n := 2) (ci := 8) (as := [.ref aW]) (rest := []) hC hh (by decide +kernel) rfl hLT t1 (rm_of (c_X9_read base l cI c1 c2 c3 c4 c5 D ad adV) [.ref aT, .ref aW]) hX0 (by show _ ≤ (2000000000 : Int); omega) hT ⟨rk_all_c ⟨aT, rfl, hT9⟩ (rk_all_c ⟨aW, rfl, hW⟩ rk_all_0), trivial⟩ rfl rfl (Nat.le_of_ble_eq_true rfl) hcs (fun v u H1 locs1 hP hh1 => ?_)
  obtain ⟨hA, hT1, hL1⟩ := hP
  obtain ⟨w, rfl⟩ := rk_alt_i hA rfl
  clear hA
  rw [Int.add_zero] at hT1
  obtain ⟨bT, ⟨hL0', fs', e1', hv1'⟩, hT9'⟩ := rc_tape hT1 hG
  obtain ⟨hLT', ft', z', t1', t2', -⟩ := rc_tlen hT1 hT9'
  refine rv_run hC.1 hC.2.1 (T := rv_t_X11_text) rv_k_X11_text 2 ?_
  refine rm_get (idx := 19) hC hh1 (by decide +kernel) rfl hL0' e1' hv1' ?_
  refine rv_run hC.1 hC.2.1 (T := rv_t_X11_text) rv_k_X11_text 1 ?_
  refine rm_putf (idx := 97) (i := 1) (w := 0) hC hh1 (by decide +kernel) rfl hLT' t1' (by omega) (Or.inl ⟨rfl, _, rfl⟩) (fun H2 locs2 hh2 => ?_)
  obtain ⟨hT2, hL2, hz2⟩ := rc_tset hT1 hT9' t1' t2' (y := Int32.ofInt 0) (by decide) (by decide)
  refine rv_run hC.1 hC.2.1 (T := rv_t_X11_text) rv_k_X11_text 3 ?_
  refine ⟨fun _ => ?_, fun _ => ?_⟩
  · refine rv_run hC.1 hC.2.1 (T := rv_t_X11_text) rv_k_X11_text 1 ?_
    exact rm_iret hC hh2 (by decide +kernel) rfl ⟨⟨bT, w, hT9', rfl, by rw [hz2]; rfl⟩, rk_TY_X (by omega) hT2, rc_lv_tr (k := 3) hL1 hL2 rfl rfl⟩
  · obtain ⟨hLa, fa, ea, -, -⟩ := rc_me hT2 hG rfl
    refine rv_run hC.1 hC.2.1 (T := rv_t_X11_text) rv_k_X11_text 1 ?_
    refine rm_callV (idx := 121) (z := 1) (n := 1) (ci := 10) (as := []) (rest := []) hC hh2 (by decide +kernel) rfl hLa ea (rm_of (c_X11_layAllTold base l cI c1 c2 c3 c4 c5 D ad adV) [.ref a0]) hX0 (by show _ ≤ (2000000000 : Int); omega) hT2 ⟨rk_all_c ⟨a0, rfl, hG⟩ rk_all_0, trivial⟩ rfl rfl (Nat.le_of_ble_eq_true rfl) hcs (fun v u3 H3 locs3 hP hh3 => ?_)
    obtain ⟨hA, hT3, hL3⟩ := hP
    cases rk_alt_vn hA
    refine rv_run hC.1 hC.2.1 (T := rv_t_X11_text) rv_k_X11_text 1 ?_
    exact rm_iret hC hh3 (by decide +kernel) rfl ⟨⟨bT, w, hT9', rfl, by rw [rc_fi_k hL3 rfl hT9', hz2]; rfl⟩, hT3, rc_lv_tr (k := 3) (rc_lv_tr (k := 3) hL1 hL2 rfl rfl) hL3 rfl rfl⟩
end RMX
