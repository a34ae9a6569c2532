/-! what both worlds say alike: the tape's length, whether an image was taken -/
def rl_R (ax am : Nat) (Gc : Nat → Option Nat) (fc fm : Nat → va_E) : Prop := (∀ a b, Gc a = some 9 → Gc b = some 9 → a = b) ∧ (∀ t, Gc t = some 9 → rm_fi fc t 1 = rm_fi fm am 4) ∧ (rk_fld (fc ax) 2 = some .null ↔ rm_fi fm am 11 = 0)
section RLR
variable {ax am : Nat} {Gm Gc Gd : Nat → Option Nat} {fc fm u w : Nat → va_E} {lv lw : Nat}
theorem rl_Rc (h : rl_R ax am Gc fc fm) (hG : Gc ax = some 11) (hL : rc_Lv Gc lv fc u) (b1 : Nat.testBit lv 1 = false) (b4 : Nat.testBit lv 4 = false) : rl_R ax am Gc u fm :=
  ⟨h.1, fun t ht => (rc_fi_k hL b1 ht).trans (h.2.1 t ht), by rw [← (hL 4 (by decide) b4 : rc_Rb 4 Gc fc u) ax hG]; exact h.2.2⟩
theorem rl_Rm (h : rl_R ax am Gc fc fm) (hG : Gm am = some 12) (hL : rm_Lv Gm lv fm u) (b4 : Nat.testBit lv 4 = false) (b7 : Nat.testBit lv 7 = false) : rl_R ax am Gc fc u :=
  ⟨h.1, fun t ht => by rw [rm_fi_k hL b4 hG]; exact h.2.1 t ht, by rw [rm_fi_i hL b7 hG]; exact h.2.2⟩
theorem rl_Rg (h : rl_R ax am Gc fc fm) (hG : Gc ax = some 11) (hGG : rg_ext Gc Gd) (hL : rc_Lv Gc lv fc u) (b1 : Nat.testBit lv 1 = false) (b4 : Nat.testBit lv 4 = false) : rl_R ax am Gd u fm := by
  obtain ⟨r1, r2, r3⟩ := rl_Rc h hG hL b1 b4
  exact ⟨fun a b ha hb => r1 a b (hGG.2.2 a ha) (hGG.2.2 b hb), fun t ht => r2 t (hGG.2.2 t ht), r3⟩
theorem rl_Rt (h : rl_R ax am Gc fc fm) (hGc : Gc ax = some 11) (hGm : Gm am = some 12) (hLc : rc_Lv Gc 3 fc u) (hLm : rm_Lv Gm lw fm w) (b7 : Nat.testBit lw 7 = false) (aT : Nat) (hT : Gc aT = some 9) (he : rm_fi u aT 1 = rm_fi w am 4) : rl_R ax am Gc u w :=
  ⟨h.1, fun t ht => by rw [h.1 t aT ht hT]; exact he, by rw [← (hLc 4 (by decide) rfl : rc_Rb 4 Gc fc u) ax hGc, rm_fi_i hLm b7 hGm]; exact h.2.2⟩
theorem rl_Ri (h : rl_R ax am Gc fc fm) (hGm : Gm am = some 12) (hGG : rg_ext Gc Gd) (hLc : rc_Lv Gc 29 fc u) (hLm : rm_Lv Gm 487 fm w) {b x y : Int32} (hc : (b.toInt = 0 ∧ rk_fld (fc ax) 2 = some .null ∧ x.toInt = 0 ∧ rk_fld (u ax) 2 = some .null) ∨ (x.toInt = 1 ∧ rk_fld (u ax) 2 ≠ some .null ∧ (¬ b.toInt = 0 ∨ rk_fld (fc ax) 2 ≠ some .null))) (hm : (b.toInt = 0 ∧ rm_fi fm am 11 = 0 ∧ y.toInt = 0 ∧ rm_fi w am 11 = 0) ∨ (y.toInt = 1 ∧ rm_fi w am 11 = 1 ∧ (¬ b.toInt = 0 ∨ ¬ rm_fi fm am 11 = 0))) : rl_R ax am Gd u w ∧ x.toInt = y.toInt := by
  obtain ⟨r1, r2, r3⟩ := h
  have g1 : ∀ a b, Gd a = some 9 → Gd b = some 9 → a = b := fun a b ha hb => r1 a b (hGG.2.2 a ha) (hGG.2.2 b hb)
  have g2 : ∀ t, Gd t = some 9 → rm_fi u t 1 = rm_fi w am 4 := fun t ht => by
    rw [rc_fi_k hLc rfl (hGG.2.2 t ht), rm_fi_k hLm rfl hGm]
    exact r2 t (hGG.2.2 t ht)
  rcases hc with ⟨c1, c2, c3, c4⟩ | ⟨c1, c2, c3⟩
  · rcases hm with ⟨m1, m2, m3, m4⟩ | ⟨m1, m2, m3⟩
    · exact ⟨⟨g1, g2, ⟨fun _ => m4, fun _ => c4⟩⟩, by omega⟩
    · rcases m3 with m3 | m3
      · exact absurd c1 m3
      · exact absurd (r3.mp c2) m3
  · rcases hm with ⟨m1, m2, m3, m4⟩ | ⟨m1, m2, m3⟩
    · rcases c3 with c3 | c3
      · exact absurd m1 c3
      · exact absurd (r3.mpr m2) c3
    · exact ⟨⟨g1, g2, ⟨fun h9 => absurd h9 c2, fun h9 => by omega⟩⟩, by omega⟩
end RLR
section RLX
variable {p : Program} {l : Launch} {e : Env} {s : State} {m : MethodId} {below : List Frame} {meth : Method} {c : Code} {b0 N : Nat} {xs : Nat → Int32} {cI c1 c2 c3 c4 c5 : ClassId} {D : va_G} {ad adV : Nat → Nat} {cells slots : Nat} {H : Heap} {locs : List Loc}
variable {ax am : Nat} {Gm Gc : Nat → Option Nat} {Lm Lc : List Nat} {Xc Xm : Int} {fc fm : Nat → va_E}
theorem rl_callCx (hC : rl_Cx cI c1 c2 c3 c4 c5 D ad adV p s m meth c b0 N xs) {M : rk_Mt} {idx n pc : Nat} {as : List Value} {Pre : (Nat → Option Nat) → (Nat → va_E) → Prop} {Pst : (Nat → Option Nat) → (Nat → va_E) → Option Value → (Nat → va_E) → Prop} {C : Int} {lv : Nat} (hSt : rl_S cI c1 c2 c3 c4 c5 D ad s ax am Gm Lm Xc Xm Gc Lc fc fm H locs) (hM : rm_Met s.heap.size l rk_K (rk_E ad) (rk_tys cI c1 c2 c3 c4 c5) D (rk_NU s.heap.size ad adV) M (.ref ax :: as) (fun G _ _ f => Pre G f) (fun G X L f0 => fun v u => Pst G f0 v u ∧ rm_TY cI c1 c2 c3 c4 c5 ad G (X + C) L u ∧ rc_Lv G lv f0 u) C) (hcM : M.1.cls = RX11) (hX : 0 ≤ Xc) (hXC : Xc + C ≤ rk_top) (hpre : Pre Gc fc)
    (hlk : rj_lk R_law idx M room_1 n) (hin : Jvm.Cond.instanceMethod M.1 ∈ rk_tbl) (hse : Jvm.Cond.selects M.1.cls M.1 M.1 ∈ rk_tbl) (d : decode code pc = .ok (.invokevirtual idx, 3)) (hn : as.length = n) {sk rest : List Value} (hsk : sk = as.reverse ++ .ref ax :: rest) (hcat : rm_cat rest) (hcs : cells ≤ room_1.cells ∧ slots ≤ room_1.slots) {lo : List (Nat × Value)}
    (kk : ∀ (v : Option Value) (u : Nat → va_E) (H1 : Heap) (locs1 : List Loc), Pst Gc fc v u → rc_Lv Gc lv fc u → rl_S cI c1 c2 c3 c4 c5 D ad s ax am Gm Lm (Xc + C) Xm Gc Lc u fm H1 locs1 → rv_G p l e room_1 s m #[Value.ref b0] below meth c (lw_Z below #[Value.ref b0] s) 4 cells slots H1 locs1 (pc + 3) (v.toList ++ rest) lo) : rv_G p l e room_1 s m #[Value.ref b0] below meth c (lw_Z below #[Value.ref b0] s) 4 cells slots H locs pc sk lo := by
  obtain ⟨hPc, hDc, hPm, hDm, hS, hdis, hTc, hTm, hGx, hUx, hGm, hPI⟩ := hSt
  obtain ⟨hL0, fs, e1, -⟩ := rc_me hTc hGx rfl
  have hb9 : ∀ a ∈ Lc, s.heap.size ≤ a := va_D_A hDc
  refine rl_call (cap := (0, 0)) hC hPc hDc hS hL0 e1 ⟨_, rfl, by rw [hcM]⟩ (hM Gc Xc Lc fc H.size hX hXC hTc hpre hb9 hS.1) hlk hin hse d hn hsk hcat hcs ?_
  intro v t H1 locs1 ht hbd hz hk hS1
  obtain ⟨v', u, hoc, ⟨hA, hT1, hL1⟩, hP1, -, hD1⟩ := hbd
  cases hoc
  rw [ht] at hP1
  exact kk v u H1 locs1 hA hL1 ⟨hP1, hD1.weaken (fun k q _ h9 => rl_wk (fy := fc) hDc hS q.1 h9), rl_keep hPm (fun a ha h9 => hdis a h9 ha) hk, hDm, hS1, hdis, hT1, hTm, hGx, hUx, hGm, hPI⟩
theorem rl_callMx (hC : rl_Cx cI c1 c2 c3 c4 c5 D ad adV p s m meth c b0 N xs) {M : rk_Mt} {idx n pc : Nat} {as : List Value} {Pre : (Nat → Option Nat) → Int → (Nat → va_E) → Prop} {Post : (Nat → Option Nat) → Int → (Nat → va_E) → Option Value → (Nat → va_E) → Prop} {C : Int} {lv : Nat} (hSt : rl_S cI c1 c2 c3 c4 c5 D ad s ax am Gm Lm Xc Xm Gc Lc fc fm H locs) (hM : rm_Hm s.heap.size l cI c1 c2 c3 c4 c5 D ad adV M (.ref am :: as) Pre Post C lv) (hlv : Nat.testBit lv 3 = false) (hcM : M.1.cls = RX12) (hX : 0 ≤ Xm) (hXC : Xm + C ≤ rk_top) (hpre : Pre Gm Xm fm)
    (hlk : rj_lk R_law idx M room_1 n) (hin : Jvm.Cond.instanceMethod M.1 ∈ rk_tbl) (hse : Jvm.Cond.selects M.1.cls M.1 M.1 ∈ rk_tbl) (d : decode code pc = .ok (.invokevirtual idx, 3)) (hn : as.length = n) {sk rest : List Value} (hsk : sk = as.reverse ++ .ref am :: rest) (hcat : rm_cat rest) (hcs : cells ≤ room_1.cells ∧ slots ≤ room_1.slots) {lo : List (Nat × Value)}
    (kk : ∀ (v : Option Value) (u : Nat → va_E) (H1 : Heap) (locs1 : List Loc), Post Gm Xm fm v u → rm_Lv Gm lv fm u → rl_S cI c1 c2 c3 c4 c5 D ad s ax am Gm Lm Xc (Xm + C) Gc Lc fc u H1 locs1 → rv_G p l e room_1 s m #[Value.ref b0] below meth c (lw_Z below #[Value.ref b0] s) 4 cells slots H1 locs1 (pc + 3) (v.toList ++ rest) lo) : rv_G p l e room_1 s m #[Value.ref b0] below meth c (lw_Z below #[Value.ref b0] s) 4 cells slots H locs pc sk lo := by
  obtain ⟨hPc, hDc, hPm, hDm, hS, hdis, hTc, hTm, hGx, hUx, hGm, hPI⟩ := hSt
  obtain ⟨hL0, fs, e1, -⟩ := rc_me hTm hGm rfl
  have hb9 : ∀ a ∈ Lm, s.heap.size ≤ a := va_D_A hDm
  unfold rm_Hm at hM
  refine rl_call (cap := (0, 0)) hC hPm hDm hS hL0 e1 ⟨_, rfl, by rw [hcM]⟩ (hM Gm Xm Lm fm H.size hX hXC hTm hpre hb9 hS.1) hlk hin hse d hn hsk hcat hcs ?_
  intro v t H1 locs1 ht hbd hz hk hS1
  obtain ⟨v', u, hoc, ⟨hT1, hL1, hA⟩, hP1, -, hD1⟩ := hbd
  cases hoc
  rw [ht] at hP1
  exact kk v u H1 locs1 hA hL1 ⟨rl_keep hPc (fun a ha h9 => hdis a ha h9) hk, hDc, hP1, hD1.weaken (fun k q _ h9 => rl_wk (fy := fm) hDm hS q.1 h9), hS1, hdis, hTc, hT1, hGx, hUx, hGm, rm_PIok hlv _ _ _ hL1 hPI⟩
end RLX
