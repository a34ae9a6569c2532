/-! one place of the row now is set: what it is to the sockets -/
section RMS
variable {G : Nat → Option Nat} {f u : Nat → va_E} {a0 sn wn : Nat} {x : Int32}
theorem rm_sc_set (h : ∀ i, rm_now G u a0 i = if i = 64 * sn + wn then x else rm_now G f a0 i) (hw : wn < 64) {t w : Nat} (hw2 : w < 64) : rm_sc (rm_now G u a0) t w = if t = sn ∧ w = wn then x.toInt else rm_sc (rm_now G f a0) t w := by
  unfold rm_sc
  rw [h]
  by_cases h1 : t = sn ∧ w = wn
  · rw [if_pos h1, if_pos (by rw [h1.1, h1.2])]
  · rw [if_neg h1, if_neg (by omega)]
theorem rm_so_ne (h : ∀ i, rm_now G u a0 i = if i = 64 * sn + wn then x else rm_now G f a0 i) (hw : wn < 64) {t : Nat} (ht : t ≠ sn) {B S C T O : Int} (ho : rm_so G f a0 t B S C T O) : rm_so G u a0 t B S C T O := by
  unfold rm_so at ho ⊢
  rw [rm_sc_set h hw (by decide), rm_sc_set h hw (by decide), rm_sc_set h hw (by decide), rm_sc_set h hw (by decide), rm_sc_set h hw (by decide), if_neg (fun h => ht h.1), if_neg (fun h => ht h.1), if_neg (fun h => ht h.1), if_neg (fun h => ht h.1), if_neg (fun h => ht h.1)]
  exact ho
theorem rm_wi_set {J : Nat → Prop} (h : ∀ i, rm_now G u a0 i = if i = 64 * sn + wn then x else rm_now G f a0 i) (hw : wn < 64) (h8 : rm_AIE G f u) (hG : G a0 = some 12) (hJ : J sn) (hi : rm_wi J G f a0) : rm_wi J G u a0 := by
  obtain ⟨w1, w2, w3⟩ := hi
  refine ⟨fun s hs hj => rm_iS_eq (fun w hw9 => ?_) (w1 s hs hj), fun s hs => rm_iS_eq (fun w hw9 => ?_) (w2 s hs), fun s hs => rm_iS_eq (fun w hw9 => ?_) (w3 s hs)⟩
  · have hw64 : w < 64 := by
      unfold rm_RCw at hw9
      simp only [Bool.or_eq_true, Nat.beq_eq] at hw9
      omega
    rw [rm_sc_set h hw hw64, if_neg (fun h9 : s = sn ∧ w = wn => hj (by rw [h9.1]; exact hJ))]
  · unfold rm_sc rm_asd
    rw [h8.1 a0 hG _ rfl]
  · unfold rm_sc rm_img
    rw [h8.2 a0 hG _ rfl]
theorem rm_so_B (h : ∀ i, rm_now G u a0 i = if i = 64 * sn + 20 then x else rm_now G f a0 i) {B S C T O : Int} (ho : rm_so G f a0 sn B S C T O) : rm_so G u a0 sn x.toInt S C T O := by
  unfold rm_so at ho ⊢
  rw [rm_sc_set h (by decide) (by decide), rm_sc_set h (by decide) (by decide), rm_sc_set h (by decide) (by decide), rm_sc_set h (by decide) (by decide), rm_sc_set h (by decide) (by decide), if_pos ⟨rfl, rfl⟩, if_neg (fun h => absurd h.2 (by decide)), if_neg (fun h => absurd h.2 (by decide)), if_neg (fun h => absurd h.2 (by decide)), if_neg (fun h => absurd h.2 (by decide))]
  obtain ⟨o1, o2, o3, o4, o5⟩ := ho
  exact ⟨rfl, o2, o3, o4, o5⟩
theorem rm_so_S (h : ∀ i, rm_now G u a0 i = if i = 64 * sn + 6 then x else rm_now G f a0 i) {B S C T O : Int} (ho : rm_so G f a0 sn B S C T O) : rm_so G u a0 sn B x.toInt C T O := by
  unfold rm_so at ho ⊢
  rw [rm_sc_set h (by decide) (by decide), rm_sc_set h (by decide) (by decide), rm_sc_set h (by decide) (by decide), rm_sc_set h (by decide) (by decide), rm_sc_set h (by decide) (by decide), if_neg (fun h => absurd h.2 (by decide)), if_pos ⟨rfl, rfl⟩, if_neg (fun h => absurd h.2 (by decide)), if_neg (fun h => absurd h.2 (by decide)), if_neg (fun h => absurd h.2 (by decide))]
  obtain ⟨o1, o2, o3, o4, o5⟩ := ho
  exact ⟨o1, rfl, o3, o4, o5⟩
theorem rm_so_C (h : ∀ i, rm_now G u a0 i = if i = 64 * sn + 13 then x else rm_now G f a0 i) {B S C T O : Int} (ho : rm_so G f a0 sn B S C T O) : rm_so G u a0 sn B S x.toInt T O := by
  unfold rm_so at ho ⊢
  rw [rm_sc_set h (by decide) (by decide), rm_sc_set h (by decide) (by decide), rm_sc_set h (by decide) (by decide), rm_sc_set h (by decide) (by decide), rm_sc_set h (by decide) (by decide), if_neg (fun h => absurd h.2 (by decide)), if_neg (fun h => absurd h.2 (by decide)), if_pos ⟨rfl, rfl⟩, if_neg (fun h => absurd h.2 (by decide)), if_neg (fun h => absurd h.2 (by decide))]
  obtain ⟨o1, o2, o3, o4, o5⟩ := ho
  exact ⟨o1, o2, rfl, o4, o5⟩
theorem rm_so_T (h : ∀ i, rm_now G u a0 i = if i = 64 * sn + 3 then x else rm_now G f a0 i) {B S C T O : Int} (ho : rm_so G f a0 sn B S C T O) : rm_so G u a0 sn B S C x.toInt O := by
  unfold rm_so at ho ⊢
  rw [rm_sc_set h (by decide) (by decide), rm_sc_set h (by decide) (by decide), rm_sc_set h (by decide) (by decide), rm_sc_set h (by decide) (by decide), rm_sc_set h (by decide) (by decide), if_neg (fun h => absurd h.2 (by decide)), if_neg (fun h => absurd h.2 (by decide)), if_neg (fun h => absurd h.2 (by decide)), if_pos ⟨rfl, rfl⟩, if_neg (fun h => absurd h.2 (by decide))]
  obtain ⟨o1, o2, o3, o4, o5⟩ := ho
  exact ⟨o1, o2, o3, rfl, o5⟩
theorem rm_so_O (h : ∀ i, rm_now G u a0 i = if i = 64 * sn + 0 then x else rm_now G f a0 i) {B S C T O : Int} (ho : rm_so G f a0 sn B S C T O) : rm_so G u a0 sn B S C T x.toInt := by
  unfold rm_so at ho ⊢
  rw [rm_sc_set h (by decide) (by decide), rm_sc_set h (by decide) (by decide), rm_sc_set h (by decide) (by decide), rm_sc_set h (by decide) (by decide), rm_sc_set h (by decide) (by decide), if_neg (fun h => absurd h.2 (by decide)), if_neg (fun h => absurd h.2 (by decide)), if_neg (fun h => absurd h.2 (by decide)), if_neg (fun h => absurd h.2 (by decide)), if_pos ⟨rfl, rfl⟩]
  obtain ⟨o1, o2, o3, o4, o5⟩ := ho
  exact ⟨o1, o2, o3, o4, rfl⟩
end RMS
theorem rm_fin3 {G : Nat → Option Nat} {f u : Nat → va_E} (h : rm_Lv G 15 f u) (h2 : rm_Rb 2 G f u) : rm_Lv G 3 f u := by
  intro b hb ht
  by_cases hb2 : b = 2
  · subst hb2
    exact h2
  · by_cases hb3 : b = 3
    · subst hb3
      exact fun h1 a0 ha hi => (h2 h1 a0 ha hi).1
    · refine h b hb ?_
      have hb11 : b = 0 ∨ b = 1 ∨ b = 4 ∨ b = 5 ∨ b = 6 ∨ b = 7 ∨ b = 8 ∨ b = 9 ∨ b = 10 := by omega
      rcases hb11 with rfl | rfl | rfl | rfl | rfl | rfl | rfl | rfl | rfl
      · exact absurd ht (by decide)
      · exact absurd ht (by decide)
      all_goals rfl
theorem rm_fin7 {G : Nat → Option Nat} {f u : Nat → va_E} (h : rm_Lv G 15 f u) (h3 : rm_Rb 3 G f u) : rm_Lv G 7 f u := by
  intro b hb ht
  by_cases hb3 : b = 3
  · subst hb3
    exact h3
  · refine h b hb ?_
    have hb11 : b = 0 ∨ b = 1 ∨ b = 2 ∨ b = 4 ∨ b = 5 ∨ b = 6 ∨ b = 7 ∨ b = 8 ∨ b = 9 ∨ b = 10 := by omega
    rcases hb11 with rfl | rfl | rfl | rfl | rfl | rfl | rfl | rfl | rfl | rfl
    · exact absurd ht (by decide)
    · exact absurd ht (by decide)
    · exact absurd ht (by decide)
    all_goals rfl
/-- out of the one receiver -/
theorem rm_two {G : Nat → Option Nat} {f u : Nat → va_E} {a0 : Nat} (hG : G a0 = some 12) (h : rm_INV G f a0 → rm_INV G u a0 ∧ ∀ s, s < 40 → rm_phi (rm_now G u a0) s ≤ rm_phi (rm_now G f a0) s) : rm_Rb 2 G f u := fun h1 b hb hi => by
  have e := h1.1 a0 b hG hb
  subst e
  exact h hi
theorem rm_thr {G : Nat → Option Nat} {f u : Nat → va_E} {a0 : Nat} (hG : G a0 = some 12) (h : rm_INV G f a0 → rm_INV G u a0) : rm_Rb 3 G f u := fun h1 b hb hi => by
  have e := h1.1 a0 b hG hb
  subst e
  exact h hi
section RMC
variable {base : Nat} {cI c1 c2 c3 c4 c5 : ClassId} {D : va_G} {ad adV : Nat → Nat} {M : rk_Mt} {mt : Nat → rk_Mt} {ml : rk_Ml} {fl : rk_Fl}
variable {p : Program} {l : Launch} {e : Env} {R : Room} {st : State} {m : MethodId} {args : Array Value} {below : List Frame} {meth : Method} {c : Code} {Q : State → Prop} {cells slots : Nat} {A : Nat → Prop} {G : Nat → Option Nat} {L : List Nat} {X : Int} {f : Nat → va_E} {H : Heap} {locs : List Loc} {a0 : Nat}
/-- a call of the model's own, by a contract by hand -/
theorem w_h (hC : rm_Cx base (rk_tys cI c1 c2 c3 c4 c5) D (rk_NU base ad adV) M mt ml fl p R st m args meth c A L) (hh : rm_h D A st L f H locs) (hT : rm_TY cI c1 c2 c3 c4 c5 ad G X L f) (hG : G a0 = some 12) (hX : 0 ≤ X) {C : Int} (hXC : X + C ≤ rk_top) {pc : Nat} (idx : Nat) {z n : Nat} (hdg : decode M.2.1 pc = .ok (.invokevirtual idx, 3)) (hidx : ml idx = some (z, n, 12)) {as : List Value} {Pre : (Nat → Option Nat) → Int → (Nat → va_E) → Prop} {Post : (Nat → Option Nat) → Int → (Nat → va_E) → Option Value → (Nat → va_E) → Prop} {lv : Nat} (hM : rm_Hm base l cI c1 c2 c3 c4 c5 D ad adV (mt z) (.ref a0 :: as) Pre Post C lv) (hpre : Pre G X f) (hn : as.length + 1 = n) {sk rest : List Value} (hsk : sk = as.reverse ++ .ref a0 :: rest) (hcat : rm_cat rest) (hcs : cells ≤ R.cells ∧ slots ≤ R.slots) {lo : List (Nat × Value)}
    (kk : ∀ (v : Option Value) (u : Nat → va_E) (H1 : Heap) (locs1 : List Loc), rm_h D A st L u H1 locs1 → rm_TY cI c1 c2 c3 c4 c5 ad G (X + C) L u → rm_Lv G lv f u → Post G X f v u → rv_G p l e R st m args below meth c Q M.2.2.1 cells slots H1 locs1 (pc + 3) (v.toList ++ rest) lo) : rv_G p l e R st m args below meth c Q M.2.2.1 cells slots H locs pc sk lo := by
  obtain ⟨hL0, fs, aN, aA, aT, aH, aI, e1, -⟩ := rm_me hT hG
  exact rm_callV hC hh hdg hidx hL0 e1 hM hX hXC hT hpre hn hsk hcat hcs (fun v u H1 locs1 hP hh1 => kk v u H1 locs1 hh1 hP.1 hP.2.1 hP.2.2)
/-- by a contract that the checker gave -/
theorem w_k (hC : rm_Cx base (rk_tys cI c1 c2 c3 c4 c5) D (rk_NU base ad adV) M mt ml fl p R st m args meth c A L) (hh : rm_h D A st L f H locs) (hT : rm_TY cI c1 c2 c3 c4 c5 ad G X L f) (hG : G a0 = some 12) (hX : 0 ≤ X) {C : Int} (hXC : X + C ≤ rk_top) {pc : Nat} (idx : Nat) {z n : Nat} (hdg : decode M.2.1 pc = .ok (.invokevirtual idx, 3)) (hidx : ml idx = some (z, n, 12)) {as : List Value} {avs : List rk_AV} {alts : List rk_Alt} {lv : Nat} (hM : rm_Mc base l cI c1 c2 c3 c4 c5 D ad adV (mt z) avs alts C lv) (hall : rk_all G X avs (.ref a0 :: as)) (hn : as.length + 1 = n) {sk rest : List Value} (hsk : sk = as.reverse ++ .ref a0 :: rest) (hcat : rm_cat rest) (hcs : cells ≤ R.cells ∧ slots ≤ R.slots) {lo : List (Nat × Value)}
    (kk : ∀ (v : Option Value) (u : Nat → va_E) (H1 : Heap) (locs1 : List Loc), rm_h D A st L u H1 locs1 → rm_TY cI c1 c2 c3 c4 c5 ad G (X + C) L u → rm_Lv G lv f u → rk_alt G (X + C) (.ref a0 :: as) alts v → rv_G p l e R st m args below meth c Q M.2.2.1 cells slots H1 locs1 (pc + 3) (v.toList ++ rest) lo) : rv_G p l e R st m args below meth c Q M.2.2.1 cells slots H locs pc sk lo := by
  obtain ⟨hL0, fs, aN, aA, aT, aH, aI, e1, -⟩ := rm_me hT hG
  exact rm_callV hC hh hdg hidx hL0 e1 (rm_of hM (.ref a0 :: as)) hX hXC hT ⟨hall, trivial⟩ hn hsk hcat hcs (fun v u H1 locs1 hP hh1 => kk v u H1 locs1 hh1 hP.2.1 hP.2.2 hP.1)
/-- nothing is answered -/
theorem w_kv (hC : rm_Cx base (rk_tys cI c1 c2 c3 c4 c5) D (rk_NU base ad adV) M mt ml fl p R st m args meth c A L) (hh : rm_h D A st L f H locs) (hT : rm_TY cI c1 c2 c3 c4 c5 ad G X L f) (hG : G a0 = some 12) (hX : 0 ≤ X) {C : Int} (hXC : X + C ≤ rk_top) {pc : Nat} (idx : Nat) {z n : Nat} (hdg : decode M.2.1 pc = .ok (.invokevirtual idx, 3)) (hidx : ml idx = some (z, n, 12)) {as : List Value} {avs : List rk_AV} {lv : Nat} (hM : rm_Mc base l cI c1 c2 c3 c4 c5 D ad adV (mt z) avs [((9, 0, 0), [])] C lv) (hall : rk_all G X avs (.ref a0 :: as)) (hn : as.length + 1 = n) {sk rest : List Value} (hsk : sk = as.reverse ++ .ref a0 :: rest) (hcat : rm_cat rest) (hcs : cells ≤ R.cells ∧ slots ≤ R.slots) {lo : List (Nat × Value)}
    (kk : ∀ (u : Nat → va_E) (H1 : Heap) (locs1 : List Loc), rm_h D A st L u H1 locs1 → rm_TY cI c1 c2 c3 c4 c5 ad G (X + C) L u → rm_Lv G lv f u → rv_G p l e R st m args below meth c Q M.2.2.1 cells slots H1 locs1 (pc + 3) rest lo) : rv_G p l e R st m args below meth c Q M.2.2.1 cells slots H locs pc sk lo := by
  refine w_k hC hh hT hG hX hXC idx hdg hidx hM hall hn hsk hcat hcs (fun v u H1 locs1 hh1 hT1 hL1 hA => ?_)
  obtain ⟨a, ha, h1, -⟩ := hA
  rw [List.mem_singleton] at ha
  subst ha
  have h1 : v = none := h1
  subst h1
  exact kk u H1 locs1 hh1 hT1 hL1
/-- a number between two is answered -/
theorem w_ki (hC : rm_Cx base (rk_tys cI c1 c2 c3 c4 c5) D (rk_NU base ad adV) M mt ml fl p R st m args meth c A L) (hh : rm_h D A st L f H locs) (hT : rm_TY cI c1 c2 c3 c4 c5 ad G X L f) (hG : G a0 = some 12) (hX : 0 ≤ X) {C : Int} (hXC : X + C ≤ rk_top) {pc : Nat} (idx : Nat) {z n : Nat} (hdg : decode M.2.1 pc = .ok (.invokevirtual idx, 3)) (hidx : ml idx = some (z, n, 12)) {as : List Value} {avs : List rk_AV} {lv : Nat} {x1 x2 : Int} (hM : rm_Mc base l cI c1 c2 c3 c4 c5 D ad adV (mt z) avs [((0, x1, x2), [])] C lv) (hall : rk_all G X avs (.ref a0 :: as)) (hn : as.length + 1 = n) {sk rest : List Value} (hsk : sk = as.reverse ++ .ref a0 :: rest) (hcat : rm_cat rest) (hcs : cells ≤ R.cells ∧ slots ≤ R.slots) {lo : List (Nat × Value)}
    (kk : ∀ (x : Int32) (u : Nat → va_E) (H1 : Heap) (locs1 : List Loc), rm_h D A st L u H1 locs1 → rm_TY cI c1 c2 c3 c4 c5 ad G (X + C) L u → rm_Lv G lv f u → x1 ≤ x.toInt ∧ x.toInt ≤ x2 → rv_G p l e R st m args below meth c Q M.2.2.1 cells slots H1 locs1 (pc + 3) (.int x :: rest) lo) : rv_G p l e R st m args below meth c Q M.2.2.1 cells slots H locs pc sk lo := by
  refine w_k hC hh hT hG hX hXC idx hdg hidx hM hall hn hsk hcat hcs (fun v u H1 locs1 hh1 hT1 hL1 hA => ?_)
  obtain ⟨a, ha, h1, -⟩ := hA
  rw [List.mem_singleton] at ha
  subst ha
  have h1 : ∃ w, v = some w ∧ rk_has G (X + C) (0, x1, x2) w := h1
  obtain ⟨w, rfl, x, rfl, h2, h3⟩ := h1
  exact kk x u H1 locs1 hh1 hT1 hL1 ⟨h2, h3⟩
theorem w_at (hC : rm_Cx base (rk_tys cI c1 c2 c3 c4 c5) D (rk_NU base ad adV) M mt ml fl p R st m args meth c A L) (hh : rm_h D A st L f H locs) (hT : rm_TY cI c1 c2 c3 c4 c5 ad G X L f) (hG : G a0 = some 12) (hX : 0 ≤ X) (hXC : X ≤ rk_top) {pc : Nat} (idx : Nat) {z : Nat} (hdg : decode M.2.1 pc = .ok (.invokevirtual idx, 3)) (hidx : ml idx = some (z, 3, 12)) (hz : mt z = rk_q_X12_at) {s w : Int32} {sn : Nat} (hs : s.toInt = (sn : Int)) (hsn : sn < 40) (wn : Nat) (hw : w.toInt = (wn : Int)) (hwn : wn < 64) {rest : List Value} (hcat : rm_cat rest) (hcs : cells ≤ R.cells ∧ slots ≤ R.slots) {lo : List (Nat × Value)}
    (kk : ∀ (x : Int32) (H1 : Heap) (locs1 : List Loc), rm_h D A st L f H1 locs1 → x = rm_now G f a0 (64 * sn + wn) → rv_G p l e R st m args below meth c Q M.2.2.1 cells slots H1 locs1 (pc + 3) (.int x :: rest) lo) : rv_G p l e R st m args below meth c Q M.2.2.1 cells slots H locs pc (.int w :: .int s :: .ref a0 :: rest) lo := by
  refine w_h hC hh hT hG hX (C := 0) (by omega) idx hdg hidx (as := [.int s, .int w]) (hz ▸ h_at base l cI c1 c2 c3 c4 c5 D ad adV a0 s w hs hw hsn hwn) hG rfl rfl hcat hcs (fun v u H1 locs1 hh1 hT1 hL1 hP => ?_)
  obtain ⟨rfl, rfl⟩ := hP
  exact kk _ H1 locs1 hh1 rfl
theorem w_puts (hC : rm_Cx base (rk_tys cI c1 c2 c3 c4 c5) D (rk_NU base ad adV) M mt ml fl p R st m args meth c A L) (hh : rm_h D A st L f H locs) (hT : rm_TY cI c1 c2 c3 c4 c5 ad G X L f) (hG : G a0 = some 12) (hX : 0 ≤ X) (hXC : X ≤ rk_top) (lv : Nat) {pc : Nat} (idx : Nat) {z : Nat} (hdg : decode M.2.1 pc = .ok (.invokevirtual idx, 3)) (hidx : ml idx = some (z, 4, 12)) (hz : mt z = rk_q_X12_puts) {s w : Int32} {sn : Nat} (hs : s.toInt = (sn : Int)) (hsn : sn < 40) (wn : Nat) (hw : w.toInt = (wn : Int)) (hwn : wn < 64) (hok : rm_okp lv (rm_RCw wn) false = true) {x : Int32} (hx : rk_has G X (rm_mS.getD wn rk_full) (.int x)) {rest : List Value} (hcat : rm_cat rest) (hcs : cells ≤ R.cells ∧ slots ≤ R.slots) {lo : List (Nat × Value)}
    (kk : ∀ (u : Nat → va_E) (H1 : Heap) (locs1 : List Loc), rm_h D A st L u H1 locs1 → rm_TY cI c1 c2 c3 c4 c5 ad G X L u → rm_Lv G lv f u → (∀ i, rm_now G u a0 i = if i = 64 * sn + wn then x else rm_now G f a0 i) → rv_G p l e R st m args below meth c Q M.2.2.1 cells slots H1 locs1 (pc + 3) rest lo) : rv_G p l e R st m args below meth c Q M.2.2.1 cells slots H locs pc (.int x :: .int w :: .int s :: .ref a0 :: rest) lo := by
  refine w_h hC hh hT hG hX (C := 0) (by omega) idx hdg hidx (as := [.int s, .int w, .int x]) (hz ▸ h_puts base l cI c1 c2 c3 c4 c5 D ad adV lv a0 s w x hs hw hsn hwn (rm_wr_s hsn hwn hok)) ⟨hG, by rw [rm_mE_s hsn hwn]; exact hx⟩ rfl rfl hcat hcs (fun v u H1 locs1 hh1 hT1 hL1 hP => ?_)
  obtain ⟨rfl, hP⟩ := hP
  rw [Int.add_zero] at hT1
  exact kk u H1 locs1 hh1 hT1 hL1 hP
theorem w_more (hC : rm_Cx base (rk_tys cI c1 c2 c3 c4 c5) D (rk_NU base ad adV) M mt ml fl p R st m args meth c A L) (hh : rm_h D A st L f H locs) (hT : rm_TY cI c1 c2 c3 c4 c5 ad G X L f) (hG : G a0 = some 12) (hX : 0 ≤ X) (C : Int) (hC0 : 0 ≤ C) (hXC : X + C ≤ rk_top) (lv : Nat) {pc : Nat} (idx : Nat) {z : Nat} (hdg : decode M.2.1 pc = .ok (.invokevirtual idx, 3)) (hidx : ml idx = some (z, 3, 12)) (hz : mt z = rk_q_X12_more) {s w : Int32} {sn : Nat} (hs : s.toInt = (sn : Int)) (hsn : sn < 40) (wn : Nat) (hw : w.toInt = (wn : Int)) (hwn : wn < 64) (hok : rm_okp lv (rm_RCw wn) false = true) (hx : rk_has G (X + C) (rm_mS.getD wn rk_full) (.int (rm_now G f a0 (64 * sn + wn) + Int32.ofInt 1))) {rest : List Value} (hcat : rm_cat rest) (hcs : cells ≤ R.cells ∧ slots ≤ R.slots) {lo : List (Nat × Value)}
    (kk : ∀ (u : Nat → va_E) (H1 : Heap) (locs1 : List Loc), rm_h D A st L u H1 locs1 → rm_TY cI c1 c2 c3 c4 c5 ad G (X + C) L u → rm_Lv G lv f u → (∀ i, rm_now G u a0 i = if i = 64 * sn + wn then rm_now G f a0 (64 * sn + wn) + Int32.ofInt 1 else rm_now G f a0 i) → rv_G p l e R st m args below meth c Q M.2.2.1 cells slots H1 locs1 (pc + 3) rest lo) : rv_G p l e R st m args below meth c Q M.2.2.1 cells slots H locs pc (.int w :: .int s :: .ref a0 :: rest) lo := by
  refine w_h hC hh hT hG hX hXC idx hdg hidx (as := [.int s, .int w]) (hz ▸ h_more base l cI c1 c2 c3 c4 c5 D ad adV lv a0 C hC0 s w hs hw hsn hwn (rm_wr_s hsn hwn hok)) ⟨hG, by rw [rm_mE_s hsn hwn]; exact hx⟩ rfl rfl hcat hcs (fun v u H1 locs1 hh1 hT1 hL1 hP => ?_)
  obtain ⟨rfl, hP⟩ := hP
  exact kk u H1 locs1 hh1 hT1 hL1 hP
theorem w_ofRouter (hC : rm_Cx base (rk_tys cI c1 c2 c3 c4 c5) D (rk_NU base ad adV) M mt ml fl p R st m args meth c A L) (hh : rm_h D A st L f H locs) (hT : rm_TY cI c1 c2 c3 c4 c5 ad G X L f) (hG : G a0 = some 12) (hX : 0 ≤ X) (hXC : X ≤ rk_top) {pc : Nat} (idx : Nat) {z : Nat} (hdg : decode M.2.1 pc = .ok (.invokevirtual idx, 3)) (hidx : ml idx = some (z, 3, 12)) (hz : mt z = rk_q_X12_ofRouter) {s w : Int32} {sn : Nat} (hs : s.toInt = (sn : Int)) (hsn : sn < 4) (wn : Nat) (hw : w.toInt = (wn : Int)) (hwn : wn < 75) {rest : List Value} (hcat : rm_cat rest) (hcs : cells ≤ R.cells ∧ slots ≤ R.slots) {lo : List (Nat × Value)}
    (kk : ∀ (x : Int32) (H1 : Heap) (locs1 : List Loc), rm_h D A st L f H1 locs1 → x = rm_now G f a0 (2560 + 75 * sn + wn) → rv_G p l e R st m args below meth c Q M.2.2.1 cells slots H1 locs1 (pc + 3) (.int x :: rest) lo) : rv_G p l e R st m args below meth c Q M.2.2.1 cells slots H locs pc (.int w :: .int s :: .ref a0 :: rest) lo := by
  refine w_h hC hh hT hG hX (C := 0) (by omega) idx hdg hidx (as := [.int s, .int w]) (hz ▸ h_ofRouter base l cI c1 c2 c3 c4 c5 D ad adV a0 s w hs hw hsn hwn) hG rfl rfl hcat hcs (fun v u H1 locs1 hh1 hT1 hL1 hP => ?_)
  obtain ⟨rfl, rfl⟩ := hP
  exact kk _ H1 locs1 hh1 rfl
theorem w_putsRouter (hC : rm_Cx base (rk_tys cI c1 c2 c3 c4 c5) D (rk_NU base ad adV) M mt ml fl p R st m args meth c A L) (hh : rm_h D A st L f H locs) (hT : rm_TY cI c1 c2 c3 c4 c5 ad G X L f) (hG : G a0 = some 12) (hX : 0 ≤ X) (hXC : X ≤ rk_top) (lv : Nat) {pc : Nat} (idx : Nat) {z : Nat} (hdg : decode M.2.1 pc = .ok (.invokevirtual idx, 3)) (hidx : ml idx = some (z, 4, 12)) (hz : mt z = rk_q_X12_putsRouter) {s w : Int32} {sn : Nat} (hs : s.toInt = (sn : Int)) (hsn : sn < 4) (wn : Nat) (hw : w.toInt = (wn : Int)) (hwn : wn < 75) (hok : rm_okp lv false false = true) {x : Int32} (hx : rk_has G X (rm_mR.getD wn rk_full) (.int x)) {rest : List Value} (hcat : rm_cat rest) (hcs : cells ≤ R.cells ∧ slots ≤ R.slots) {lo : List (Nat × Value)}
    (kk : ∀ (u : Nat → va_E) (H1 : Heap) (locs1 : List Loc), rm_h D A st L u H1 locs1 → rm_TY cI c1 c2 c3 c4 c5 ad G X L u → rm_Lv G lv f u → (∀ i, rm_now G u a0 i = if i = 2560 + 75 * sn + wn then x else rm_now G f a0 i) → rv_G p l e R st m args below meth c Q M.2.2.1 cells slots H1 locs1 (pc + 3) rest lo) : rv_G p l e R st m args below meth c Q M.2.2.1 cells slots H locs pc (.int x :: .int w :: .int s :: .ref a0 :: rest) lo := by
  refine w_h hC hh hT hG hX (C := 0) (by omega) idx hdg hidx (as := [.int s, .int w, .int x]) (hz ▸ h_putsRouter base l cI c1 c2 c3 c4 c5 D ad adV lv a0 s w x hs hw hsn hwn (rm_wr_r hsn hwn hok)) ⟨hG, by rw [rm_mE_r hsn hwn]; exact hx⟩ rfl rfl hcat hcs (fun v u H1 locs1 hh1 hT1 hL1 hP => ?_)
  obtain ⟨rfl, hP⟩ := hP
  rw [Int.add_zero] at hT1
  exact kk u H1 locs1 hh1 hT1 hL1 hP
theorem w_moreRouter (hC : rm_Cx base (rk_tys cI c1 c2 c3 c4 c5) D (rk_NU base ad adV) M mt ml fl p R st m args meth c A L) (hh : rm_h D A st L f H locs) (hT : rm_TY cI c1 c2 c3 c4 c5 ad G X L f) (hG : G a0 = some 12) (hX : 0 ≤ X) (C : Int) (hC0 : 0 ≤ C) (hXC : X + C ≤ rk_top) (lv : Nat) {pc : Nat} (idx : Nat) {z : Nat} (hdg : decode M.2.1 pc = .ok (.invokevirtual idx, 3)) (hidx : ml idx = some (z, 3, 12)) (hz : mt z = rk_q_X12_moreRouter) {s w : Int32} {sn : Nat} (hs : s.toInt = (sn : Int)) (hsn : sn < 4) (wn : Nat) (hw : w.toInt = (wn : Int)) (hwn : wn < 75) (hok : rm_okp lv false false = true) (hx : rk_has G (X + C) (rm_mR.getD wn rk_full) (.int (rm_now G f a0 (2560 + 75 * sn + wn) + Int32.ofInt 1))) {rest : List Value} (hcat : rm_cat rest) (hcs : cells ≤ R.cells ∧ slots ≤ R.slots) {lo : List (Nat × Value)}
    (kk : ∀ (u : Nat → va_E) (H1 : Heap) (locs1 : List Loc), rm_h D A st L u H1 locs1 → rm_TY cI c1 c2 c3 c4 c5 ad G (X + C) L u → rm_Lv G lv f u → (∀ i, rm_now G u a0 i = if i = 2560 + 75 * sn + wn then rm_now G f a0 (2560 + 75 * sn + wn) + Int32.ofInt 1 else rm_now G f a0 i) → rv_G p l e R st m args below meth c Q M.2.2.1 cells slots H1 locs1 (pc + 3) rest lo) : rv_G p l e R st m args below meth c Q M.2.2.1 cells slots H locs pc (.int w :: .int s :: .ref a0 :: rest) lo := by
  refine w_h hC hh hT hG hX hXC idx hdg hidx (as := [.int s, .int w]) (hz ▸ h_moreRouter base l cI c1 c2 c3 c4 c5 D ad adV lv a0 C hC0 s w hs hw hsn hwn (rm_wr_r hsn hwn hok)) ⟨hG, by rw [rm_mE_r hsn hwn]; exact hx⟩ rfl rfl hcat hcs (fun v u H1 locs1 hh1 hT1 hL1 hP => ?_)
  obtain ⟨rfl, hP⟩ := hP
  exact kk u H1 locs1 hh1 hT1 hL1 hP
theorem w_ofEnd (hC : rm_Cx base (rk_tys cI c1 c2 c3 c4 c5) D (rk_NU base ad adV) M mt ml fl p R st m args meth c A L) (hh : rm_h D A st L f H locs) (hT : rm_TY cI c1 c2 c3 c4 c5 ad G X L f) (hG : G a0 = some 12) (hX : 0 ≤ X) (hXC : X ≤ rk_top) {pc : Nat} (idx : Nat) {z : Nat} (hdg : decode M.2.1 pc = .ok (.invokevirtual idx, 3)) (hidx : ml idx = some (z, 3, 12)) (hz : mt z = rk_q_X12_ofEnd) {s w : Int32} {sn : Nat} (hs : s.toInt = (sn : Int)) (hsn : sn < 8) (wn : Nat) (hw : w.toInt = (wn : Int)) (hwn : wn < 427) {rest : List Value} (hcat : rm_cat rest) (hcs : cells ≤ R.cells ∧ slots ≤ R.slots) {lo : List (Nat × Value)}
    (kk : ∀ (x : Int32) (H1 : Heap) (locs1 : List Loc), rm_h D A st L f H1 locs1 → x = rm_now G f a0 (2860 + 427 * sn + wn) → rv_G p l e R st m args below meth c Q M.2.2.1 cells slots H1 locs1 (pc + 3) (.int x :: rest) lo) : rv_G p l e R st m args below meth c Q M.2.2.1 cells slots H locs pc (.int w :: .int s :: .ref a0 :: rest) lo := by
  refine w_h hC hh hT hG hX (C := 0) (by omega) idx hdg hidx (as := [.int s, .int w]) (hz ▸ h_ofEnd base l cI c1 c2 c3 c4 c5 D ad adV a0 s w hs hw hsn hwn) hG rfl rfl hcat hcs (fun v u H1 locs1 hh1 hT1 hL1 hP => ?_)
  obtain ⟨rfl, rfl⟩ := hP
  exact kk _ H1 locs1 hh1 rfl
theorem w_putsEnd (hC : rm_Cx base (rk_tys cI c1 c2 c3 c4 c5) D (rk_NU base ad adV) M mt ml fl p R st m args meth c A L) (hh : rm_h D A st L f H locs) (hT : rm_TY cI c1 c2 c3 c4 c5 ad G X L f) (hG : G a0 = some 12) (hX : 0 ≤ X) (hXC : X ≤ rk_top) (lv : Nat) {pc : Nat} (idx : Nat) {z : Nat} (hdg : decode M.2.1 pc = .ok (.invokevirtual idx, 3)) (hidx : ml idx = some (z, 4, 12)) (hz : mt z = rk_q_X12_putsEnd) {s w : Int32} {sn : Nat} (hs : s.toInt = (sn : Int)) (hsn : sn < 8) (wn : Nat) (hw : w.toInt = (wn : Int)) (hwn : wn < 427) (hok : rm_okp lv (Nat.beq wn 8) (Nat.beq wn 0) = true) {x : Int32} (hx : rk_has G X (rm_mD.getD wn rk_full) (.int x)) {rest : List Value} (hcat : rm_cat rest) (hcs : cells ≤ R.cells ∧ slots ≤ R.slots) {lo : List (Nat × Value)}
    (kk : ∀ (u : Nat → va_E) (H1 : Heap) (locs1 : List Loc), rm_h D A st L u H1 locs1 → rm_TY cI c1 c2 c3 c4 c5 ad G X L u → rm_Lv G lv f u → (∀ i, rm_now G u a0 i = if i = 2860 + 427 * sn + wn then x else rm_now G f a0 i) → rv_G p l e R st m args below meth c Q M.2.2.1 cells slots H1 locs1 (pc + 3) rest lo) : rv_G p l e R st m args below meth c Q M.2.2.1 cells slots H locs pc (.int x :: .int w :: .int s :: .ref a0 :: rest) lo := by
  refine w_h hC hh hT hG hX (C := 0) (by omega) idx hdg hidx (as := [.int s, .int w, .int x]) (hz ▸ h_putsEnd base l cI c1 c2 c3 c4 c5 D ad adV lv a0 s w x hs hw hsn hwn (rm_wr_e hsn hwn hok)) ⟨hG, by rw [rm_mE_e hsn hwn]; exact hx⟩ rfl rfl hcat hcs (fun v u H1 locs1 hh1 hT1 hL1 hP => ?_)
  obtain ⟨rfl, hP⟩ := hP
  rw [Int.add_zero] at hT1
  exact kk u H1 locs1 hh1 hT1 hL1 hP
theorem w_moreEnd (hC : rm_Cx base (rk_tys cI c1 c2 c3 c4 c5) D (rk_NU base ad adV) M mt ml fl p R st m args meth c A L) (hh : rm_h D A st L f H locs) (hT : rm_TY cI c1 c2 c3 c4 c5 ad G X L f) (hG : G a0 = some 12) (hX : 0 ≤ X) (C : Int) (hC0 : 0 ≤ C) (hXC : X + C ≤ rk_top) (lv : Nat) {pc : Nat} (idx : Nat) {z : Nat} (hdg : decode M.2.1 pc = .ok (.invokevirtual idx, 3)) (hidx : ml idx = some (z, 3, 12)) (hz : mt z = rk_q_X12_moreEnd) {s w : Int32} {sn : Nat} (hs : s.toInt = (sn : Int)) (hsn : sn < 8) (wn : Nat) (hw : w.toInt = (wn : Int)) (hwn : wn < 427) (hok : rm_okp lv (Nat.beq wn 8) (Nat.beq wn 0) = true) (hx : rk_has G (X + C) (rm_mD.getD wn rk_full) (.int (rm_now G f a0 (2860 + 427 * sn + wn) + Int32.ofInt 1))) {rest : List Value} (hcat : rm_cat rest) (hcs : cells ≤ R.cells ∧ slots ≤ R.slots) {lo : List (Nat × Value)}
    (kk : ∀ (u : Nat → va_E) (H1 : Heap) (locs1 : List Loc), rm_h D A st L u H1 locs1 → rm_TY cI c1 c2 c3 c4 c5 ad G (X + C) L u → rm_Lv G lv f u → (∀ i, rm_now G u a0 i = if i = 2860 + 427 * sn + wn then rm_now G f a0 (2860 + 427 * sn + wn) + Int32.ofInt 1 else rm_now G f a0 i) → rv_G p l e R st m args below meth c Q M.2.2.1 cells slots H1 locs1 (pc + 3) rest lo) : rv_G p l e R st m args below meth c Q M.2.2.1 cells slots H locs pc (.int w :: .int s :: .ref a0 :: rest) lo := by
  refine w_h hC hh hT hG hX hXC idx hdg hidx (as := [.int s, .int w]) (hz ▸ h_moreEnd base l cI c1 c2 c3 c4 c5 D ad adV lv a0 C hC0 s w hs hw hsn hwn (rm_wr_e hsn hwn hok)) ⟨hG, by rw [rm_mE_e hsn hwn]; exact hx⟩ rfl rfl hcat hcs (fun v u H1 locs1 hh1 hT1 hL1 hP => ?_)
  obtain ⟨rfl, hP⟩ := hP
  exact kk u H1 locs1 hh1 hT1 hL1 hP
end RMC
