section RMX
variable (base : Nat) (l : Launch) (cI c1 c2 c3 c4 c5 : ClassId) (D : va_G) (ad adV : Nat → Nat)
theorem c_X12_settles_0 : rm_Mi base l cI c1 c2 c3 c4 c5 D ad adV rk_q_X12_settles [(2, 12, 0), (0, 0, 39)] [((9, 0, 0), [])] 2 3 := by
  refine rm_toki base l cI c1 c2 c3 c4 c5 D ad adV ?_
  intro G X L f av hX hXC hall hT hPI
  obtain ⟨v0, vs0, rfl, ⟨a0, rfl, hG⟩, hall0⟩ := rk_all_cons hall
  obtain ⟨v1, vs1, rfl, ⟨i0, rfl, a1, b1⟩, hall1⟩ := rk_all_cons hall0
  obtain ⟨n0, e0⟩ : ∃ n : Nat, i0.toInt = (n : Int) := ⟨i0.toInt.toNat, by omega⟩
  cases rk_all_nil hall1
  refine ⟨_, _, _, h_settles base l cI c1 c2 c3 c4 c5 D ad adV a0 i0 n0 e0 (by omega) _ _ _ _ _ ((hPI.2 a0 hG).1 n0 (by omega)).1, ⟨hG, rm_so_of G f a0 n0⟩, Int.le_refl _, fun v u _ hP => by
    obtain ⟨rfl, -⟩ := hP
    exact rk_alt_0⟩
theorem c_X12_joins_0 : rm_Mi base l cI c1 c2 c3 c4 c5 D ad adV rk_q_X12_joins [(2, 12, 0), (0, 0, 39), (0, 0, 39)] [((9, 0, 0), [])] 4 3 := by
  refine rm_toki base l cI c1 c2 c3 c4 c5 D ad adV ?_
  intro G X L f av hX hXC hall hT hPI
  obtain ⟨v0, vs0, rfl, ⟨a0, rfl, hG⟩, hall0⟩ := rk_all_cons hall
  obtain ⟨v1, vs1, rfl, ⟨i0, rfl, a1, b1⟩, hall1⟩ := rk_all_cons hall0
  obtain ⟨n0, e0⟩ : ∃ n : Nat, i0.toInt = (n : Int) := ⟨i0.toInt.toNat, by omega⟩
  obtain ⟨v2, vs2, rfl, ⟨i1, rfl, a2, b2⟩, hall2⟩ := rk_all_cons hall1
  obtain ⟨n1, e1⟩ : ∃ n : Nat, i1.toInt = (n : Int) := ⟨i1.toInt.toNat, by omega⟩
  cases rk_all_nil hall2
  refine ⟨_, _, _, h_joins base l cI c1 c2 c3 c4 c5 D ad adV a0 i0 i1 n0 n1 e0 e1 (by omega) (by omega), ⟨hG, hPI.1, hPI.2 a0 hG⟩, Int.le_refl _, fun v u _ hP => by
    have hP : v = none := hP
    subst hP
    exact rk_alt_0⟩
theorem c_X12_unplug_0 : rm_Mi base l cI c1 c2 c3 c4 c5 D ad adV rk_q_X12_unplug [(2, 12, 0), (0, -2147483648, 2147483647)] [((0, -1, 39), [])] 4 3 := by
  refine rm_toki base l cI c1 c2 c3 c4 c5 D ad adV ?_
  intro G X L f av hX hXC hall hT hPI
  obtain ⟨v0, vs0, rfl, ⟨a0, rfl, hG⟩, hall0⟩ := rk_all_cons hall
  obtain ⟨v1, vs1, rfl, ⟨i0, rfl, a1, b1⟩, hall1⟩ := rk_all_cons hall0
  cases rk_all_nil hall1
  refine ⟨_, _, _, h_unplug base l cI c1 c2 c3 c4 c5 D ad adV a0 i0, ⟨hG, hPI.1, hPI.2 a0 hG⟩, Int.le_refl _, fun v u _ hP => by
    obtain ⟨x, rfl, h1, h2⟩ := hP
    exact rk_alt_1 ⟨x, rfl, h1, h2⟩ (by decide)⟩
theorem c_X12_broken_0 : rm_Mc base l cI c1 c2 c3 c4 c5 D ad adV rk_q_X12_broken [(2, 12, 0), (0, -2147483648, 2147483647), (0, 0, 1)] [((0, 0, 1), [])] 0 1 := by
  refine rm_tok base l cI c1 c2 c3 c4 c5 D ad adV ?_
  intro G X L f av hX hXC hall hT
  obtain ⟨v0, vs0, rfl, ⟨a0, rfl, hG⟩, hall0⟩ := rk_all_cons hall
  obtain ⟨v1, vs1, rfl, ⟨i0, rfl, a1, b1⟩, hall1⟩ := rk_all_cons hall0
  obtain ⟨v2, vs2, rfl, ⟨i1, rfl, a2, b2⟩, hall2⟩ := rk_all_cons hall1
  cases rk_all_nil hall2
  refine ⟨_, _, _, h_broken base l cI c1 c2 c3 c4 c5 D ad adV a0 i0 i1, hG, Int.le_refl _, fun v u _ hP => by
    obtain ⟨x, rfl, h1, h2⟩ := hP
    exact rk_alt_1 ⟨x, rfl, h1, h2⟩ (by decide)⟩
theorem c_X12_hearsAll_0 : rm_Mi base l cI c1 c2 c3 c4 c5 D ad adV rk_q_X12_hearsAll [(2, 12, 0)] [((9, 0, 0), [])] 120 7 := by
  refine rm_toki base l cI c1 c2 c3 c4 c5 D ad adV ?_
  intro G X L f av hX hXC hall hT hPI
  obtain ⟨v0, vs0, rfl, ⟨a0, rfl, hG⟩, hall0⟩ := rk_all_cons hall
  cases rk_all_nil hall0
  refine ⟨_, _, _, h_hearsAll base l cI c1 c2 c3 c4 c5 D ad adV a0 , ⟨hG, hPI.1, hPI.2 a0 hG⟩, Int.le_refl _, fun v u _ hP => by
    have hP : v = none := hP
    subst hP
    exact rk_alt_0⟩
theorem c_X12_grows_0 : rm_Mi base l cI c1 c2 c3 c4 c5 D ad adV rk_q_X12_grows [(2, 12, 0), (0, 0, 39)] [((9, 0, 0), [])] 3 3 := by
  refine rm_toki base l cI c1 c2 c3 c4 c5 D ad adV ?_
  intro G X L f av hX hXC hall hT hPI
  obtain ⟨v0, vs0, rfl, ⟨a0, rfl, hG⟩, hall0⟩ := rk_all_cons hall
  obtain ⟨v1, vs1, rfl, ⟨i0, rfl, a1, b1⟩, hall1⟩ := rk_all_cons hall0
  obtain ⟨n0, e0⟩ : ∃ n : Nat, i0.toInt = (n : Int) := ⟨i0.toInt.toNat, by omega⟩
  cases rk_all_nil hall1
  refine ⟨_, _, _, h_grows base l cI c1 c2 c3 c4 c5 D ad adV a0 i0 n0 e0 (by omega), ⟨hG, hPI.1, hPI.2 a0 hG⟩, Int.le_refl _, fun v u _ hP => by
    have hP : v = none := hP
    subst hP
    exact rk_alt_0⟩
theorem c_X12_sends_0 : rm_Mi base l cI c1 c2 c3 c4 c5 D ad adV rk_q_X12_sends [(2, 12, 0), (0, 0, 39)] [((0, -1, 323), [])] 0 3 := by
  refine rm_toki base l cI c1 c2 c3 c4 c5 D ad adV ?_
  intro G X L f av hX hXC hall hT hPI
  obtain ⟨v0, vs0, rfl, ⟨a0, rfl, hG⟩, hall0⟩ := rk_all_cons hall
  obtain ⟨v1, vs1, rfl, ⟨i0, rfl, a1, b1⟩, hall1⟩ := rk_all_cons hall0
  obtain ⟨n0, e0⟩ : ∃ n : Nat, i0.toInt = (n : Int) := ⟨i0.toInt.toNat, by omega⟩
  cases rk_all_nil hall1
  refine ⟨_, _, _, h_sends base l cI c1 c2 c3 c4 c5 D ad adV a0 i0 n0 e0 (by omega), ⟨hG, hPI.1, hPI.2 a0 hG⟩, Int.le_refl _, fun v u _ hP => by
    obtain ⟨x, rfl, h1, h2⟩ := hP
    exact rk_alt_1 ⟨x, rfl, h1, h2⟩ (by decide)⟩
theorem c_X12_send_0 : rm_Mc base l cI c1 c2 c3 c4 c5 D ad adV rk_q_X12_send [(2, 12, 0), (0, -2147483648, 2147483647)] [((0, -1, 120), [])] 0 19 := by
  refine rm_tok base l cI c1 c2 c3 c4 c5 D ad adV ?_
  intro G X L f av hX hXC hall hT
  obtain ⟨v0, vs0, rfl, ⟨a0, rfl, hG⟩, hall0⟩ := rk_all_cons hall
  obtain ⟨v1, vs1, rfl, ⟨i0, rfl, a1, b1⟩, hall1⟩ := rk_all_cons hall0
  cases rk_all_nil hall1
  refine ⟨_, _, _, h_send base l cI c1 c2 c3 c4 c5 D ad adV a0 i0, hG, Int.le_refl _, fun v u _ hP => by
    obtain ⟨x, rfl, h1, h2⟩ := hP
    exact rk_alt_1 ⟨x, rfl, h1, h2⟩ (by decide)⟩
theorem c_X12_packetAt_0 : rm_Mc base l cI c1 c2 c3 c4 c5 D ad adV rk_q_X12_packetAt [(2, 12, 0), (0, -2147483648, 2147483647), (0, -2147483648, 2147483647)] [((0, -1, -1), []), ((0, 169, 384), [(1, (0, 0, 7))])] 0 0 := by
  refine rm_tok base l cI c1 c2 c3 c4 c5 D ad adV ?_
  intro G X L f av hX hXC hall hT
  obtain ⟨v0, vs0, rfl, ⟨a0, rfl, hG⟩, hall0⟩ := rk_all_cons hall
  obtain ⟨v1, vs1, rfl, ⟨i0, rfl, a1, b1⟩, hall1⟩ := rk_all_cons hall0
  obtain ⟨v2, vs2, rfl, ⟨i1, rfl, a2, b2⟩, hall2⟩ := rk_all_cons hall1
  cases rk_all_nil hall2
  refine ⟨_, _, _, h_packetAt base l cI c1 c2 c3 c4 c5 D ad adV a0 i0 i1, hG, Int.le_refl _, fun v u _ hP => by
    obtain ⟨x, rfl, h⟩ := hP
    rcases h with h | ⟨h1, h2, h3, h4⟩
    · exact ⟨((0, -1, -1), []), List.mem_cons_self, by rw [if_neg (by decide)]; exact ⟨_, rfl, x, rfl, by omega, by omega⟩, fun q hq => absurd hq List.not_mem_nil⟩
    · refine ⟨((0, 169, 384), [(1, (0, 0, 7))]), List.mem_cons_of_mem _ (List.mem_singleton.mpr rfl), by rw [if_neg (by decide)]; exact ⟨_, rfl, x, rfl, h1, h2⟩, fun q hq => ?_⟩
      rw [List.mem_singleton] at hq
      subst hq
      exact ⟨.int i0, rfl, i0, rfl, h3, h4⟩⟩
theorem c_X12_log_0 : rm_Mc base l cI c1 c2 c3 c4 c5 D ad adV rk_q_X12_log [(2, 12, 0), (0, -2147483648, 2147483647), (0, -2147483648, 2147483647)] [((0, -2147483648, 2147483647), [])] 0 1 := by
  refine rm_tok base l cI c1 c2 c3 c4 c5 D ad adV ?_
  intro G X L f av hX hXC hall hT
  obtain ⟨v0, vs0, rfl, ⟨a0, rfl, hG⟩, hall0⟩ := rk_all_cons hall
  obtain ⟨v1, vs1, rfl, ⟨i0, rfl, a1, b1⟩, hall1⟩ := rk_all_cons hall0
  obtain ⟨v2, vs2, rfl, ⟨i1, rfl, a2, b2⟩, hall2⟩ := rk_all_cons hall1
  cases rk_all_nil hall2
  refine ⟨_, _, _, h_log base l cI c1 c2 c3 c4 c5 D ad adV a0 i0 i1, hG, Int.le_refl _, fun v u _ hP => by
    obtain ⟨x, rfl⟩ := hP
    exact rk_alt_1 rk_aF (by decide)⟩
theorem c_X12_sound_0 : rm_Mc base l cI c1 c2 c3 c4 c5 D ad adV rk_q_X12_sound [(2, 12, 0), (0, -2147483648, 2147483647)] [((0, -1, 1), [])] 0 1 := by
  refine rm_tok base l cI c1 c2 c3 c4 c5 D ad adV ?_
  intro G X L f av hX hXC hall hT
  obtain ⟨v0, vs0, rfl, ⟨a0, rfl, hG⟩, hall0⟩ := rk_all_cons hall
  obtain ⟨v1, vs1, rfl, ⟨i0, rfl, a1, b1⟩, hall1⟩ := rk_all_cons hall0
  cases rk_all_nil hall1
  refine ⟨_, _, _, h_sound base l cI c1 c2 c3 c4 c5 D ad adV a0 i0, hG, Int.le_refl _, fun v u _ hP => by
    obtain ⟨x, rfl, h1, h2⟩ := hP
    exact rk_alt_1 ⟨x, rfl, h1, h2⟩ (by decide)⟩
theorem c_X12_errs_0 : rm_Mc base l cI c1 c2 c3 c4 c5 D ad adV rk_q_X12_errs [(2, 12, 0), (0, -2147483648, 2147483647), (0, -2147483648, 2147483647)] [((0, 0, 0), [])] 0 1 := by
  refine rm_tok base l cI c1 c2 c3 c4 c5 D ad adV ?_
  intro G X L f av hX hXC hall hT
  obtain ⟨v0, vs0, rfl, ⟨a0, rfl, hG⟩, hall0⟩ := rk_all_cons hall
  obtain ⟨v1, vs1, rfl, ⟨i0, rfl, a1, b1⟩, hall1⟩ := rk_all_cons hall0
  obtain ⟨v2, vs2, rfl, ⟨i1, rfl, a2, b2⟩, hall2⟩ := rk_all_cons hall1
  cases rk_all_nil hall2
  refine ⟨_, _, _, h_errs base l cI c1 c2 c3 c4 c5 D ad adV a0 i0 i1, hG, Int.le_refl _, fun v u _ hP => by
    obtain ⟨⟨x, rfl, h1⟩, -⟩ := hP
    exact rk_alt_1 ⟨x, rfl, by omega, by omega⟩ (by decide)⟩
theorem c_X12_behindBlanks_0 : rm_Mc base l cI c1 c2 c3 c4 c5 D ad adV rk_q_X12_behindBlanks [(2, 12, 0)] [((0, -1, 255), [])] 0 1 := by
  refine rm_tok base l cI c1 c2 c3 c4 c5 D ad adV ?_
  intro G X L f av hX hXC hall hT
  obtain ⟨v0, vs0, rfl, ⟨a0, rfl, hG⟩, hall0⟩ := rk_all_cons hall
  cases rk_all_nil hall0
  refine ⟨_, _, _, h_behindBlanks base l cI c1 c2 c3 c4 c5 D ad adV a0 , hG, Int.le_refl _, fun v u _ hP => by
    obtain ⟨x, rfl, h1, h2, -⟩ := hP
    exact rk_alt_1 ⟨x, rfl, h1, h2⟩ (by decide)⟩
theorem c_X12_sign_0 : rm_Mc base l cI c1 c2 c3 c4 c5 D ad adV rk_q_X12_sign [(2, 12, 0), (0, 0, 255)] [((9, 0, 0), [])] 0 1 := by
  refine rm_tok base l cI c1 c2 c3 c4 c5 D ad adV ?_
  intro G X L f av hX hXC hall hT
  obtain ⟨v0, vs0, rfl, ⟨a0, rfl, hG⟩, hall0⟩ := rk_all_cons hall
  obtain ⟨v1, vs1, rfl, ⟨i0, rfl, a1, b1⟩, hall1⟩ := rk_all_cons hall0
  cases rk_all_nil hall1
  refine ⟨_, _, _, h_sign base l cI c1 c2 c3 c4 c5 D ad adV a0 i0 ⟨a1, b1⟩, hG, Int.le_refl _, fun v u _ hP => by
    have hP : v = none := hP
    subst hP
    exact rk_alt_0⟩
theorem c_X12_takesAtEnd_0 : rm_Mi base l cI c1 c2 c3 c4 c5 D ad adV rk_q_X12_takesAtEnd [(2, 12, 0), (0, 0, 7)] [((9, 0, 0), [])] 3 3 := by
  refine rm_toki base l cI c1 c2 c3 c4 c5 D ad adV ?_
  intro G X L f av hX hXC hall hT hPI
  obtain ⟨v0, vs0, rfl, ⟨a0, rfl, hG⟩, hall0⟩ := rk_all_cons hall
  obtain ⟨v1, vs1, rfl, ⟨i0, rfl, a1, b1⟩, hall1⟩ := rk_all_cons hall0
  obtain ⟨n0, e0⟩ : ∃ n : Nat, i0.toInt = (n : Int) := ⟨i0.toInt.toNat, by omega⟩
  cases rk_all_nil hall1
  refine ⟨_, _, _, h_takesAtEnd base l cI c1 c2 c3 c4 c5 D ad adV a0 i0 n0 e0 (by omega), ⟨hG, hPI.1, hPI.2 a0 hG⟩, Int.le_refl _, fun v u _ hP => by
    have hP : v = none := hP
    subst hP
    exact rk_alt_0⟩
theorem c_X12_way_0 : rm_Mc base l cI c1 c2 c3 c4 c5 D ad adV rk_q_X12_way [(2, 12, 0), (0, -2147483648, 2147483647), (0, -2147483648, 2147483647), (0, -2147483648, 2147483647)] [((0, -2147483648, 2147483647), [])] 0 1 := by
  refine rm_tok base l cI c1 c2 c3 c4 c5 D ad adV ?_
  intro G X L f av hX hXC hall hT
  obtain ⟨v0, vs0, rfl, ⟨a0, rfl, hG⟩, hall0⟩ := rk_all_cons hall
  obtain ⟨v1, vs1, rfl, ⟨i0, rfl, a1, b1⟩, hall1⟩ := rk_all_cons hall0
  obtain ⟨v2, vs2, rfl, ⟨i1, rfl, a2, b2⟩, hall2⟩ := rk_all_cons hall1
  obtain ⟨v3, vs3, rfl, ⟨i2, rfl, a3, b3⟩, hall3⟩ := rk_all_cons hall2
  cases rk_all_nil hall3
  refine ⟨_, _, _, h_way base l cI c1 c2 c3 c4 c5 D ad adV a0 i0 i1 i2, hG, Int.le_refl _, fun v u _ hP => by
    obtain ⟨x, rfl⟩ := hP
    exact rk_alt_1 rk_aF (by decide)⟩
theorem c_X12_readSocket_0 : rm_Mc base l cI c1 c2 c3 c4 c5 D ad adV rk_q_X12_readSocket [(2, 12, 0), (0, -1, 39)] [((0, 0, 39), [])] 0 1 := by
  refine rm_tok base l cI c1 c2 c3 c4 c5 D ad adV ?_
  intro G X L f av hX hXC hall hT
  obtain ⟨v0, vs0, rfl, ⟨a0, rfl, hG⟩, hall0⟩ := rk_all_cons hall
  obtain ⟨v1, vs1, rfl, ⟨i0, rfl, a1, b1⟩, hall1⟩ := rk_all_cons hall0
  cases rk_all_nil hall1
  refine ⟨_, _, _, h_readSocket base l cI c1 c2 c3 c4 c5 D ad adV a0 i0, hG, Int.le_refl _, fun v u _ hP => by
    obtain ⟨x, rfl, h1, h2⟩ := hP
    exact rk_alt_1 ⟨x, rfl, h1, h2⟩ (by decide)⟩
theorem c_X12_readTable_0 : rm_Mc base l cI c1 c2 c3 c4 c5 D ad adV rk_q_X12_readTable [(2, 12, 0)] [((9, 0, 0), [])] 0 1 := by
  refine rm_tok base l cI c1 c2 c3 c4 c5 D ad adV ?_
  intro G X L f av hX hXC hall hT
  obtain ⟨v0, vs0, rfl, ⟨a0, rfl, hG⟩, hall0⟩ := rk_all_cons hall
  cases rk_all_nil hall0
  refine ⟨_, _, _, h_readTable base l cI c1 c2 c3 c4 c5 D ad adV a0 , hG, Int.le_refl _, fun v u _ hP => by
    have hP : v = none := hP
    subst hP
    exact rk_alt_0⟩
theorem c_X12_feed_0 : rm_Mc base l cI c1 c2 c3 c4 c5 D ad adV rk_q_X12_feed [(2, 12, 0), (0, -2147483648, 2147483647), (0, -2147483648, 2147483647), (0, -2147483648, 2147483647), (0, -2147483648, 2147483647), (0, -2147483648, 2147483647)] [((0, -1, 400), [])] 0 17 := by
  refine rm_tok base l cI c1 c2 c3 c4 c5 D ad adV ?_
  intro G X L f av hX hXC hall hT
  obtain ⟨v0, vs0, rfl, ⟨a0, rfl, hG⟩, hall0⟩ := rk_all_cons hall
  obtain ⟨v1, vs1, rfl, ⟨i0, rfl, a1, b1⟩, hall1⟩ := rk_all_cons hall0
  obtain ⟨v2, vs2, rfl, ⟨i1, rfl, a2, b2⟩, hall2⟩ := rk_all_cons hall1
  obtain ⟨v3, vs3, rfl, ⟨i2, rfl, a3, b3⟩, hall3⟩ := rk_all_cons hall2
  obtain ⟨v4, vs4, rfl, ⟨i3, rfl, a4, b4⟩, hall4⟩ := rk_all_cons hall3
  obtain ⟨v5, vs5, rfl, ⟨i4, rfl, a5, b5⟩, hall5⟩ := rk_all_cons hall4
  cases rk_all_nil hall5
  refine ⟨_, _, _, h_feed base l cI c1 c2 c3 c4 c5 D ad adV a0 i0 i1 i2 i3 i4, hG, Int.le_refl _, fun v u _ hP => by
    obtain ⟨x, rfl, h⟩ := hP
    have b4 := rm_fiT hT hG (i := 4) rfl
    exact rk_alt_1 ⟨x, rfl, by omega, by omega⟩ (by decide)⟩
theorem c_X12_number_0 : rm_Mc base l cI c1 c2 c3 c4 c5 D ad adV rk_q_X12_number [(2, 12, 0), (0, 0, 0), (0, 7, 7)] [((0, 0, 7), [])] 0 1 := by
  refine rm_tok base l cI c1 c2 c3 c4 c5 D ad adV ?_
  intro G X L f av hX hXC hall hT
  obtain ⟨v0, vs0, rfl, ⟨a0, rfl, hG⟩, hall0⟩ := rk_all_cons hall
  obtain ⟨v1, vs1, rfl, ⟨i0, rfl, a1, b1⟩, hall1⟩ := rk_all_cons hall0
  obtain ⟨v2, vs2, rfl, ⟨i1, rfl, a2, b2⟩, hall2⟩ := rk_all_cons hall1
  cases rk_all_nil hall2
  refine ⟨_, _, _, h_number base l cI c1 c2 c3 c4 c5 D ad adV a0 i0 i1 ⟨by omega, by omega⟩, hG, Int.le_refl _, fun v u _ hP => by
    obtain ⟨x, rfl, h1, h2, -⟩ := hP
    exact rk_alt_1 ⟨x, rfl, h1, by omega⟩ (by decide)⟩
theorem c_X12_number_1 : rm_Mc base l cI c1 c2 c3 c4 c5 D ad adV rk_q_X12_number [(2, 12, 0), (0, 0, 0), (0, 3, 3)] [((0, 0, 3), [])] 0 1 := by
  refine rm_tok base l cI c1 c2 c3 c4 c5 D ad adV ?_
  intro G X L f av hX hXC hall hT
  obtain ⟨v0, vs0, rfl, ⟨a0, rfl, hG⟩, hall0⟩ := rk_all_cons hall
  obtain ⟨v1, vs1, rfl, ⟨i0, rfl, a1, b1⟩, hall1⟩ := rk_all_cons hall0
  obtain ⟨v2, vs2, rfl, ⟨i1, rfl, a2, b2⟩, hall2⟩ := rk_all_cons hall1
  cases rk_all_nil hall2
  refine ⟨_, _, _, h_number base l cI c1 c2 c3 c4 c5 D ad adV a0 i0 i1 ⟨by omega, by omega⟩, hG, Int.le_refl _, fun v u _ hP => by
    obtain ⟨x, rfl, h1, h2, -⟩ := hP
    exact rk_alt_1 ⟨x, rfl, h1, by omega⟩ (by decide)⟩
theorem c_X12_number_2 : rm_Mc base l cI c1 c2 c3 c4 c5 D ad adV rk_q_X12_number [(2, 12, 0), (0, 1, 1), (0, 7, 7)] [((0, 0, 7), [])] 0 1 := by
  refine rm_tok base l cI c1 c2 c3 c4 c5 D ad adV ?_
  intro G X L f av hX hXC hall hT
  obtain ⟨v0, vs0, rfl, ⟨a0, rfl, hG⟩, hall0⟩ := rk_all_cons hall
  obtain ⟨v1, vs1, rfl, ⟨i0, rfl, a1, b1⟩, hall1⟩ := rk_all_cons hall0
  obtain ⟨v2, vs2, rfl, ⟨i1, rfl, a2, b2⟩, hall2⟩ := rk_all_cons hall1
  cases rk_all_nil hall2
  refine ⟨_, _, _, h_number base l cI c1 c2 c3 c4 c5 D ad adV a0 i0 i1 ⟨by omega, by omega⟩, hG, Int.le_refl _, fun v u _ hP => by
    obtain ⟨x, rfl, h1, h2, -⟩ := hP
    exact rk_alt_1 ⟨x, rfl, h1, by omega⟩ (by decide)⟩
theorem c_X12_number_3 : rm_Mc base l cI c1 c2 c3 c4 c5 D ad adV rk_q_X12_number [(2, 12, 0), (0, 32, 32), (0, 95, 95)] [((0, 0, 95), [])] 0 1 := by
  refine rm_tok base l cI c1 c2 c3 c4 c5 D ad adV ?_
  intro G X L f av hX hXC hall hT
  obtain ⟨v0, vs0, rfl, ⟨a0, rfl, hG⟩, hall0⟩ := rk_all_cons hall
  obtain ⟨v1, vs1, rfl, ⟨i0, rfl, a1, b1⟩, hall1⟩ := rk_all_cons hall0
  obtain ⟨v2, vs2, rfl, ⟨i1, rfl, a2, b2⟩, hall2⟩ := rk_all_cons hall1
  cases rk_all_nil hall2
  refine ⟨_, _, _, h_number base l cI c1 c2 c3 c4 c5 D ad adV a0 i0 i1 ⟨by omega, by omega⟩, hG, Int.le_refl _, fun v u _ hP => by
    obtain ⟨x, rfl, h1, h2, -⟩ := hP
    exact rk_alt_1 ⟨x, rfl, h1, by omega⟩ (by decide)⟩
theorem c_X12_copies_0 : rm_Mc base l cI c1 c2 c3 c4 c5 D ad adV rk_q_X12_copies [(2, 12, 0), (2, 24, 0), (2, 30, 0)] [((9, 0, 0), [])] 0 259 := by
  refine rm_tok base l cI c1 c2 c3 c4 c5 D ad adV ?_
  intro G X L f av hX hXC hall hT
  obtain ⟨v0, vs0, rfl, ⟨a0, rfl, hG⟩, hall0⟩ := rk_all_cons hall
  obtain ⟨v1, vs1, rfl, ⟨a1, rfl, hG1⟩, hall1⟩ := rk_all_cons hall0
  obtain ⟨v2, vs2, rfl, ⟨a2, rfl, hG2⟩, hall2⟩ := rk_all_cons hall1
  cases rk_all_nil hall2
  refine ⟨_, _, _, h_copies_0 base l cI c1 c2 c3 c4 c5 D ad adV a0 a1 a2, ⟨hG, hG1, hG2⟩, Int.le_refl _, fun v u _ hP => by
    have hP : v = none := hP
    subst hP
    exact rk_alt_0⟩
theorem c_X12_copies_1 : rm_Mc base l cI c1 c2 c3 c4 c5 D ad adV rk_q_X12_copies [(2, 12, 0), (2, 30, 0), (2, 24, 0)] [((9, 0, 0), [])] 0 103 := by
  refine rm_tok base l cI c1 c2 c3 c4 c5 D ad adV ?_
  intro G X L f av hX hXC hall hT
  obtain ⟨v0, vs0, rfl, ⟨a0, rfl, hG⟩, hall0⟩ := rk_all_cons hall
  obtain ⟨v1, vs1, rfl, ⟨a1, rfl, hG1⟩, hall1⟩ := rk_all_cons hall0
  obtain ⟨v2, vs2, rfl, ⟨a2, rfl, hG2⟩, hall2⟩ := rk_all_cons hall1
  cases rk_all_nil hall2
  refine ⟨_, _, _, h_copies_1 base l cI c1 c2 c3 c4 c5 D ad adV a0 a1 a2, ⟨hG, hG1, hG2⟩, Int.le_refl _, fun v u _ hP => by
    have hP : v = none := hP
    subst hP
    exact rk_alt_0⟩
theorem c_X12_copies_2 : rm_Mc base l cI c1 c2 c3 c4 c5 D ad adV rk_q_X12_copies [(2, 12, 0), (2, 24, 0), (2, 31, 0)] [((9, 0, 0), [])] 0 259 := by
  refine rm_tok base l cI c1 c2 c3 c4 c5 D ad adV ?_
  intro G X L f av hX hXC hall hT
  obtain ⟨v0, vs0, rfl, ⟨a0, rfl, hG⟩, hall0⟩ := rk_all_cons hall
  obtain ⟨v1, vs1, rfl, ⟨a1, rfl, hG1⟩, hall1⟩ := rk_all_cons hall0
  obtain ⟨v2, vs2, rfl, ⟨a2, rfl, hG2⟩, hall2⟩ := rk_all_cons hall1
  cases rk_all_nil hall2
  refine ⟨_, _, _, h_copies_2 base l cI c1 c2 c3 c4 c5 D ad adV a0 a1 a2, ⟨hG, hG1, hG2⟩, Int.le_refl _, fun v u _ hP => by
    have hP : v = none := hP
    subst hP
    exact rk_alt_0⟩
theorem c_X12_copies_3 : rm_Mc base l cI c1 c2 c3 c4 c5 D ad adV rk_q_X12_copies [(2, 12, 0), (2, 31, 0), (2, 24, 0)] [((9, 0, 0), [])] 0 103 := by
  refine rm_tok base l cI c1 c2 c3 c4 c5 D ad adV ?_
  intro G X L f av hX hXC hall hT
  obtain ⟨v0, vs0, rfl, ⟨a0, rfl, hG⟩, hall0⟩ := rk_all_cons hall
  obtain ⟨v1, vs1, rfl, ⟨a1, rfl, hG1⟩, hall1⟩ := rk_all_cons hall0
  obtain ⟨v2, vs2, rfl, ⟨a2, rfl, hG2⟩, hall2⟩ := rk_all_cons hall1
  cases rk_all_nil hall2
  refine ⟨_, _, _, h_copies_3 base l cI c1 c2 c3 c4 c5 D ad adV a0 a1 a2, ⟨hG, hG1, hG2⟩, Int.le_refl _, fun v u _ hP => by
    have hP : v = none := hP
    subst hP
    exact rk_alt_0⟩
theorem c_X12_takesWord_0 : rm_Mc base l cI c1 c2 c3 c4 c5 D ad adV rk_q_X12_takesWord [(2, 12, 0), (2, 1000, 0)] [((0, 0, 1), [])] 0 1 := by
  refine rm_tok base l cI c1 c2 c3 c4 c5 D ad adV ?_
  intro G X L f av hX hXC hall hT
  obtain ⟨v0, vs0, rfl, ⟨a0, rfl, hG⟩, hall0⟩ := rk_all_cons hall
  obtain ⟨v1, vs1, rfl, ⟨a1, rfl, hG1⟩, hall1⟩ := rk_all_cons hall0
  cases rk_all_nil hall1
  have h9 : ((ad 0 : Nat) : Int) = (a1 : Int) := (hT.2 a1 1000 rfl).mp hG1
  have h8 : a1 = ad 0 := by omega
  subst h8
  refine ⟨_, _, _, h_takesWord base l cI c1 c2 c3 c4 c5 D ad adV a0 0 (by decide), hG, Int.le_refl _, fun v u _ hP => by
    obtain ⟨x, rfl, h1⟩ := hP
    exact rk_alt_1 ⟨x, rfl, by omega, by omega⟩ (by decide)⟩
theorem c_X12_takesWord_1 : rm_Mc base l cI c1 c2 c3 c4 c5 D ad adV rk_q_X12_takesWord [(2, 12, 0), (2, 1001, 0)] [((0, 0, 1), [])] 0 1 := by
  refine rm_tok base l cI c1 c2 c3 c4 c5 D ad adV ?_
  intro G X L f av hX hXC hall hT
  obtain ⟨v0, vs0, rfl, ⟨a0, rfl, hG⟩, hall0⟩ := rk_all_cons hall
  obtain ⟨v1, vs1, rfl, ⟨a1, rfl, hG1⟩, hall1⟩ := rk_all_cons hall0
  cases rk_all_nil hall1
  have h9 : ((ad 1 : Nat) : Int) = (a1 : Int) := (hT.2 a1 1001 rfl).mp hG1
  have h8 : a1 = ad 1 := by omega
  subst h8
  refine ⟨_, _, _, h_takesWord base l cI c1 c2 c3 c4 c5 D ad adV a0 1 (by decide), hG, Int.le_refl _, fun v u _ hP => by
    obtain ⟨x, rfl, h1⟩ := hP
    exact rk_alt_1 ⟨x, rfl, by omega, by omega⟩ (by decide)⟩
theorem c_X12_takesWord_2 : rm_Mc base l cI c1 c2 c3 c4 c5 D ad adV rk_q_X12_takesWord [(2, 12, 0), (2, 1002, 0)] [((0, 0, 1), [])] 0 1 := by
  refine rm_tok base l cI c1 c2 c3 c4 c5 D ad adV ?_
  intro G X L f av hX hXC hall hT
  obtain ⟨v0, vs0, rfl, ⟨a0, rfl, hG⟩, hall0⟩ := rk_all_cons hall
  obtain ⟨v1, vs1, rfl, ⟨a1, rfl, hG1⟩, hall1⟩ := rk_all_cons hall0
  cases rk_all_nil hall1
  have h9 : ((ad 2 : Nat) : Int) = (a1 : Int) := (hT.2 a1 1002 rfl).mp hG1
  have h8 : a1 = ad 2 := by omega
  subst h8
  refine ⟨_, _, _, h_takesWord base l cI c1 c2 c3 c4 c5 D ad adV a0 2 (by decide), hG, Int.le_refl _, fun v u _ hP => by
    obtain ⟨x, rfl, h1⟩ := hP
    exact rk_alt_1 ⟨x, rfl, by omega, by omega⟩ (by decide)⟩
theorem c_X12_takesWord_3 : rm_Mc base l cI c1 c2 c3 c4 c5 D ad adV rk_q_X12_takesWord [(2, 12, 0), (2, 1003, 0)] [((0, 0, 1), [])] 0 1 := by
  refine rm_tok base l cI c1 c2 c3 c4 c5 D ad adV ?_
  intro G X L f av hX hXC hall hT
  obtain ⟨v0, vs0, rfl, ⟨a0, rfl, hG⟩, hall0⟩ := rk_all_cons hall
  obtain ⟨v1, vs1, rfl, ⟨a1, rfl, hG1⟩, hall1⟩ := rk_all_cons hall0
  cases rk_all_nil hall1
  have h9 : ((ad 3 : Nat) : Int) = (a1 : Int) := (hT.2 a1 1003 rfl).mp hG1
  have h8 : a1 = ad 3 := by omega
  subst h8
  refine ⟨_, _, _, h_takesWord base l cI c1 c2 c3 c4 c5 D ad adV a0 3 (by decide), hG, Int.le_refl _, fun v u _ hP => by
    obtain ⟨x, rfl, h1⟩ := hP
    exact rk_alt_1 ⟨x, rfl, by omega, by omega⟩ (by decide)⟩
theorem c_X12_takesWord_4 : rm_Mc base l cI c1 c2 c3 c4 c5 D ad adV rk_q_X12_takesWord [(2, 12, 0), (2, 1004, 0)] [((0, 0, 1), [])] 0 1 := by
  refine rm_tok base l cI c1 c2 c3 c4 c5 D ad adV ?_
  intro G X L f av hX hXC hall hT
  obtain ⟨v0, vs0, rfl, ⟨a0, rfl, hG⟩, hall0⟩ := rk_all_cons hall
  obtain ⟨v1, vs1, rfl, ⟨a1, rfl, hG1⟩, hall1⟩ := rk_all_cons hall0
  cases rk_all_nil hall1
  have h9 : ((ad 4 : Nat) : Int) = (a1 : Int) := (hT.2 a1 1004 rfl).mp hG1
  have h8 : a1 = ad 4 := by omega
  subst h8
  refine ⟨_, _, _, h_takesWord base l cI c1 c2 c3 c4 c5 D ad adV a0 4 (by decide), hG, Int.le_refl _, fun v u _ hP => by
    obtain ⟨x, rfl, h1⟩ := hP
    exact rk_alt_1 ⟨x, rfl, by omega, by omega⟩ (by decide)⟩
end RMX
