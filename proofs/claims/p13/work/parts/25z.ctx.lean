section RMX
variable (base : Nat) (l : Launch) (cI c1 c2 c3 c4 c5 : ClassId) (D : va_G) (ad adV : Nat → Nat)
theorem c_X12_spillsOne_0 : rm_Mi base l cI c1 c2 c3 c4 c5 D ad adV rk_q_X12_spillsOne [(2, 12, 0), (0, 0, 31), (0, 0, 257)] [((9, 0, 0), [])] 3 3 := by
  refine rm_toki base l cI c1 c2 c3 c4 c5 D ad adV ?_
  intro G X L f av hX hXC hall hT hPI
  obtain ⟨v0, vs0, rfl, ⟨a0, rfl, hG⟩, hall0⟩ := rk_all_cons hall
  obtain ⟨v1, vs1, rfl, ⟨i0, rfl, a1, b1⟩, hall1⟩ := rk_all_cons hall0
  obtain ⟨n0, e0⟩ : ∃ n : Nat, i0.toInt = (n : Int) := ⟨i0.toInt.toNat, by omega⟩
  obtain ⟨v2, vs2, rfl, ⟨i1, rfl, a2, b2⟩, hall2⟩ := rk_all_cons hall1
  cases rk_all_nil hall2
  refine ⟨_, _, _, h_spillsOne base l cI c1 c2 c3 c4 c5 D ad adV a0 i0 i1 n0 e0 (by omega) ⟨a2, b2⟩, ⟨hG, hPI.1, hPI.2 a0 hG⟩, Int.le_refl _, fun v u _ hP => by
    have hP : v = none := hP
    subst hP
    exact rk_alt_0⟩
theorem c_X12_looksAt_0 : rm_Mi base l cI c1 c2 c3 c4 c5 D ad adV rk_q_X12_looksAt [(2, 12, 0), (0, 0, 31)] [((9, 0, 0), [])] 105 3 := by
  refine rm_toki base l cI c1 c2 c3 c4 c5 D ad adV ?_
  intro G X L f av hX hXC hall hT hPI
  obtain ⟨v0, vs0, rfl, ⟨a0, rfl, hG⟩, hall0⟩ := rk_all_cons hall
  obtain ⟨v1, vs1, rfl, ⟨i0, rfl, a1, b1⟩, hall1⟩ := rk_all_cons hall0
  obtain ⟨n0, e0⟩ : ∃ n : Nat, i0.toInt = (n : Int) := ⟨i0.toInt.toNat, by omega⟩
  cases rk_all_nil hall1
  refine ⟨_, _, _, h_looksAt base l cI c1 c2 c3 c4 c5 D ad adV a0 i0 n0 e0 (by omega), ⟨hG, hPI.1, hPI.2 a0 hG⟩, Int.le_refl _, fun v u _ hP => by
    have hP : v = none := hP
    subst hP
    exact rk_alt_0⟩
theorem c_X12_text_0 : rm_Mi base l cI c1 c2 c3 c4 c5 D ad adV rk_q_X12_text [(2, 12, 0)] [((0, -1, 400), [])] 2000 1911 := by
  refine rm_toki base l cI c1 c2 c3 c4 c5 D ad adV ?_
  intro G X L f av hX hXC hall hT hPI
  obtain ⟨v0, vs0, rfl, ⟨a0, rfl, hG⟩, hall0⟩ := rk_all_cons hall
  cases rk_all_nil hall0
  refine ⟨_, _, _, h_text base l cI c1 c2 c3 c4 c5 D ad adV a0 , ⟨hG, hPI.1, hPI.2 a0 hG⟩, Int.le_refl _, fun v u _ hP => by
    obtain ⟨x, rfl, h1, h2⟩ := hP
    exact rk_alt_1 ⟨x, rfl, h1, h2⟩ (by decide)⟩
end RMX
