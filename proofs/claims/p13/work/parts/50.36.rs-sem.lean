/-! what the things say of the machine -/
def rs_den (r : Nat → Int32) (sb : Nat) (ad : Nat → Nat) (nn : Nat) (v : rs_V) (x : Value) : Prop := match v with
  | (0, a, _) => x = .int (rs_i a)
  | (1, k, c) => x = .int (r k + rs_i c)
  | (2, k, m) => x = .int (r k &&& rs_i m)
  | (3, _, _) => ∃ y : Int32, x = .int y
  | (4, i, _) => i < nn ∧ x = .ref (ad i)
  | (5, _, _) => x = .null
  | (6, _, _) => x = .ref sb
  | _ => False
theorem rs_den_mono {r : Nat → Int32} {sb : Nat} {ad ad' : Nat → Nat} {nn nn' : Nat} (h : nn ≤ nn') (he : ∀ i, i < nn → ad' i = ad i) {v : rs_V} {x : Value} (hd : rs_den r sb ad nn v x) : rs_den r sb ad' nn' v x := by
  obtain ⟨t, a, c⟩ := v
  rcases t with _ | _ | _ | _ | _ | _ | _ | t
  · exact hd
  · exact hd
  · exact hd
  · exact hd
  · obtain ⟨h1, h2⟩ := hd
    exact ⟨by omega, by rw [he a h1]; exact h2⟩
  · exact hd
  · exact hd
  · exact hd
theorem rs_den_cat {r : Nat → Int32} {sb : Nat} {ad : Nat → Nat} {nn : Nat} {v : rs_V} {x : Value} (hd : rs_den r sb ad nn v x) : x.category = 1 := by
  obtain ⟨t, a, c⟩ := v
  rcases t with _ | _ | _ | _ | _ | _ | _ | t
  · rw [hd]; rfl
  · rw [hd]; rfl
  · rw [hd]; rfl
  · obtain ⟨y, rfl⟩ := hd; rfl
  · rw [hd.2]; rfl
  · rw [hd]; rfl
  · rw [hd]; rfl
  · exact absurd hd id
theorem rs_den_I {r : Nat → Int32} {sb : Nat} {ad : Nat → Nat} {nn : Nat} {v : rs_V} {x : Value} (h : v.1 ≤ 3) (hd : rs_den r sb ad nn v x) : ∃ y : Int32, x = .int y := by
  obtain ⟨t, a, c⟩ := v
  rcases t with _ | _ | _ | _ | t
  · exact ⟨_, hd⟩
  · exact ⟨_, hd⟩
  · exact ⟨_, hd⟩
  · exact hd
  · exact absurd h (by dsimp only; omega)
theorem rs_den_R {r : Nat → Int32} {sb : Nat} {ad : Nat → Nat} {nn : Nat} {v : rs_V} {x : Value} (h : v.1 = 4) (hd : rs_den r sb ad nn v x) : v.2.1 < nn ∧ x = .ref (ad v.2.1) := by
  obtain ⟨t, a, c⟩ := v
  dsimp only at h
  subst h
  exact hd
theorem rs_den_N {r : Nat → Int32} {sb : Nat} {ad : Nat → Nat} {nn : Nat} {v : rs_V} {x : Value} (h : v.1 = 5) (hd : rs_den r sb ad nn v x) : x = .null := by
  obtain ⟨t, a, c⟩ := v
  dsimp only at h
  subst h
  exact hd
theorem rs_den_0 {r : Nat → Int32} {sb : Nat} {ad : Nat → Nat} {nn : Nat} {v : rs_V} {x : Value} (h : v.1 = 0) (hd : rs_den r sb ad nn v x) : x = .int (rs_i v.2.1) := by
  obtain ⟨t, a, c⟩ := v
  dsimp only at h
  subst h
  exact hd
theorem rs_den_1 {r : Nat → Int32} {sb : Nat} {ad : Nat → Nat} {nn : Nat} {v : rs_V} {x : Value} (h : v.1 = 1) (hd : rs_den r sb ad nn v x) : x = .int (r v.2.1 + rs_i v.2.2) := by
  obtain ⟨t, a, c⟩ := v
  dsimp only at h
  subst h
  exact hd
theorem rs_den_2 {r : Nat → Int32} {sb : Nat} {ad : Nat → Nat} {nn : Nat} {v : rs_V} {x : Value} (h : v.1 = 2) (hd : rs_den r sb ad nn v x) : x = .int (r v.2.1 &&& rs_i v.2.2) := by
  obtain ⟨t, a, c⟩ := v
  dsimp only at h
  subst h
  exact hd
theorem rs_resE {r : Nat → Int32} {sb : Nat} {ad : Nat → Nat} {nn : Nat} {en : rs_E} {v : rs_V} {x : Value} {k : rs_V → Bool} (h : rs_res en v k = true) (he : rs_env r en) (hd : rs_den r sb ad nn v x) : ∃ v', k v' = true ∧ rs_den r sb ad nn v' x := by
  unfold rs_res at h
  rcases rs_ifE h with ⟨h1, h⟩ | ⟨h1, h⟩
  · have h1 := rs_eqE h1
    have hx := rs_den_1 h1 hd
    have hv := he v.2.1
    rcases hE : rs_eg en v.2.1 with ⟨lo, hi, pa⟩
    rw [hE] at h hv
    rcases rs_ifE h with ⟨h2, h⟩ | ⟨h2, h⟩
    · have h2 : lo = hi := rs_eqE h2
      refine ⟨_, rs_nfE h, ?_⟩
      obtain ⟨v1, v2, -⟩ := hv
      dsimp only at v1 v2
      show x = .int (rs_i ((lo + 2147483648 + v.2.2) % 4294967296))
      rw [hx, rs_i_mod, rs_of_b (x := r v.2.1) (n := lo) (by omega), rs_i_mod]
      have := rs_i_add (lo + 2147483648) v.2.2
      rw [rs_i_mod] at this
      rw [this]
    · exact ⟨v, h, hd⟩
  · exact ⟨v, h, hd⟩
theorem rs_tstE (cd : Nat) (hcd : cd ≤ 5) (x y : Nat) : (rs_tst cd x y = true ↔ rk_rel cd (x : Int) (y : Int)) := by
  have hb : ∀ a b : Nat, Nat.beq a b = true ↔ a = b := fun a b => ⟨rs_eqE, fun h => by rw [h]; exact Nat.beq_refl b⟩
  have hl : ∀ a b : Nat, Nat.ble a b = true ↔ a ≤ b := fun a b => ⟨rs_leE, Nat.ble_eq_true_of_le⟩
  have hn : ∀ c : Bool, @Bool.rec (fun _ => Bool) true false c = true ↔ ¬ c = true := by
    intro c
    cases c <;> simp
  have e : cd = 0 ∨ cd = 1 ∨ cd = 2 ∨ cd = 3 ∨ cd = 4 ∨ cd = 5 := by omega
  rcases e with rfl | rfl | rfl | rfl | rfl | rfl
  · exact (hb x y).trans (by simp only [rk_rel]; omega)
  · exact (hn (Nat.beq x y)).trans (by rw [hb]; simp only [rk_rel]; omega)
  · exact (hn (Nat.ble y x)).trans (by rw [hl]; simp only [rk_rel]; omega)
  · exact (hl y x).trans (by simp only [rk_rel]; omega)
  · exact (hn (Nat.ble x y)).trans (by rw [hl]; simp only [rk_rel]; omega)
  · exact (hl x y).trans (by simp only [rk_rel]; omega)
theorem rs_rel_sh (cd : Nat) (x y z : Int) : rk_rel cd (x - z) (y - z) ↔ rk_rel cd x y := by
  rcases cd with _ | _ | _ | _ | _ | cd <;> simp only [rk_rel] <;> omega
theorem rs_relE (cd : Nat) (hcd : cd ≤ 5) (X Y : Int32) : (rs_tst cd (rs_b X) (rs_b Y) = true ↔ rk_rel cd X.toInt Y.toInt) := by
  rw [rs_b_toInt X, rs_b_toInt Y, rs_rel_sh]
  exact rs_tstE cd hcd _ _
theorem rs_csE {r : Nat → Int32} {en : rs_E} {cd a c b : Nat} {kT kF : rs_E → Bool} (hcd : cd ≤ 5) (h : rs_cs en cd a c b kT kF = true) (he : rs_env r en) {Y : Int32} (hY : rs_b Y = b) : ∃ en', rs_env r en' ∧ ((rk_rel cd (r a + rs_i c).toInt Y.toInt ∧ kT en' = true) ∨ (¬ rk_rel cd (r a + rs_i c).toInt Y.toInt ∧ kF en' = true)) := by
  generalize hX : r a + rs_i c = X
  have e1 := rs_b_toInt X
  have e2 := rs_b_toInt Y
  have key : ∀ (b' : Nat) (kT kF : rs_E → Bool), rs_lt en a c b' kT kF = true → ∃ en', rs_env r en' ∧ ((rs_b X < b' ∧ kT en' = true) ∨ (b' ≤ rs_b X ∧ kF en' = true)) := by
    intro b' kT kF h
    have := rs_ltE2 h he
    rw [hX] at this
    exact this
  have key2 : ∀ (kT kF : rs_E → Bool), rs_eq en a c b kT kF = true → ∃ en', rs_env r en' ∧ ((rs_b X = b ∧ kT en' = true) ∨ (rs_b X ≠ b ∧ kF en' = true)) := by
    intro kT kF h
    have := rs_eqE2 h he
    rw [hX] at this
    exact this
  have e : cd = 0 ∨ cd = 1 ∨ cd = 2 ∨ cd = 3 ∨ cd = 4 ∨ cd = 5 := by omega
  rcases e with rfl | rfl | rfl | rfl | rfl | rfl
  · obtain ⟨en', a1, a2 | a2⟩ := key2 _ _ h
    · exact ⟨en', a1, Or.inl ⟨by simp only [rk_rel]; omega, a2.2⟩⟩
    · exact ⟨en', a1, Or.inr ⟨by simp only [rk_rel]; omega, a2.2⟩⟩
  · obtain ⟨en', a1, a2 | a2⟩ := key2 _ _ h
    · exact ⟨en', a1, Or.inr ⟨by simp only [rk_rel]; omega, a2.2⟩⟩
    · exact ⟨en', a1, Or.inl ⟨by simp only [rk_rel]; omega, a2.2⟩⟩
  · obtain ⟨en', a1, a2 | a2⟩ := key _ _ _ h
    · exact ⟨en', a1, Or.inl ⟨by simp only [rk_rel]; omega, a2.2⟩⟩
    · exact ⟨en', a1, Or.inr ⟨by simp only [rk_rel]; omega, a2.2⟩⟩
  · obtain ⟨en', a1, a2 | a2⟩ := key _ _ _ h
    · exact ⟨en', a1, Or.inr ⟨by simp only [rk_rel]; omega, a2.2⟩⟩
    · exact ⟨en', a1, Or.inl ⟨by simp only [rk_rel]; omega, a2.2⟩⟩
  · obtain ⟨en', a1, a2 | a2⟩ := key (b + 1) _ _ h
    · exact ⟨en', a1, Or.inr ⟨by simp only [rk_rel]; omega, a2.2⟩⟩
    · exact ⟨en', a1, Or.inl ⟨by simp only [rk_rel]; omega, a2.2⟩⟩
  · obtain ⟨en', a1, a2 | a2⟩ := key (b + 1) _ _ h
    · exact ⟨en', a1, Or.inl ⟨by simp only [rk_rel]; omega, a2.2⟩⟩
    · exact ⟨en', a1, Or.inr ⟨by simp only [rk_rel]; omega, a2.2⟩⟩
theorem rs_swE (cd : Nat) (hcd : cd ≤ 5) (x y : Int) : rs_sw cd ≤ 5 ∧ (rk_rel (rs_sw cd) y x ↔ rk_rel cd x y) := by
  have e : cd = 0 ∨ cd = 1 ∨ cd = 2 ∨ cd = 3 ∨ cd = 4 ∨ cd = 5 := by omega
  rcases e with rfl | rfl | rfl | rfl | rfl | rfl <;> refine ⟨by decide, ?_⟩ <;> simp only [rs_sw, rk_rel] <;> omega
set_option maxHeartbeats 400000 in
theorem rs_cmpE {r : Nat → Int32} {sb : Nat} {ad : Nat → Nat} {nn : Nat} {en : rs_E} {cd : Nat} {x y : rs_V} {kT kF : rs_E → Bool} {ks : Nat → Bool} {X Y : Int32} (hcd : cd ≤ 5) (h : rs_cmp en cd x y kT kF ks = true) (he : rs_env r en) (hx : rs_den r sb ad nn x (.int X)) (hy : rs_den r sb ad nn y (.int Y)) :
    (∃ en', rs_env r en' ∧ ((rk_rel cd X.toInt Y.toInt ∧ kT en' = true) ∨ (¬ rk_rel cd X.toInt Y.toInt ∧ kF en' = true))) ∨ ∃ a, ks a = true := by
  unfold rs_cmp at h
  rcases rs_ifE h with ⟨h1, h⟩ | ⟨-, h⟩
  · have h1 : x.1 + y.1 = 0 := rs_eqE h1
    have ex := rs_den_0 (by omega) hx
    have ey := rs_den_0 (by omega) hy
    have ex := Value.int.inj ex
    subst ex
    have ey := Value.int.inj ey
    subst ey
    have hr := rs_relE cd hcd (rs_i x.2.1) (rs_i y.2.1)
    rw [rs_b_i, rs_b_i] at hr
    rcases rs_ifE h with ⟨h2, h⟩ | ⟨h2, h⟩
    · exact Or.inl ⟨en, he, Or.inl ⟨hr.mp h2, h⟩⟩
    · exact Or.inl ⟨en, he, Or.inr ⟨fun h3 => absurd (hr.mpr h3) (by rw [h2]; decide), h⟩⟩
  · unfold rs_cmp2 at h
    rcases rs_ifE h with ⟨h1, h⟩ | ⟨-, h⟩
    · have ex := rs_den_0 (rs_eqE h1) hx
      obtain ⟨h2, h⟩ := rs_andE h
      have ey := rs_den_1 (rs_eqE h2) hy
      have ex := Value.int.inj ex
      subst ex
      have ey := Value.int.inj ey
      subst ey
      obtain ⟨w1, w2⟩ := rs_swE cd hcd (rs_i x.2.1).toInt (r y.2.1 + rs_i y.2.2).toInt
      obtain ⟨en', a1, a2⟩ := rs_csE w1 h he (Y := rs_i x.2.1) (rs_b_i _)
      rw [w2] at a2
      exact Or.inl ⟨en', a1, a2⟩
    · rcases rs_ifE h with ⟨h1, h⟩ | ⟨-, h⟩
      · have ex := rs_den_1 (rs_eqE h1) hx
        rcases rs_ifE h with ⟨h2, h⟩ | ⟨h2, h⟩
        · have ey := rs_den_0 (rs_eqE h2) hy
          have ex := Value.int.inj ex
          subst ex
          have ey := Value.int.inj ey
          subst ey
          exact Or.inl (rs_csE hcd h he (Y := rs_i y.2.1) (rs_b_i _))
        · exact Or.inr ⟨_, (rs_andE h).2⟩
      · rcases rs_ifE h with ⟨h1, h⟩ | ⟨-, h⟩
        · have ex := rs_den_2 (rs_eqE h1) hx
          obtain ⟨h2, h⟩ := rs_andE h
          obtain ⟨h3, h⟩ := rs_andE h
          obtain ⟨h4, h⟩ := rs_andE h
          obtain ⟨h5, h⟩ := rs_andE h
          have ey := rs_den_0 (rs_eqE h2) hy
          have h4 := rs_eqE h4
          have h3 := rs_eqE h3
          rw [h4, rs_and1] at ex
          rw [h3] at ey
          have ex := Value.int.inj ex
          subst ex
          have ey := Value.int.inj ey
          subst ey
          have h5 := rs_leE h5
          have hv := he x.2.1
          rcases hE : rs_eg en x.2.1 with ⟨lo, hi, pa⟩
          rw [hE] at h hv
          obtain ⟨v1, v2, v3, v4, v5⟩ := hv
          dsimp only at v1 v2 v3 v4 v5
          have h01 : rs_b (r x.2.1) % 2 = 0 ∨ rs_b (r x.2.1) % 2 = 1 := by omega
          have q0 : (rs_i 0).toInt = 0 := rfl
          have q1 : (rs_i 1).toInt = 1 := rfl
          have hcd2 : cd = 0 ∨ cd = 1 := by omega
          have r00 : rk_rel 0 (rs_i 0).toInt (rs_i 0).toInt := rfl
          have r10 : ¬ rk_rel 0 (rs_i 1).toInt (rs_i 0).toInt := fun h => by simp only [rk_rel] at h; omega
          have r01 : ¬ rk_rel 1 (rs_i 0).toInt (rs_i 0).toInt := fun h => h rfl
          have r11 : rk_rel 1 (rs_i 1).toInt (rs_i 0).toInt := fun h => by omega
          left
          rcases rs_ifE h with ⟨p1, h⟩ | ⟨-, h⟩
          · rw [v3 (rs_eqE p1)]
            rcases hcd2 with rfl | rfl
            · exact ⟨en, he, Or.inl ⟨r00, h⟩⟩
            · exact ⟨en, he, Or.inr ⟨r01, h⟩⟩
          · rcases rs_ifE h with ⟨p2, h⟩ | ⟨-, h⟩
            · rw [v4 (rs_eqE p2)]
              rcases hcd2 with rfl | rfl
              · exact ⟨en, he, Or.inr ⟨r10, h⟩⟩
              · exact ⟨en, he, Or.inl ⟨r11, h⟩⟩
            · obtain ⟨p3, h⟩ := rs_andE h
              have i1 : rs_b (r x.2.1) % 2 = 0 → rs_iv (r x.2.1) (lo, hi, 1) := fun h => ⟨v1, v2, fun _ => h, fun h => absurd h (by dsimp only; decide), fun h => absurd h (by dsimp only; decide)⟩
              have i2 : rs_b (r x.2.1) % 2 = 1 → rs_iv (r x.2.1) (lo, hi, 2) := fun h => ⟨v1, v2, fun h => absurd h (by dsimp only; decide), fun _ => h, fun h => absurd h (by dsimp only; decide)⟩
              rcases hcd2 with rfl | rfl
              · obtain ⟨k1, k2⟩ := rs_andE (c := rs_es (lo, hi, 1) x.2.1 en kT) h
                rcases h01 with h0 | h0
                · obtain ⟨en', b1, b2⟩ := rs_esE _ r en _ k1 (i1 h0) he
                  rw [h0]
                  exact ⟨en', b2, Or.inl ⟨r00, b1⟩⟩
                · obtain ⟨en', b1, b2⟩ := rs_esE _ r en _ k2 (i2 h0) he
                  rw [h0]
                  exact ⟨en', b2, Or.inr ⟨r10, b1⟩⟩
              · obtain ⟨k1, k2⟩ := rs_andE (c := rs_es (lo, hi, 1) x.2.1 en kF) h
                rcases h01 with h0 | h0
                · obtain ⟨en', b1, b2⟩ := rs_esE _ r en _ k1 (i1 h0) he
                  rw [h0]
                  exact ⟨en', b2, Or.inr ⟨r01, b1⟩⟩
                · obtain ⟨en', b1, b2⟩ := rs_esE _ r en _ k2 (i2 h0) he
                  rw [h0]
                  exact ⟨en', b2, Or.inl ⟨r11, b1⟩⟩
        · obtain ⟨-, h⟩ := rs_andE h
          obtain ⟨-, h⟩ := rs_andE h
          obtain ⟨k1, k2⟩ := rs_andE h
          by_cases hr : rk_rel cd X.toInt Y.toInt
          · exact Or.inl ⟨en, he, Or.inl ⟨hr, k1⟩⟩
          · exact Or.inl ⟨en, he, Or.inr ⟨hr, k2⟩⟩
