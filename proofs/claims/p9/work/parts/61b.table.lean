theorem ex_bit : ∀ n : Nat, n < 256 → (Int32.ofInt (n : Int) &&& (Int32.ofInt 1)).toInt = ((n % 2 : Nat) : Int) := by decide +kernel
theorem ex_rem : ∀ n : Nat, n < 256 → (Int32.ofInt (n : Int) - Int32.ofInt (n : Int) / (Int32.ofInt 2) * (Int32.ofInt 2)).toInt = ((n % 2 : Nat) : Int) := by decide +kernel
theorem ex_bit2 {x : Int32} (h0 : 0 ≤ x.toInt) (h1 : x.toInt < 256) : (x &&& (Int32.ofInt 1)).toInt = x.toInt % 2 := by
  have e : x = Int32.ofInt ((x.toInt.toNat : Nat) : Int) := by
    rw [Int.toNat_of_nonneg h0, Int32.ofInt_toInt]
  have h9 := ex_bit x.toInt.toNat (by omega)
  rw [← e] at h9
  omega
theorem ex_rem2 {x : Int32} (h0 : 0 ≤ x.toInt) (h1 : x.toInt < 256) : (x - x / (Int32.ofInt 2) * (Int32.ofInt 2)).toInt = x.toInt % 2 := by
  have e : x = Int32.ofInt ((x.toInt.toNat : Nat) : Int) := by
    rw [Int.toNat_of_nonneg h0, Int32.ofInt_toInt]
  have h9 := ex_rem x.toInt.toNat (by omega)
  rw [← e] at h9
  omega
theorem ex_alt0 {G : Nat → Option Nat} {X : Int} {av : List Value} {v : Option Value} {a b p q : Int} {x : Int32} (hx : av[0]? = some (.int x)) (h : rk_alt G X av [((0, 1, 1), [(0, (0, a, b))]), ((0, 0, 0), [(0, (0, -2147483648, p))]), ((0, 0, 0), [(0, (0, q, 2147483647))])] v) : ∃ w : Int32, v = some (.int w) ∧ ((w.toInt = 1 ∧ a ≤ x.toInt ∧ x.toInt ≤ b) ∨ (w.toInt = 0 ∧ (x.toInt ≤ p ∨ q ≤ x.toInt))) := by
  obtain ⟨y, hy, h1, h2⟩ := h
  rcases List.mem_cons.mp hy with rfl | hy
  · obtain ⟨w, rfl, k, rfl, k1, k2⟩ := (h1 : ∃ w, v = some w ∧ rk_has G X (0, 1, 1) w)
    obtain ⟨w9, e9, x9, e10, y1, y2⟩ := h2 _ List.mem_cons_self
    rw [hx] at e9
    cases e9
    cases e10
    exact ⟨k, rfl, Or.inl ⟨by omega, y1, y2⟩⟩
  rcases List.mem_cons.mp hy with rfl | hy
  · obtain ⟨w, rfl, k, rfl, k1, k2⟩ := (h1 : ∃ w, v = some w ∧ rk_has G X (0, 0, 0) w)
    obtain ⟨w9, e9, x9, e10, y1, y2⟩ := h2 _ List.mem_cons_self
    rw [hx] at e9
    cases e9
    cases e10
    exact ⟨k, rfl, Or.inr ⟨by omega, Or.inl y2⟩⟩
  · rw [List.mem_singleton] at hy
    subst hy
    obtain ⟨w, rfl, k, rfl, k1, k2⟩ := (h1 : ∃ w, v = some w ∧ rk_has G X (0, 0, 0) w)
    obtain ⟨w9, e9, x9, e10, y1, y2⟩ := h2 _ List.mem_cons_self
    rw [hx] at e9
    cases e9
    cases e10
    exact ⟨k, rfl, Or.inr ⟨by omega, Or.inr y1⟩⟩
theorem ex_alt1 {G : Nat → Option Nat} {X : Int} {av : List Value} {v : Option Value} {a b p q : Int} {x : Int32} (hx : av[1]? = some (.int x)) (h : rk_alt G X av [((0, 1, 1), [(1, (0, a, b))]), ((0, 0, 0), [(1, (0, -2147483648, p))]), ((0, 0, 0), [(1, (0, q, 2147483647))])] v) : ∃ w : Int32, v = some (.int w) ∧ ((w.toInt = 1 ∧ a ≤ x.toInt ∧ x.toInt ≤ b) ∨ (w.toInt = 0 ∧ (x.toInt ≤ p ∨ q ≤ x.toInt))) := by
  obtain ⟨y, hy, h1, h2⟩ := h
  rcases List.mem_cons.mp hy with rfl | hy
  · obtain ⟨w, rfl, k, rfl, k1, k2⟩ := (h1 : ∃ w, v = some w ∧ rk_has G X (0, 1, 1) w)
    obtain ⟨w9, e9, x9, e10, y1, y2⟩ := h2 _ List.mem_cons_self
    rw [hx] at e9
    cases e9
    cases e10
    exact ⟨k, rfl, Or.inl ⟨by omega, y1, y2⟩⟩
  rcases List.mem_cons.mp hy with rfl | hy
  · obtain ⟨w, rfl, k, rfl, k1, k2⟩ := (h1 : ∃ w, v = some w ∧ rk_has G X (0, 0, 0) w)
    obtain ⟨w9, e9, x9, e10, y1, y2⟩ := h2 _ List.mem_cons_self
    rw [hx] at e9
    cases e9
    cases e10
    exact ⟨k, rfl, Or.inr ⟨by omega, Or.inl y2⟩⟩
  · rw [List.mem_singleton] at hy
    subst hy
    obtain ⟨w, rfl, k, rfl, k1, k2⟩ := (h1 : ∃ w, v = some w ∧ rk_has G X (0, 0, 0) w)
    obtain ⟨w9, e9, x9, e10, y1, y2⟩ := h2 _ List.mem_cons_self
    rw [hx] at e9
    cases e9
    cases e10
    exact ⟨k, rfl, Or.inr ⟨by omega, Or.inr y1⟩⟩
def rv_t_X11_isPortSet : rv_T := (.branch 0 (.branch 0 (.branch 0 (.branch 0 (.leaf (0, .iload_n 0, 1)) (.leaf (8, .if_icmp .ge (13), 3))) (.branch 0 (.leaf (4, .iload_n 0, 1)) (.leaf (12, .iconst 1, 1)))) (.branch 0 (.leaf (18, .goto (4), 3)) (.branch 0 (.leaf (22, .ireturn, 1)) (.leaf (14, .ifCond .ne (7), 3))))) (.branch 0 (.branch 0 (.branch 0 (.branch 0 (.leaf (1, .ifCond .lt (20), 3)) (.leaf (17, .iconst 1, 1))) (.leaf (99999, .nop, 1))) (.branch 0 (.branch 0 (.leaf (5, .sipush (256), 3)) (.leaf (21, .iconst 0, 1))) (.leaf (13, .iand, 1)))) (.leaf (11, .iload_n 0, 1))))
theorem rv_k_X11_isPortSet : rv_tok cX11_isPortSet rv_t_X11_isPortSet = true := by decide +kernel

def rv_t_X6_write : rv_T := (.branch 0 (.branch 0 (.branch 0 (.branch 0 (.branch 0 (.branch 0 (.leaf (0, .iload_n 1, 1)) (.leaf (32, .iload_n 2, 1))) (.leaf (16, .aload_n 0, 1))) (.branch 0 (.branch 0 (.leaf (8, .invokestatic 61, 3)) (.leaf (40, .iload_n 2, 1))) (.leaf (24, .iload_n 2, 1)))) (.branch 0 (.branch 0 (.branch 0 (.leaf (4, .ifCond .eq (10), 3)) (.leaf (36, .iadd, 1))) (.leaf (20, .iload_n 1, 1))) (.leaf (28, .iload_n 3, 1)))) (.branch 0 (.leaf (42, .iconst 1, 1)) (.leaf (14, .iconst 0, 1)))) (.branch 0 (.branch 0 (.branch 0 (.branch 0 (.branch 0 (.leaf (1, .invokestatic 57, 3)) (.leaf (33, .sipush (256), 3))) (.leaf (17, .getfield 9, 3))) (.branch 0 (.leaf (41, .iastore, 1)) (.leaf (25, .ifCond .eq (15), 3)))) (.branch 0 (.branch 0 (.leaf (37, .goto (4), 3)) (.leaf (21, .bipush (32), 2))) (.leaf (29, .ifCond .eq (11), 3)))) (.branch 0 (.branch 0 (.leaf (99999, .nop, 1)) (.branch 0 (.branch 0 (.leaf (11, .ifCond .ne (5), 3)) (.leaf (43, .ireturn, 1))) (.leaf (99999, .nop, 1)))) (.branch 0 (.branch 0 (.leaf (7, .iload_n 2, 1)) (.leaf (23, .isub, 1))) (.leaf (15, .ireturn, 1))))))
theorem rv_k_X6_write : rv_tok cX6_write rv_t_X6_write = true := by decide +kernel

def rv_t_X11_table : rv_T := (.branch 0 (.branch 0 (.branch 0 (.branch 0 (.branch 0 (.leaf (0, .iload_n 1, 1)) (.leaf (16, .iload_n 2, 1))) (.leaf (8, .getfield 12, 3))) (.branch 0 (.branch 0 (.leaf (4, .ifCond .eq (26), 3)) (.leaf (20, .invokevirtual 72, 3))) (.leaf (99999, .nop, 1)))) (.branch 0 (.branch 0 (.leaf (18, .iload 4, 2)) (.leaf (26, .iconst 1, 1))) (.branch 0 (.leaf (99999, .nop, 1)) (.branch 0 (.leaf (14, .iload_n 1, 1)) (.leaf (30, .iconst 0, 1)))))) (.branch 0 (.branch 0 (.branch 0 (.branch 0 (.leaf (1, .invokestatic 65, 3)) (.leaf (17, .iload_n 3, 1))) (.leaf (99999, .nop, 1))) (.leaf (99999, .nop, 1))) (.branch 0 (.branch 0 (.leaf (99999, .nop, 1)) (.branch 0 (.leaf (11, .getfield 68, 3)) (.leaf (27, .goto (4), 3)))) (.branch 0 (.branch 0 (.leaf (7, .aload_n 0, 1)) (.leaf (23, .ifCond .eq (7), 3))) (.branch 0 (.leaf (15, .aaload, 1)) (.leaf (31, .ireturn, 1)))))))
theorem rv_k_X11_table : rv_tok cX11_table rv_t_X11_table = true := by decide +kernel

def rv_t_X12_arePorts : rv_T := (.branch 0 (.branch 0 (.branch 0 (.leaf (0, .aload_n 0, 1)) (.leaf (12, .iload_n 1, 1))) (.branch 0 (.branch 0 (.branch 0 (.leaf (2, .iconst 0, 1)) (.leaf (18, .iconst 1, 1))) (.leaf (99999, .nop, 1))) (.branch 0 (.branch 0 (.leaf (6, .invokevirtual 104, 3)) (.leaf (22, .iconst 0, 1))) (.leaf (14, .irem, 1))))) (.branch 0 (.branch 0 (.branch 0 (.leaf (1, .iload_n 1, 1)) (.leaf (9, .ifCond .eq (13), 3))) (.leaf (13, .iconst 2, 1))) (.branch 0 (.branch 0 (.branch 0 (.leaf (3, .sipush (254), 3)) (.leaf (19, .goto (4), 3))) (.leaf (99999, .nop, 1))) (.branch 0 (.leaf (23, .ireturn, 1)) (.leaf (15, .ifCond .ne (7), 3))))))
theorem rv_k_X12_arePorts : rv_tok cX12_arePorts rv_t_X12_arePorts = true := by decide +kernel
def rv_t_X12_table : rv_T := (.branch 0 (.branch 0 (.branch 0 (.branch 0 (.branch 0 (.branch 0 (.leaf (0, .aload_n 0, 1)) (.leaf (32, .iload_n 1, 1))) (.leaf (99999, .nop, 1))) (.leaf (40, .iconst 1, 1))) (.leaf (99999, .nop, 1))) (.branch 0 (.branch 0 (.branch 0 (.branch 0 (.leaf (2, .putfield 29, 3)) (.leaf (34, .iload_n 3, 1))) (.leaf (18, .ifCond .eq (11), 3))) (.branch 0 (.leaf (10, .ifCond .eq (19), 3)) (.leaf (26, .ifCond .ne (5), 3)))) (.branch 0 (.branch 0 (.leaf (6, .iload_n 1, 1)) (.leaf (22, .iload_n 3, 1))) (.branch 0 (.leaf (14, .iload_n 2, 1)) (.leaf (30, .ireturn, 1)))))) (.branch 0 (.branch 0 (.branch 0 (.branch 0 (.branch 0 (.leaf (1, .iconst 0, 1)) (.leaf (33, .iload_n 2, 1))) (.leaf (99999, .nop, 1))) (.leaf (41, .ireturn, 1))) (.branch 0 (.branch 0 (.branch 0 (.leaf (5, .aload_n 0, 1)) (.leaf (37, .invokevirtual 123, 3))) (.leaf (21, .aload_n 0, 1))) (.branch 0 (.leaf (13, .aload_n 0, 1)) (.leaf (29, .iconst 0, 1))))) (.branch 0 (.leaf (35, .iload 4, 2)) (.branch 0 (.branch 0 (.leaf (7, .invokevirtual 114, 3)) (.leaf (23, .invokevirtual 120, 3))) (.branch 0 (.leaf (15, .invokevirtual 117, 3)) (.leaf (31, .aload_n 0, 1)))))))
theorem rv_k_X12_table : rv_tok cX12_table rv_t_X12_table = true := by decide +kernel
section RMX
variable (base : Nat) (l : Launch) (cI c1 c2 c3 c4 c5 : ClassId) (D : va_G) (ad adV : Nat → Nat)
theorem c_X11_isRouterE : rk_Mc base l cI c1 c2 c3 c4 c5 D ad adV rk_q_X11_isRouter [(0, -2147483648, 2147483647)] [((0, 1, 1), [(0, (0, 0, 3))]), ((0, 0, 0), [(0, (0, -2147483648, -1))]), ((0, 0, 0), [(0, (0, 4, 2147483647))])] 0 0 :=
  rk_chk_ok (rk_hER ad) (ap := (5, 4)) (rk_hap cI c1 c2 c3 c4 c5) (rk_hNw base ad adV) (rk_hNc base ad adV) rc_LvOk (mt := rk_mt []) (ctr := rk_look []) (rk_look_ok _ (fun _ h => absurd h List.not_mem_nil))
    (M := rk_q_X11_isRouter) (P := (cX11_isRouter, 1, rk_flf rk_ftX11, rk_mlf [], rk_csf [], rk_ssf [], rk_acf [] [])) rfl rfl (by decide +kernel) (fun s args h hN => rk_flX11 (fun w hw => List.mem_cons_of_mem _ hw) h hN)
    (fun s args h hN => rk_MlOk_of (fun _ h => absurd h List.not_mem_nil) (by decide +kernel))
    (fun s args h i v hi => absurd hi (by simp [rk_csf])) (fun s hN i k hi => absurd hi (by simp [rk_ssf, rk_lk])) (fun s args h => rk_acf_ok (fun _ h => absurd h List.not_mem_nil) (fun _ h => absurd h List.not_mem_nil))
    (fun _ _ _ _ h => h) (rk := 2) ⟨fun h => absurd h (by decide), fun h => absurd h (by decide), fun _ => rfl, fun h => absurd h (by decide)⟩ (cs := []) (fuel := 3000) (by decide +kernel)
theorem c_X11_isAddressE : rk_Mc base l cI c1 c2 c3 c4 c5 D ad adV rk_q_X11_isAddress [(0, -2147483648, 2147483647)] [((0, 1, 1), [(0, (0, 32, 95))]), ((0, 0, 0), [(0, (0, -2147483648, 31))]), ((0, 0, 0), [(0, (0, 96, 2147483647))])] 0 0 :=
  rk_chk_ok (rk_hER ad) (ap := (5, 4)) (rk_hap cI c1 c2 c3 c4 c5) (rk_hNw base ad adV) (rk_hNc base ad adV) rc_LvOk (mt := rk_mt []) (ctr := rk_look []) (rk_look_ok _ (fun _ h => absurd h List.not_mem_nil))
    (M := rk_q_X11_isAddress) (P := (cX11_isAddress, 1, rk_flf rk_ftX11, rk_mlf [], rk_csf [], rk_ssf [], rk_acf [] [])) rfl rfl (by decide +kernel) (fun s args h hN => rk_flX11 (fun w hw => List.mem_cons_of_mem _ hw) h hN)
    (fun s args h hN => rk_MlOk_of (fun _ h => absurd h List.not_mem_nil) (by decide +kernel))
    (fun s args h i v hi => absurd hi (by simp [rk_csf])) (fun s hN i k hi => absurd hi (by simp [rk_ssf, rk_lk])) (fun s args h => rk_acf_ok (fun _ h => absurd h List.not_mem_nil) (fun _ h => absurd h List.not_mem_nil))
    (fun _ _ _ _ h => h) (rk := 2) ⟨fun h => absurd h (by decide), fun h => absurd h (by decide), fun _ => rfl, fun h => absurd h (by decide)⟩ (cs := []) (fuel := 3000) (by decide +kernel)
theorem c_X12_isRouterE : rm_Mc base l cI c1 c2 c3 c4 c5 D ad adV rk_q_X12_isRouter [(2, 12, 0), (0, -2147483648, 2147483647)] [((0, 1, 1), [(1, (0, 0, 3))]), ((0, 0, 0), [(1, (0, -2147483648, -1))]), ((0, 0, 0), [(1, (0, 4, 2147483647))])] 0 0 :=
  rk_chk_ok (rk_hER ad) (ap := (5, 4)) (rk_hap cI c1 c2 c3 c4 c5) (rk_hNw base ad adV) (rk_hNc base ad adV) rm_LvOk (mt := rk_mt []) (ctr := rk_look []) (rk_look_ok _ (fun _ h => absurd h List.not_mem_nil))
    (M := rk_q_X12_isRouter) (P := (cX12_isRouter, 2, rk_flf rk_ftX12, rk_mlf [], rk_csf [], rk_ssf [], rk_acf [] [])) rfl rfl (by decide +kernel) (fun s args h hN => rk_flX12 (fun w hw => List.mem_cons_of_mem _ hw) h hN)
    (fun s args h hN => rk_MlOk_of (fun _ h => absurd h List.not_mem_nil) (by decide +kernel))
    (fun s args h i v hi => absurd hi (by simp [rk_csf])) (fun s hN i k hi => absurd hi (by simp [rk_ssf, rk_lk])) (fun s args h => rk_acf_ok (fun _ h => absurd h List.not_mem_nil) (fun _ h => absurd h List.not_mem_nil))
    (fun _ _ _ _ h => h) (rk := 2) ⟨fun h => absurd h (by decide), fun h => absurd h (by decide), fun _ => rfl, fun h => absurd h (by decide)⟩ (cs := []) (fuel := 3000) (by decide +kernel)
theorem c_X12_isInE_a : rm_Mc base l cI c1 c2 c3 c4 c5 D ad adV rk_q_X12_isIn [(2, 12, 0), (0, -2147483648, 2147483647), (0, 32, 32), (0, 95, 95)] [((0, 1, 1), [(1, (0, 32, 95))]), ((0, 0, 0), [(1, (0, -2147483648, 31))]), ((0, 0, 0), [(1, (0, 96, 2147483647))])] 0 0 :=
  rk_chk_ok (rk_hER ad) (ap := (5, 4)) (rk_hap cI c1 c2 c3 c4 c5) (rk_hNw base ad adV) (rk_hNc base ad adV) rm_LvOk (mt := rk_mt []) (ctr := rk_look []) (rk_look_ok _ (fun _ h => absurd h List.not_mem_nil))
    (M := rk_q_X12_isIn) (P := (cX12_isIn, 4, rk_flf rk_ftX12, rk_mlf [], rk_csf [], rk_ssf [], rk_acf [] [])) rfl rfl (by decide +kernel) (fun s args h hN => rk_flX12 (fun w hw => List.mem_cons_of_mem _ hw) h hN)
    (fun s args h hN => rk_MlOk_of (fun _ h => absurd h List.not_mem_nil) (by decide +kernel))
    (fun s args h i v hi => absurd hi (by simp [rk_csf])) (fun s hN i k hi => absurd hi (by simp [rk_ssf, rk_lk])) (fun s args h => rk_acf_ok (fun _ h => absurd h List.not_mem_nil) (fun _ h => absurd h List.not_mem_nil))
    (fun _ _ _ _ h => h) (rk := 2) ⟨fun h => absurd h (by decide), fun h => absurd h (by decide), fun _ => rfl, fun h => absurd h (by decide)⟩ (cs := []) (fuel := 3000) (by decide +kernel)
theorem c_X12_isAddressE : rm_Mc base l cI c1 c2 c3 c4 c5 D ad adV rk_q_X12_isAddress [(2, 12, 0), (0, -2147483648, 2147483647)] [((0, 1, 1), [(1, (0, 32, 95))]), ((0, 0, 0), [(1, (0, -2147483648, 31))]), ((0, 0, 0), [(1, (0, 96, 2147483647))])] 0 0 :=
  rk_chk_ok (rk_hER ad) (ap := (5, 4)) (rk_hap cI c1 c2 c3 c4 c5) (rk_hNw base ad adV) (rk_hNc base ad adV) rm_LvOk (mt := rk_mt [rk_q_X12_isIn]) (ctr := rk_look [(0, [(2, 12, 0), (0, -2147483648, 2147483647), (0, 32, 32), (0, 95, 95)], [((0, 1, 1), [(1, (0, 32, 95))]), ((0, 0, 0), [(1, (0, -2147483648, 31))]), ((0, 0, 0), [(1, (0, 96, 2147483647))])], 0, 0)]) (rk_look_ok _ (List.forall_mem_cons.mpr ⟨c_X12_isInE_a base l cI c1 c2 c3 c4 c5 D ad adV, fun _ h => absurd h List.not_mem_nil⟩))
    (M := rk_q_X12_isAddress) (P := (cX12_isAddress, 2, rk_flf rk_ftX12, rk_mlf [(104, 0, 4, 12)], rk_csf [], rk_ssf [], rk_acf [] [])) rfl rfl (by decide +kernel) (fun s args h hN => rk_flX12 (fun w hw => List.mem_cons_of_mem _ hw) h hN)
    (fun s args h hN => rk_MlOk_of (List.forall_mem_cons.mpr ⟨rk_mck_ok (fun w hw => List.mem_cons_of_mem _ hw) h hN rk_cm_X12_isIn rk_lk_X12_104, fun _ h => absurd h List.not_mem_nil⟩) (by decide +kernel))
    (fun s args h i v hi => absurd hi (by simp [rk_csf])) (fun s hN i k hi => absurd hi (by simp [rk_ssf, rk_lk])) (fun s args h => rk_acf_ok (fun _ h => absurd h List.not_mem_nil) (fun _ h => absurd h List.not_mem_nil))
    (fun _ _ _ _ h => h) (rk := 2) ⟨fun h => absurd h (by decide), fun h => absurd h (by decide), fun _ => rfl, fun h => absurd h (by decide)⟩ (cs := []) (fuel := 3000) (by decide +kernel)
theorem m_write_16 {mt0 : Nat → rk_Mt} {ml0 : rk_Ml} {fl0 : rk_Fl} {p : Program} {e : Env} {s : State} {m : MethodId} {args : Array Value} {below : List Frame} {meth : Method} {c : Code} {A : Nat → Prop} {G : Nat → Option Nat} {L : List Nat} {cc ss cm sm : Nat} (hC : rm_Cx base (rk_tys cI c1 c2 c3 c4 c5) D (rk_NU base ad adV) rk_q_X6_write mt0 ml0 fl0 p { frames := rk_q_X6_write.2.2.2.2.1, cells := cc, slots := ss, locals := rk_q_X6_write.2.2.2.2.2 } s m args meth c A L) (hcm : cm ≤ cc ∧ sm ≤ ss) {X : Int} {f : Nat → va_E} {H : Heap} {locs : List Loc} (hX : 0 ≤ X) (hXC : X + 0 ≤ rk_top) (hT : rm_TY cI c1 c2 c3 c4 c5 ad G X L f) (hh : rm_h D A s L f H locs) {Pq : Option Value → (Nat → va_E) → Prop} (hq : ∀ v u, rk_alt G (X + 0) ([] : List Value) [((0, 1, 1), [])] v → rm_TY cI c1 c2 c3 c4 c5 ad G (X + 0) L u → rc_Lv G 1 f u → Pq v u) {lo : List (Nat × Value)} (vs : Nat → Value) (hlo : ∀ i t, ([(2, 5, 0), (0, 32, 95), (0, 0, 255), (0, 0, 1)] : List rk_AV)[i]? = some t → t.1 < 4 → (i, vs i) ∈ lo) (hty : ∀ i t, ([(2, 5, 0), (0, 32, 95), (0, 0, 255), (0, 0, 1)] : List rk_AV)[i]? = some t → rk_has G X t (vs i)) : rv_G p l e { frames := rk_q_X6_write.2.2.2.2.1, cells := cc, slots := ss, locals := rk_q_X6_write.2.2.2.2.2 } s m args below meth c (MQ below (rk_Q Pq (rk_B D (rk_tys cI c1 c2 c3 c4 c5) L A) A) args s cm sm A) rk_q_X6_write.2.2.1 cm sm H locs 16 [] lo := by
  exact rk_midC (Pw := fun _ _ => True) (rk_hER ad) (ap := (5, 4)) (rk_hap cI c1 c2 c3 c4 c5) (rk_hNc base ad adV) rc_LvOk (mt := rk_mt []) (ctr := rk_look []) (rk_look_ok _ (fun _ h => absurd h List.not_mem_nil)) (M := rk_q_X6_write) (P := (cX6_write, 4, rk_flf rk_ftX6, rk_mlf [], rk_csf [], rk_ssf [], rk_acf [] [])) rfl rfl (fun s args h hN => rk_flX6 (fun w hw => List.mem_cons_of_mem _ hw) h hN)
    (fun s args h hN => rk_MlOk_of (fun _ h => absurd h List.not_mem_nil) (by decide +kernel))
    (fun s args h i v hi => absurd hi (by simp [rk_csf])) (fun s hN i k hi => absurd hi (by simp [rk_ssf, rk_lk])) (fun s args h => rk_acf_ok (fun _ h => absurd h List.not_mem_nil) (fun _ h => absurd h List.not_mem_nil))
    (fun _ _ _ _ h => h) (rk := 2) ⟨fun h => absurd h (by decide), fun h => absurd h (by decide), fun _ => rfl, fun h => absurd h (by decide)⟩ hC hcm hX hXC hT trivial hh hq vs hlo hty (cs := []) (fuel := 3000) (by decide +kernel)
theorem rc_isPortSet (y : Int32) : rm_Met base l rk_K (rk_E ad) (rk_tys cI c1 c2 c3 c4 c5) D (rk_NU base ad adV) rk_q_X11_isPortSet [.int y] (fun G _ _ f => (fun _ _ => True) G f) (fun G X L f0 => fun v u => (fun _ f v u => (∃ w : Int32, v = some (.int w) ∧ ((w.toInt = 1 ∧ (0 ≤ y.toInt ∧ y.toInt ≤ 255 ∧ y.toInt % 2 = 0)) ∨ (w.toInt = 0 ∧ ¬ (0 ≤ y.toInt ∧ y.toInt ≤ 255 ∧ y.toInt % 2 = 0)))) ∧ u = f) G f0 v u ∧ rm_TY cI c1 c2 c3 c4 c5 ad G (X + 0) L u ∧ rc_Lv G 0 f0 u) 0 := by
  refine rm_start (M := rk_q_X11_isPortSet) (rk_hNw base ad adV) (rk_hNc base ad adV) (by decide +kernel) (mt := rk_mt []) (ml := rk_mlf []) (fl := rk_flf rk_ftX11) (fun s args h hN => rk_MlOk_of (fun _ h => absurd h List.not_mem_nil) (by decide +kernel)) (fun s args h hN => rk_flX11 (fun w hw => List.mem_cons_of_mem _ hw) h hN) (rm_cat1 rfl) (Nat.le_of_ble_eq_true rfl) ?_
  intro p e st m below meth c G X L f0 A hC hh hX0 hXC hT hpre
  have hcs : 0 ≤ 0 ∧ 0 ≤ 0 := ⟨Nat.le_refl 0, Nat.le_refl 0⟩
  have no : ¬ (0 ≤ y.toInt ∧ y.toInt ≤ 255 ∧ y.toInt % 2 = 0) → rv_G p l e { frames := rk_q_X11_isPortSet.2.2.2.2.1, cells := 0, slots := 0, locals := rk_q_X11_isPortSet.2.2.2.2.2 } st m ([.int y] : List Value).toArray below meth c (MQ below (rk_Q (fun v u => (fun _ f v u => (∃ w : Int32, v = some (.int w) ∧ ((w.toInt = 1 ∧ (0 ≤ y.toInt ∧ y.toInt ≤ 255 ∧ y.toInt % 2 = 0)) ∨ (w.toInt = 0 ∧ ¬ (0 ≤ y.toInt ∧ y.toInt ≤ 255 ∧ y.toInt % 2 = 0)))) ∧ u = f) G f0 v u ∧ rm_TY cI c1 c2 c3 c4 c5 ad G (X + 0) L u ∧ rc_Lv G 0 f0 u) (rk_B D (rk_tys cI c1 c2 c3 c4 c5) L A) A) ([.int y] : List Value).toArray st 0 0 A) rk_q_X11_isPortSet.2.2.1 0 0 st.heap [] 21 [] [(0, .int y)] := by
    intro h
    refine rv_run hC.1 hC.2.1 (T := rv_t_X11_isPortSet) rv_k_X11_isPortSet 1 ?_
    exact rm_zret hC hh (by decide +kernel) rfl (Or.inl rfl) ⟨⟨⟨_, rfl, Or.inr ⟨rfl, h⟩⟩, rfl⟩, by rw [Int.add_zero]; exact hT, rc_lv_rf 0⟩
  refine rv_run hC.1 hC.2.1 (T := rv_t_X11_isPortSet) rv_k_X11_isPortSet 2 ?_
  refine ⟨fun h => ?_, fun h => ?_⟩
  · have h : y.toInt < 0 := h
    exact no (by omega)
  · have h0 : 0 ≤ y.toInt := h
    refine rv_run hC.1 hC.2.1 (T := rv_t_X11_isPortSet) rv_k_X11_isPortSet 3 ?_
    refine ⟨fun h => ?_, fun h => ?_⟩
    · have h : 256 ≤ y.toInt := h
      exact no (by omega)
    · have h1 : y.toInt < 256 := h
      have hb := ex_bit2 h0 h1
      refine rv_run hC.1 hC.2.1 (T := rv_t_X11_isPortSet) rv_k_X11_isPortSet 4 ?_
      refine ⟨fun h => ?_, fun h => ?_⟩
      · have h : ¬ (y &&& (Int32.ofInt 1)).toInt = 0 := h
        exact no (by omega)
      · have h2 : (y &&& (Int32.ofInt 1)).toInt = 0 := by
          first | exact h | exact Classical.not_not.mp h
        refine rv_run hC.1 hC.2.1 (T := rv_t_X11_isPortSet) rv_k_X11_isPortSet 2 ?_
        exact rm_zret hC hh (by decide +kernel) rfl (Or.inr rfl) ⟨⟨⟨_, rfl, Or.inl ⟨rfl, by omega⟩⟩, rfl⟩, by rw [Int.add_zero]; exact hT, rc_lv_rf 0⟩
theorem rc_write (a5 : Nat) (x y g : Int32) : rm_Met base l rk_K (rk_E ad) (rk_tys cI c1 c2 c3 c4 c5) D (rk_NU base ad adV) rk_q_X6_write [.ref a5, .int x, .int y, .int g] (fun G _ _ f => (fun G _ => G a5 = some 5 ∧ 0 ≤ g.toInt ∧ g.toInt ≤ 1) G f) (fun G X L f0 => fun v u => (fun _ f v u => ∃ w : Int32, v = some (.int w) ∧ ((w.toInt = 1 ∧ (32 ≤ x.toInt ∧ x.toInt ≤ 95) ∧ (0 ≤ y.toInt ∧ y.toInt ≤ 255 ∧ y.toInt % 2 = 0)) ∨ (w.toInt = 0 ∧ ¬ ((32 ≤ x.toInt ∧ x.toInt ≤ 95) ∧ (0 ≤ y.toInt ∧ y.toInt ≤ 255 ∧ y.toInt % 2 = 0))))) G f0 v u ∧ rm_TY cI c1 c2 c3 c4 c5 ad G (X + 0) L u ∧ rc_Lv G 1 f0 u) 0 := by
  refine rm_start (M := rk_q_X6_write) (rk_hNw base ad adV) (rk_hNc base ad adV) (by decide +kernel) (mt := rk_mt [rk_q_X11_isAddress, rk_q_X11_isPortSet]) (ml := rk_mlf [(57, 0, 1, 0), (61, 1, 1, 0)]) (fl := rk_flf rk_ftX6) (fun s args h hN => rk_MlOk_of (List.forall_mem_cons.mpr ⟨rk_mck_ok (fun w hw => List.mem_cons_of_mem _ hw) h hN rk_cm_X11_isAddress rk_lk_X6_57, List.forall_mem_cons.mpr ⟨rk_mck_ok (fun w hw => List.mem_cons_of_mem _ hw) h hN rk_cm_X11_isPortSet rk_lk_X6_61, fun _ h => absurd h List.not_mem_nil⟩⟩) (by decide +kernel)) (fun s args h hN => rk_flX6 (fun w hw => List.mem_cons_of_mem _ hw) h hN) (rm_cat1 rfl) (Nat.le_of_ble_eq_true rfl) ?_
  intro p e st m below meth c G X L f0 A hC hh hX0 hXC hT hpre
  have hcs : 0 ≤ 0 ∧ 0 ≤ 0 := ⟨Nat.le_refl 0, Nat.le_refl 0⟩
  obtain ⟨hG, hg0, hg1⟩ := hpre
  rw [Int.add_zero] at hXC
  have no : ∀ (H : Heap) (locs : List Loc), rm_h D A st L f0 H locs → ¬ ((32 ≤ x.toInt ∧ x.toInt ≤ 95) ∧ (0 ≤ y.toInt ∧ y.toInt ≤ 255 ∧ y.toInt % 2 = 0)) → rv_G p l e { frames := rk_q_X6_write.2.2.2.2.1, cells := 0, slots := 0, locals := rk_q_X6_write.2.2.2.2.2 } st m ([.ref a5, .int x, .int y, .int g] : List Value).toArray below meth c (MQ below (rk_Q (fun v u => (fun _ f v u => ∃ w : Int32, v = some (.int w) ∧ ((w.toInt = 1 ∧ (32 ≤ x.toInt ∧ x.toInt ≤ 95) ∧ (0 ≤ y.toInt ∧ y.toInt ≤ 255 ∧ y.toInt % 2 = 0)) ∨ (w.toInt = 0 ∧ ¬ ((32 ≤ x.toInt ∧ x.toInt ≤ 95) ∧ (0 ≤ y.toInt ∧ y.toInt ≤ 255 ∧ y.toInt % 2 = 0))))) G f0 v u ∧ rm_TY cI c1 c2 c3 c4 c5 ad G (X + 0) L u ∧ rc_Lv G 1 f0 u) (rk_B D (rk_tys cI c1 c2 c3 c4 c5) L A) A) ([.ref a5, .int x, .int y, .int g] : List Value).toArray st 0 0 A) rk_q_X6_write.2.2.1 0 0 H locs 14 [] [(0, .ref a5), (1, .int x), (2, .int y), (3, .int g)] := by
    intro H locs hh h
    refine rv_run hC.1 hC.2.1 (T := rv_t_X6_write) rv_k_X6_write 1 ?_
    exact rm_zret hC hh (by decide +kernel) rfl (Or.inl rfl) ⟨⟨_, rfl, Or.inr ⟨rfl, h⟩⟩, by rw [Int.add_zero]; exact hT, rc_lv_rf 1⟩
  refine rv_run hC.1 hC.2.1 (T := rv_t_X6_write) rv_k_X6_write 1 ?_
  refine rc_callS (idx := 57) (z := 0) (n := 1) (as := [.int x]) (rest := []) hC hh (by decide +kernel) rfl (rm_of (c_X11_isAddressE base l cI c1 c2 c3 c4 c5 D ad adV) [.int x]) hX0 (by rw [Int.add_zero]; exact hXC) hT ⟨rk_all_c rk_aF rk_all_0, trivial⟩ rfl rfl (Nat.le_of_ble_eq_true rfl) hcs (fun v u H1 locs1 hP hh1 => ?_)
  obtain ⟨hA, -, hL1⟩ := hP
  have hu : u = f0 := (hL1 0 (by decide) rfl : rc_Rb 0 G f0 u)
  rw [hu] at hh1
  clear hL1 hu u
  obtain ⟨w, rfl, hw⟩ := ex_alt0 rfl hA
  clear hA
  refine rv_run hC.1 hC.2.1 (T := rv_t_X6_write) rv_k_X6_write 1 ?_
  refine ⟨fun h => ?_, fun h => ?_⟩
  · have h : w.toInt = 0 := h
    exact no H1 locs1 hh1 (by omega)
  have h : ¬ w.toInt = 0 := h
  refine rv_run hC.1 hC.2.1 (T := rv_t_X6_write) rv_k_X6_write 1 ?_
  refine rc_callS (idx := 61) (z := 1) (n := 1) (as := [.int y]) (rest := []) hC hh1 (by decide +kernel) rfl (rc_isPortSet base l cI c1 c2 c3 c4 c5 D ad adV y) hX0 (by rw [Int.add_zero]; exact hXC) hT trivial rfl rfl (Nat.le_of_ble_eq_true rfl) hcs (fun v u H2 locs2 hP hh2 => ?_)
  obtain ⟨⟨⟨w2, rfl, hw2⟩, hu⟩, -, -⟩ := hP
  have hu9 : u = f0 := hu
  rw [hu9] at hh2
  clear hu9 hu u
  refine rv_run hC.1 hC.2.1 (T := rv_t_X6_write) rv_k_X6_write 1 ?_
  refine ⟨fun h2 => ?_, fun h2 => ?_⟩
  · have h2 : ¬ w2.toInt = 0 := h2
    refine m_write_16 base l cI c1 c2 c3 c4 c5 D ad adV hC ⟨by decide, by decide⟩ hX0 (by rw [Int.add_zero]; exact hXC) hT hh2 (fun v u hA hT3 hL3 => ?_) (fun i => if i = 0 then .ref a5 else if i = 1 then .int x else if i = 2 then .int y else .int g) (fun i ty hi _ => ?_) (fun i ty hi => ?_)
    · obtain ⟨a, ha, h1, -⟩ := hA
      rw [List.mem_singleton] at ha
      subst ha
      obtain ⟨w9, rfl, k, rfl, k1, k2⟩ := (h1 : ∃ w9, v = some w9 ∧ rk_has G (X + 0) (0, 1, 1) w9)
      exact ⟨⟨k, rfl, Or.inl ⟨by omega, by omega, by omega⟩⟩, hT3, hL3⟩
    · rcases i with _ | _ | _ | _ | i
      · exact List.mem_of_getElem? (i := 0) rfl
      · exact List.mem_of_getElem? (i := 1) rfl
      · exact List.mem_of_getElem? (i := 2) rfl
      · exact List.mem_of_getElem? (i := 3) rfl
      · cases hi
    · rcases i with _ | _ | _ | _ | i
      · cases hi
        exact ⟨a5, rfl, hG⟩
      · cases hi
        exact ⟨x, rfl, by omega, by omega⟩
      · cases hi
        exact ⟨y, rfl, by omega, by omega⟩
      · cases hi
        exact ⟨g, rfl, hg0, hg1⟩
      · cases hi
  · have h2 : w2.toInt = 0 := by
      first | exact h2 | exact Classical.not_not.mp h2
    exact no H2 locs2 hh2 (by omega)
theorem rc_table (a0 : Nat) (r x y g : Int32) : rm_Met base l rk_K (rk_E ad) (rk_tys cI c1 c2 c3 c4 c5) D (rk_NU base ad adV) rk_q_X11_table [.ref a0, .int r, .int x, .int y, .int g] (fun G _ _ f => (fun G _ => G a0 = some 11 ∧ 0 ≤ g.toInt ∧ g.toInt ≤ 1) G f) (fun G X L f0 => fun v u => (fun _ f v u => ∃ w : Int32, v = some (.int w) ∧ ((w.toInt = 1 ∧ (0 ≤ r.toInt ∧ r.toInt ≤ 3) ∧ (32 ≤ x.toInt ∧ x.toInt ≤ 95) ∧ (0 ≤ y.toInt ∧ y.toInt ≤ 255 ∧ y.toInt % 2 = 0)) ∨ (w.toInt = 0 ∧ ¬ ((0 ≤ r.toInt ∧ r.toInt ≤ 3) ∧ (32 ≤ x.toInt ∧ x.toInt ≤ 95) ∧ (0 ≤ y.toInt ∧ y.toInt ≤ 255 ∧ y.toInt % 2 = 0))))) G f0 v u ∧ rm_TY cI c1 c2 c3 c4 c5 ad G (X + 0) L u ∧ rc_Lv G 1 f0 u) 0 := by
  refine rm_start (M := rk_q_X11_table) (rk_hNw base ad adV) (rk_hNc base ad adV) (by decide +kernel) (mt := rk_mt [rk_q_X11_isRouter, rk_q_X6_write]) (ml := rk_mlf [(65, 0, 1, 0), (72, 1, 4, 6)]) (fl := rk_flf rk_ftX11) (fun s args h hN => rk_MlOk_of (List.forall_mem_cons.mpr ⟨rk_mck_ok (fun w hw => List.mem_cons_of_mem _ hw) h hN rk_cm_X11_isRouter rk_lk_X11_65, List.forall_mem_cons.mpr ⟨rk_mck_ok (fun w hw => List.mem_cons_of_mem _ hw) h hN rk_cm_X6_write rk_lk_X11_72, fun _ h => absurd h List.not_mem_nil⟩⟩) (by decide +kernel)) (fun s args h hN => rk_flX11 (fun w hw => List.mem_cons_of_mem _ hw) h hN) (rm_cat1 rfl) (Nat.le_of_ble_eq_true rfl) ?_
  intro p e st m below meth c G X L f0 A hC hh hX0 hXC hT hpre
  have hcs : 0 ≤ 0 ∧ 0 ≤ 0 := ⟨Nat.le_refl 0, Nat.le_refl 0⟩
  obtain ⟨hG, hg⟩ := hpre
  rw [Int.add_zero] at hXC
  have no : ∀ (f : Nat → va_E) (H : Heap) (locs : List Loc), rm_h D A st L f H locs → rm_TY cI c1 c2 c3 c4 c5 ad G X L f → rc_Lv G 1 f0 f → ¬ ((0 ≤ r.toInt ∧ r.toInt ≤ 3) ∧ (32 ≤ x.toInt ∧ x.toInt ≤ 95) ∧ (0 ≤ y.toInt ∧ y.toInt ≤ 255 ∧ y.toInt % 2 = 0)) → rv_G p l e { frames := rk_q_X11_table.2.2.2.2.1, cells := 0, slots := 0, locals := rk_q_X11_table.2.2.2.2.2 } st m ([.ref a0, .int r, .int x, .int y, .int g] : List Value).toArray below meth c (MQ below (rk_Q (fun v u => (fun _ f v u => ∃ w : Int32, v = some (.int w) ∧ ((w.toInt = 1 ∧ (0 ≤ r.toInt ∧ r.toInt ≤ 3) ∧ (32 ≤ x.toInt ∧ x.toInt ≤ 95) ∧ (0 ≤ y.toInt ∧ y.toInt ≤ 255 ∧ y.toInt % 2 = 0)) ∨ (w.toInt = 0 ∧ ¬ ((0 ≤ r.toInt ∧ r.toInt ≤ 3) ∧ (32 ≤ x.toInt ∧ x.toInt ≤ 95) ∧ (0 ≤ y.toInt ∧ y.toInt ≤ 255 ∧ y.toInt % 2 = 0))))) G f0 v u ∧ rm_TY cI c1 c2 c3 c4 c5 ad G (X + 0) L u ∧ rc_Lv G 1 f0 u) (rk_B D (rk_tys cI c1 c2 c3 c4 c5) L A) A) ([.ref a0, .int r, .int x, .int y, .int g] : List Value).toArray st 0 0 A) rk_q_X11_table.2.2.1 0 0 H locs 30 [] [(0, .ref a0), (1, .int r), (2, .int x), (3, .int y), (4, .int g)] := by
    intro f H locs hh hT hL h
    refine rv_run hC.1 hC.2.1 (T := rv_t_X11_table) rv_k_X11_table 1 ?_
    exact rm_zret hC hh (by decide +kernel) rfl (Or.inl rfl) ⟨⟨_, rfl, Or.inr ⟨rfl, h⟩⟩, by rw [Int.add_zero]; exact hT, hL⟩
  refine rv_run hC.1 hC.2.1 (T := rv_t_X11_table) rv_k_X11_table 1 ?_
  refine rc_callS (idx := 65) (z := 0) (n := 1) (as := [.int r]) (rest := []) hC hh (by decide +kernel) rfl (rm_of (c_X11_isRouterE base l cI c1 c2 c3 c4 c5 D ad adV) [.int r]) hX0 (by rw [Int.add_zero]; exact hXC) hT ⟨rk_all_c rk_aF rk_all_0, trivial⟩ rfl rfl (Nat.le_of_ble_eq_true rfl) hcs (fun v u H1 locs1 hP hh1 => ?_)
  obtain ⟨hA, -, hL1⟩ := hP
  have hu : u = f0 := (hL1 0 (by decide) rfl : rc_Rb 0 G f0 u)
  rw [hu] at hh1
  clear hL1 hu u
  obtain ⟨w, rfl, hw⟩ := ex_alt0 rfl hA
  clear hA
  refine rv_run hC.1 hC.2.1 (T := rv_t_X11_table) rv_k_X11_table 1 ?_
  refine ⟨fun h => ?_, fun h => ?_⟩
  · have h : w.toInt = 0 := h
    exact no f0 H1 locs1 hh1 hT (rc_lv_rf 1) (by omega)
  have h : ¬ w.toInt = 0 := h
  have hr : 0 ≤ r.toInt ∧ r.toInt ≤ 3 := by omega
  obtain ⟨hL0, fs, e1, e2, e3⟩ := rc_me hT hG rfl
  have e2 : fs.length = 4 := e2
  have hv : fs[0]? = some fs[0] := List.getElem?_eq_getElem (by omega)
  obtain ⟨aW, eW, hW⟩ := (e3 0 (2, 10, 0) _ rfl hv : rk_has G X (2, 10, 0) _)
  rw [eW] at hv
  obtain ⟨hLW, fw, w1, w2, w3⟩ := rc_me hT hW rfl
  have w2 : fw.length = 10 := w2
  have hv2 : fw[2]? = some fw[2] := List.getElem?_eq_getElem (by omega)
  obtain ⟨aR, eR, hR⟩ := (w3 2 (2, 27, 0) _ rfl hv2 : rk_has G X (2, 27, 0) _)
  rw [eR] at hv2
  obtain ⟨hLR, hcR⟩ := hT.1 aR 27 hR (by decide)
  obtain ⟨cA, C, g9, f1, f2, f3⟩ := (hcR : ∃ (cA : ClassId) (C : String) (g : Nat → Option Nat), f0 aR = .inl (cA, 4, .inr (.inr (.inr (.inr g)))) ∧ (rk_tys cI c1 c2 c3 c4 c5)[3]? = some (cA, .object C) ∧ ∀ i, i < 4 → rk_has G X (rk_E ad 27 i) (va_rf (g i)))
  obtain ⟨rn, hrn⟩ : ∃ n : Nat, r.toInt = (n : Int) := ⟨_, (Int.toNat_of_nonneg hr.1).symm⟩
  refine rv_run hC.1 hC.2.1 (T := rv_t_X11_table) rv_k_X11_table 1 ?_
  refine rm_get (idx := 12) hC hh1 (by decide +kernel) rfl hL0 e1 hv ?_
  refine rm_get (idx := 68) hC hh1 (by decide +kernel) rfl hLW w1 hv2 ?_
  refine rv_run hC.1 hC.2.1 (T := rv_t_X11_table) rv_k_X11_table 1 ?_
  refine rc_aald hC hh1 (by decide +kernel) hLR f1 f2 hr.1 (by omega) ?_
  rw [rm_clamp hrn]
  obtain ⟨aO, eO, hO⟩ := (f3 rn (by omega) : rk_has G X (2, 5, 0) _)
  rw [eO]
  obtain ⟨hLO, fo, o1, -, -⟩ := rc_me hT hO rfl
  refine rv_run hC.1 hC.2.1 (T := rv_t_X11_table) rv_k_X11_table 3 ?_
  refine rm_callV (idx := 72) (z := 1) (n := 4) (ci := 5) (as := [.int x, .int y, .int g]) (rest := []) hC hh1 (by decide +kernel) rfl hLO o1 (rc_write base l cI c1 c2 c3 c4 c5 D ad adV aO x y g) hX0 (by rw [Int.add_zero]; exact hXC) hT ⟨hO, hg⟩ rfl rfl (Nat.le_of_ble_eq_true rfl) hcs (fun v u H2 locs2 hP hh2 => ?_)
  obtain ⟨⟨k, rfl, hk⟩, hT2, hL2⟩ := hP
  rw [Int.add_zero] at hT2
  refine rv_run hC.1 hC.2.1 (T := rv_t_X11_table) rv_k_X11_table 1 ?_
  refine ⟨fun h2 => ?_, fun h2 => ?_⟩
  · have h2 : k.toInt = 0 := h2
    exact no u H2 locs2 hh2 hT2 hL2 (by omega)
  · have h2 : ¬ k.toInt = 0 := h2
    refine rv_run hC.1 hC.2.1 (T := rv_t_X11_table) rv_k_X11_table 2 ?_
    exact rm_zret hC hh2 (by decide +kernel) rfl (Or.inr rfl) ⟨⟨_, rfl, Or.inl ⟨rfl, by omega, by omega, by omega⟩⟩, by rw [Int.add_zero]; exact hT2, hL2⟩
theorem h_arePorts2 (a0 : Nat) (y : Int32) : rm_Hm base l cI c1 c2 c3 c4 c5 D ad adV rk_q_X12_arePorts [.ref a0, .int y] (fun G _ f => G a0 = some 12) (fun G _ f v u => ∃ w : Int32, v = some (.int w) ∧ ((w.toInt = 1 ∧ (0 ≤ y.toInt ∧ y.toInt ≤ 255 ∧ y.toInt % 2 = 0)) ∨ (w.toInt = 0 ∧ ¬ (0 ≤ y.toInt ∧ y.toInt ≤ 255 ∧ y.toInt % 2 = 0)))) 0 0 := by
  unfold rm_Hm
  refine rm_start (M := rk_q_X12_arePorts) (rk_hNw base ad adV) (rk_hNc base ad adV) (by decide +kernel) (mt := rk_mt [rk_q_X12_isIn]) (ml := rk_mlf [(104, 0, 4, 12)]) (fl := rk_flf rk_ftX12) (fun s args h hN => rk_MlOk_of (List.forall_mem_cons.mpr ⟨rk_mck_ok (fun w hw => List.mem_cons_of_mem _ hw) h hN rk_cm_X12_isIn rk_lk_X12_104, fun _ h => absurd h List.not_mem_nil⟩) (by decide +kernel)) (fun s args h hN => rk_flX12 (fun w hw => List.mem_cons_of_mem _ hw) h hN) (rm_cat1 rfl) (Nat.le_of_ble_eq_true rfl) ?_
  intro p e st m below meth c G X L f0 A hC hh hX0 hXC hT hpre
  have hcs : 0 ≤ 0 ∧ 0 ≤ 0 := ⟨Nat.le_refl 0, Nat.le_refl 0⟩
  have hG : G a0 = some 12 := hpre
  have no : ∀ (f : Nat → va_E) (H : Heap) (locs : List Loc), rm_h D A st L f H locs → rm_TY cI c1 c2 c3 c4 c5 ad G X L f → rm_Lv G 0 f0 f → ¬ (0 ≤ y.toInt ∧ y.toInt ≤ 255 ∧ y.toInt % 2 = 0) → rv_G p l e { frames := rk_q_X12_arePorts.2.2.2.2.1, cells := 0, slots := 0, locals := rk_q_X12_arePorts.2.2.2.2.2 } st m ([.ref a0, .int y] : List Value).toArray below meth c (MQ below (rk_Q (fun v u => rm_TY cI c1 c2 c3 c4 c5 ad G (X + 0) L u ∧ rm_Lv G 0 f0 u ∧ (fun G _ f v u => ∃ w : Int32, v = some (.int w) ∧ ((w.toInt = 1 ∧ (0 ≤ y.toInt ∧ y.toInt ≤ 255 ∧ y.toInt % 2 = 0)) ∨ (w.toInt = 0 ∧ ¬ (0 ≤ y.toInt ∧ y.toInt ≤ 255 ∧ y.toInt % 2 = 0)))) G X f0 v u) (rk_B D (rk_tys cI c1 c2 c3 c4 c5) L A) A) ([.ref a0, .int y] : List Value).toArray st 0 0 A) rk_q_X12_arePorts.2.2.1 0 0 H locs 22 [] [(0, .ref a0), (1, .int y)] := by
    intro f H locs hh hT hL h
    refine rv_run hC.1 hC.2.1 (T := rv_t_X12_arePorts) rv_k_X12_arePorts 1 ?_
    refine rm_zret hC hh (by decide +kernel) rfl (Or.inl rfl) ⟨by rw [Int.add_zero]; exact hT, hL, ⟨_, rfl, Or.inr ⟨rfl, h⟩⟩⟩
  refine rv_run hC.1 hC.2.1 (T := rv_t_X12_arePorts) rv_k_X12_arePorts 80 ?_
  refine w_h hC hh hT hG (by omega) (by omega) 104 (by decide +kernel) rfl (h_isIn base l cI c1 c2 c3 c4 c5 D ad adV a0 y _ _) hG rfl rfl (Nat.le_of_ble_eq_true rfl) hcs (fun v f1 H locs hh hT hL hP => ?_)
  rw [Int.add_zero] at hT
  obtain ⟨⟨w, rfl, hw⟩, -⟩ := hP
  have e0 : (Int32.ofInt 0).toInt = 0 := rfl
  have e4 : (Int16.ofInt 254).toInt32.toInt = 254 := rfl
  rw [e0, e4] at hw
  refine rv_run hC.1 hC.2.1 (T := rv_t_X12_arePorts) rv_k_X12_arePorts 1 ?_
  refine ⟨fun h => ?_, fun h => ?_⟩
  · have h : w.toInt = 0 := h
    exact no f1 H locs hh hT hL (by omega)
  · have h : ¬ w.toInt = 0 := h
    have hb := ex_rem2 (x := y) (by omega) (by omega)
    refine rv_run hC.1 hC.2.1 (T := rv_t_X12_arePorts) rv_k_X12_arePorts 3 ?_
    refine ⟨by decide, ?_⟩
    refine rv_run hC.1 hC.2.1 (T := rv_t_X12_arePorts) rv_k_X12_arePorts 1 ?_
    refine ⟨fun h => ?_, fun h => ?_⟩
    · have h : ¬ (y - y / (Int32.ofInt 2) * (Int32.ofInt 2)).toInt = 0 := h
      exact no f1 H locs hh hT hL (by omega)
    · have h2 : (y - y / (Int32.ofInt 2) * (Int32.ofInt 2)).toInt = 0 := by
        first | exact h | exact Classical.not_not.mp h
      refine rv_run hC.1 hC.2.1 (T := rv_t_X12_arePorts) rv_k_X12_arePorts 2 ?_
      refine rm_zret hC hh (by decide +kernel) rfl (Or.inr rfl) ⟨by rw [Int.add_zero]; exact hT, hL, ⟨_, rfl, Or.inl ⟨rfl, by omega⟩⟩⟩
theorem h_table2 (a0 : Nat) (r x y g : Int32) : rm_Hm base l cI c1 c2 c3 c4 c5 D ad adV rk_q_X12_table [.ref a0, .int r, .int x, .int y, .int g] (fun G _ f => G a0 = some 12 ∧ 0 ≤ g.toInt ∧ g.toInt ≤ 1) (fun G _ f v u => ∃ w : Int32, v = some (.int w) ∧ ((w.toInt = 1 ∧ (0 ≤ r.toInt ∧ r.toInt ≤ 3) ∧ (32 ≤ x.toInt ∧ x.toInt ≤ 95) ∧ (0 ≤ y.toInt ∧ y.toInt ≤ 255 ∧ y.toInt % 2 = 0)) ∨ (w.toInt = 0 ∧ ¬ ((0 ≤ r.toInt ∧ r.toInt ≤ 3) ∧ (32 ≤ x.toInt ∧ x.toInt ≤ 95) ∧ (0 ≤ y.toInt ∧ y.toInt ≤ 255 ∧ y.toInt % 2 = 0))))) 0 1 := by
  unfold rm_Hm
  refine rm_start (M := rk_q_X12_table) (rk_hNw base ad adV) (rk_hNc base ad adV) (by decide +kernel) (mt := rk_mt [rk_q_X12_arePorts, rk_q_X12_isAddress, rk_q_X12_isRouter, rk_q_X12_tables]) (ml := rk_mlf [(120, 0, 2, 12), (117, 1, 2, 12), (114, 2, 2, 12), (123, 3, 5, 12)]) (fl := rk_flf rk_ftX12) (fun s args h hN => rk_MlOk_of (List.forall_mem_cons.mpr ⟨rk_mck_ok (fun w hw => List.mem_cons_of_mem _ hw) h hN rk_cm_X12_arePorts rk_lk_X12_120, List.forall_mem_cons.mpr ⟨rk_mck_ok (fun w hw => List.mem_cons_of_mem _ hw) h hN rk_cm_X12_isAddress rk_lk_X12_117, List.forall_mem_cons.mpr ⟨rk_mck_ok (fun w hw => List.mem_cons_of_mem _ hw) h hN rk_cm_X12_isRouter rk_lk_X12_114, List.forall_mem_cons.mpr ⟨rk_mck_ok (fun w hw => List.mem_cons_of_mem _ hw) h hN rk_cm_X12_tables rk_lk_X12_123, fun _ h => absurd h List.not_mem_nil⟩⟩⟩⟩) (by decide +kernel)) (fun s args h hN => rk_flX12 (fun w hw => List.mem_cons_of_mem _ hw) h hN) (rm_cat1 rfl) (Nat.le_of_ble_eq_true rfl) ?_
  intro p e st m below meth c G X L f0 A hC hh hX0 hXC hT hpre
  have hcs : 0 ≤ 0 ∧ 0 ≤ 0 := ⟨Nat.le_refl 0, Nat.le_refl 0⟩
  obtain ⟨hG, hg⟩ := hpre
  have no : ∀ (f : Nat → va_E) (H : Heap) (locs : List Loc), rm_h D A st L f H locs → rm_TY cI c1 c2 c3 c4 c5 ad G X L f → rm_Lv G 1 f0 f → ¬ ((0 ≤ r.toInt ∧ r.toInt ≤ 3) ∧ (32 ≤ x.toInt ∧ x.toInt ≤ 95) ∧ (0 ≤ y.toInt ∧ y.toInt ≤ 255 ∧ y.toInt % 2 = 0)) → rv_G p l e { frames := rk_q_X12_table.2.2.2.2.1, cells := 0, slots := 0, locals := rk_q_X12_table.2.2.2.2.2 } st m ([.ref a0, .int r, .int x, .int y, .int g] : List Value).toArray below meth c (MQ below (rk_Q (fun v u => rm_TY cI c1 c2 c3 c4 c5 ad G (X + 0) L u ∧ rm_Lv G 1 f0 u ∧ (fun G _ f v u => ∃ w : Int32, v = some (.int w) ∧ ((w.toInt = 1 ∧ (0 ≤ r.toInt ∧ r.toInt ≤ 3) ∧ (32 ≤ x.toInt ∧ x.toInt ≤ 95) ∧ (0 ≤ y.toInt ∧ y.toInt ≤ 255 ∧ y.toInt % 2 = 0)) ∨ (w.toInt = 0 ∧ ¬ ((0 ≤ r.toInt ∧ r.toInt ≤ 3) ∧ (32 ≤ x.toInt ∧ x.toInt ≤ 95) ∧ (0 ≤ y.toInt ∧ y.toInt ≤ 255 ∧ y.toInt % 2 = 0))))) G X f0 v u) (rk_B D (rk_tys cI c1 c2 c3 c4 c5) L A) A) ([.ref a0, .int r, .int x, .int y, .int g] : List Value).toArray st 0 0 A) rk_q_X12_table.2.2.1 0 0 H locs 29 [] [(0, .ref a0), (1, .int r), (2, .int x), (3, .int y), (4, .int g)] := by
    intro f H locs hh hT hL h
    refine rv_run hC.1 hC.2.1 (T := rv_t_X12_table) rv_k_X12_table 1 ?_
    refine rm_zret hC hh (by decide +kernel) rfl (Or.inl rfl) ⟨by rw [Int.add_zero]; exact hT, hL, ⟨_, rfl, Or.inr ⟨rfl, h⟩⟩⟩
  refine rv_run hC.1 hC.2.1 (T := rv_t_X12_table) rv_k_X12_table 80 ?_
  refine w_pf hC hh hT hG (by omega) 1 29 (by decide +kernel) rfl rfl (Or.inl ⟨rfl, _, rfl⟩) ⟨_, rfl, by decide, by decide⟩ rfl (by decide) (fun f H locs hh hT hL hP => ?_)
  have hLt := hL
  refine rv_run hC.1 hC.2.1 (T := rv_t_X12_table) rv_k_X12_table 80 ?_
  refine w_k hC hh hT hG (by omega) (by omega) 114 (by decide +kernel) rfl (c_X12_isRouterE base l cI c1 c2 c3 c4 c5 D ad adV) (rk_all_c (rk_aM hG) (rk_all_c rk_aF rk_all_0)) rfl rfl (Nat.le_of_ble_eq_true rfl) hcs (fun v f H locs hh hT hL hA => ?_)
  rw [Int.add_zero] at hT
  have hLt := rm_lv_tr (k := 1) hLt hL rfl rfl
  obtain ⟨w, rfl, hw⟩ := ex_alt1 rfl hA
  clear hA
  refine rv_run hC.1 hC.2.1 (T := rv_t_X12_table) rv_k_X12_table 1 ?_
  refine ⟨fun h => ?_, fun h => ?_⟩
  · have h : w.toInt = 0 := h
    exact no f H locs hh hT hLt (by omega)
  have h : ¬ w.toInt = 0 := h
  refine rv_run hC.1 hC.2.1 (T := rv_t_X12_table) rv_k_X12_table 80 ?_
  refine w_k hC hh hT hG (by omega) (by omega) 117 (by decide +kernel) rfl (c_X12_isAddressE base l cI c1 c2 c3 c4 c5 D ad adV) (rk_all_c (rk_aM hG) (rk_all_c rk_aF rk_all_0)) rfl rfl (Nat.le_of_ble_eq_true rfl) hcs (fun v f H locs hh hT hL hA => ?_)
  rw [Int.add_zero] at hT
  have hLt := rm_lv_tr (k := 1) hLt hL rfl rfl
  obtain ⟨w2, rfl, hw2⟩ := ex_alt1 rfl hA
  clear hA
  refine rv_run hC.1 hC.2.1 (T := rv_t_X12_table) rv_k_X12_table 1 ?_
  refine ⟨fun h => ?_, fun h => ?_⟩
  · have h : w2.toInt = 0 := h
    exact no f H locs hh hT hLt (by omega)
  have h2 : ¬ w2.toInt = 0 := h
  refine rv_run hC.1 hC.2.1 (T := rv_t_X12_table) rv_k_X12_table 80 ?_
  refine w_h hC hh hT hG (by omega) (by omega) 120 (by decide +kernel) rfl (h_arePorts2 base l cI c1 c2 c3 c4 c5 D ad adV a0 y) hG rfl rfl (Nat.le_of_ble_eq_true rfl) hcs (fun v f H locs hh hT hL hP => ?_)
  rw [Int.add_zero] at hT
  have hLt := rm_lv_tr (k := 1) hLt hL rfl rfl
  obtain ⟨w3, rfl, hw3⟩ := hP
  refine rv_run hC.1 hC.2.1 (T := rv_t_X12_table) rv_k_X12_table 1 ?_
  refine ⟨fun h => ?_, fun h => ?_⟩
  · have h : ¬ w3.toInt = 0 := h
    refine rv_run hC.1 hC.2.1 (T := rv_t_X12_table) rv_k_X12_table 80 ?_
    refine w_k hC hh hT hG (by omega) (by omega) 123 (by decide +kernel) rfl (c_X12_tables base l cI c1 c2 c3 c4 c5 D ad adV) (rk_all_c (rk_aM hG) (rk_all_c ⟨_, rfl, by omega, by omega⟩ (rk_all_c ⟨_, rfl, by omega, by omega⟩ (rk_all_c ⟨_, rfl, by omega, by omega⟩ (rk_all_c ⟨_, rfl, hg.1, hg.2⟩ rk_all_0))))) rfl rfl (Nat.le_of_ble_eq_true rfl) hcs (fun v f H locs hh hT hL hA => ?_)
    rw [Int.add_zero] at hT
    have hLt := rm_lv_tr (k := 1) hLt hL rfl rfl
    cases rk_alt_vn hA
    refine rv_run hC.1 hC.2.1 (T := rv_t_X12_table) rv_k_X12_table 1 ?_
    refine rm_zret hC hh (by decide +kernel) rfl (Or.inr rfl) ⟨by rw [Int.add_zero]; exact hT, hLt, ⟨_, rfl, Or.inl ⟨rfl, by omega, by omega, by omega⟩⟩⟩
  · have h : w3.toInt = 0 := by
      first | exact h | exact Classical.not_not.mp h
    exact no f H locs hh hT hLt (by omega)
end RMX
