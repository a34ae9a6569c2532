/-! THE CLAIM OUT OF ONE WALK OF THE LAW'S BODY. Your part is whole_start (and what it stands on); all else here is the same for every law, but numbers. -/
def R_law : String := "SpaceLinksLaw"
def lw_P (b : Addr) (xs : List Int32) (args : Array Value) (s : State) : Prop := args = #[.ref b] ∧ s.IntsAt b xs ∧ xs.length ≤ 6 ∧ (Jvm.Cond.and given_1 narrow_1).before args s = true
def lw_Q (_ : Array Value) (s : State) (o : Outcome) (t : State) : Prop := o = .returned (some (.int 1)) ∧ Framed s o t [] 600000 7302250
def lw_Z (below : List Frame) (a : Array Value) (s : State) : State → Prop := fun t => ∃ o, t.status = .running ∧ Ended t below o ∧ lw_Q a s o t
/-- the law's own end, with 1 on the stack, nothing written that was there before, its room as the claim has it -/
theorem lw_ret {p : Program} {l : Launch} {e : Env} {s : State} {m : MethodId} {below : List Frame} {meth : Method} {c : Code} {b : Nat} (hx : p.tables.exec = Jvm.exec) (hb : c.code = code) (hr : meth.sig.returnType = ret) (hlocks : meth.locks = false) {pc : Nat} {H : Heap} {ls : Array Slot} (hdg : decode code pc = .ok (.ireturn, 1)) : W p l e room_1 s m #[Value.ref b] below meth c H [] 600000 7302250 (lw_Z below #[Value.ref b] s) (F0 m pc ls [.int 1]) := by
  intro T hT X
  obtain ⟨fs, hret, hrun, hended, hW, hframe⟩ := X.leave (v := some (.int 1)) (hlocks := hlocks) (fun h => by rw [hr] at h; cases h)
  have hmeth' : T.vm.method? m = some meth := X.method'
  refine ⟨T.setFrames fs, ?_, .returned (some (.int 1)), hrun, hended, rfl, ⟨_, rfl⟩, hW, hframe⟩
  jvm_step X.here [X.here.top, hx, hb, hdg, hmeth', hr, ret, narrow_b1]
  (try refine ⟨rfl, ?_⟩); (try refine ⟨rfl, ?_⟩)
  first | (intro acts; rw [hret _ acts rfl rfl rfl]) | rw [hret _ _ rfl rfl rfl]
  exact Steps.refl _
/-- what holds at the law's entry: the machine, the code, the tables' words (any of lw_tbl by 'hts w (by decide +kernel)'), the script of L ints xs at the cell b, what the Statement gives of the start (any of its parts by flat_of_before) -/
def lw_At (p : Program) (s : State) (m : MethodId) (meth : Method) (c : Code) (b L : Nat) (xs : Nat → Int32) : Prop :=
  p.tables.exec = Jvm.exec ∧ c.code = code ∧ meth.sig.returnType = ret ∧ c.maxLocals = 4 ∧ s.vm.findClass R_law = some m.cls ∧ (∀ w ∈ lw_tbl, w.before #[Value.ref b] s = true) ∧ va_X b L xs s s.heap ∧ b < s.heap.size ∧ meth.locks = false ∧ (Jvm.Cond.and given_1 narrow_1).before #[Value.ref b] s = true
theorem rs_start {kc : rs_KC} (hkc : rs_KCall kc) {n : Nat} {en : rs_E} (hrun : rs_fd rs_hsL rs_tl kc rs_one n 0 [] [(6, 0, 0)] en (rs_h0, 0, 0, 0) = true) {p : Program} {e : Env} {s : State} {m : MethodId} {below : List Frame} {meth : Method} {c : Code} (l : Launch) {b L : Nat} {xs : Nat → Int32} (hL : L ≤ 6) (hnm : meth.name = x.name) (C0 : lw_At p s m meth c b L xs) (he : rs_env (rs_x0 xs L) en) (hxs : ∀ k, L ≤ k → True) : W p l e room_1 s m #[Value.ref b] below meth c s.heap [] 0 0 (lw_Z below #[Value.ref b] s) (entryFrame m ([Value.ref b] : List Value).toArray 4) := by
  obtain ⟨hx, hb, hr, hml, hown, hts, hX, hbl, hlocks, hgv⟩ := id C0
  obtain ⟨D, hD⟩ := rs_classes hts
  obtain ⟨⟨cI, c1, c2, c3, c4, c5, hT⟩, hAO⟩ := rs_arrays hts
  have hsub : ∀ w ∈ rk_tbl, w.before #[Value.ref b] s = true := fun w h => hts w (List.mem_filter.mp h).1
  have hK : va_K D vwCl (rk_tys cI c1 c2 c3 c4 c5) s := ⟨hD, hT⟩
  have hN : rs_NU s := ⟨⟨fun q hq => va_Nw.of rfl (hts _ (rs_nfW q hq)), fun q hq => va_Nw.of rfl (hts _ (rs_nmW q hq))⟩, hAO⟩
  have hl := lv_entry ([.ref b]) (n := 4) (Nat.le_of_ble_eq_true rfl)
  rw [lg_entry_eq]
  generalize (lg_sl ([.ref b]) ++ List.replicate (4 - (lg_sl ([.ref b])).length) Slot.unset).toArray = ls at hl ⊢
  have hl : lv_has ls 4 [(0, .ref b)] := hl
  have cx : rs_Cx p room_1 s m #[Value.ref b] meth c ((rk_tys cI c1 c2 c3 c4 c5, D, fun q => s.heap.size ≤ q, s.heap, rs_x0 xs L, b, 4), rs_h0, 0, (fun _ => 0), [], (fun _ => .inr (0, []))) rs_ml (600000, 7302250) [] := ⟨hx, hb, ⟨hml, rfl⟩, hown, hsub, hK, fun q h => h, hN, ⟨Nat.le_refl _, Nat.le_refl _, Nat.le_refl _, Nat.le_refl _⟩, hnm, ⟨cI, c1, c2, c3, c4, c5, rfl⟩, rk_FlOk_of (fun _ h => absurd h List.not_mem_nil)⟩
  have hscr : rs_Scr s ((rk_tys cI c1 c2 c3 c4 c5, D, fun q => s.heap.size ≤ q, s.heap, rs_x0 xs L, b, 4), rs_h0, 0, (fun _ => 0), [], (fun _ => .inr (0, []))) := ⟨L, xs, hX, hbl, Nat.not_le.mpr hbl, rfl, fun k hk => if_neg (by omega), hL⟩
  have hret : rs_KRok p l e room_1 s m #[Value.ref b] below meth c (lw_Z below #[Value.ref b] s) ((rk_tys cI c1 c2 c3 c4 c5, D, fun q => s.heap.size ≤ q, s.heap, rs_x0 xs L, b, 4), rs_h0, 0, (fun _ => 0), [], (fun _ => .inr (0, []))) rs_ml (600000, 7302250) rs_one := by
    intro pc v lo en w hkr hc1 hc2
    refine ⟨fun _ h9 => absurd h9 (by decide), fun _ h9 => absurd h9 (by decide), fun hdg _ h3 _ => ?_, fun _ h9 => ?_⟩
    · intro ad' L' f' H locs ls st hon
      obtain ⟨y, st', hst, hv9, hst'⟩ := rs_stk_cons hon.2.2.2.2
      have hst' := rs_stk_nil hst'
      have hy := rs_den_0 h3 hv9
      have h1 : v.2.1 = 1 := rs_eqE (rs_andE hkr).2
      rw [hst, hst', hy, h1]
      exact W.widen hc1 hc2 (va_forget hon.2.1.2.2.1.2.2 (lw_ret hx hb hr hlocks hdg))
    · obtain ⟨rt, h8, h9⟩ := h9
      cases h8
      rcases h9 with ⟨n, h9⟩ | ⟨t, h9⟩ <;> cases h9
  have hgo := rs_fd_ok (MT := rs_MT) (ds := rs_dsL) (hs := rs_hsL) rfl (fun cd pc a b c' l' kt sk lo en w hno h1 h2 h3 hk => by
    rcases rs_dispL rs_MT cd with h9 | h9
    · exact absurd h9 hno
    · exact h9 p l e room_1 s m #[Value.ref _] below meth c _ _ _ _ _ cx hscr pc a b c' l' kt kc rs_one sk lo en w h1 h2 h3 hk (fun q as en hp nn kr hq => hkc l _ _ _ _ ⟨cI, c1, c2, c3, c4, c5, rfl⟩ q as en hp nn kr hq) hret) rs_k_law n 0 [] [(6, 0, 0)] en (rs_h0, 0, 0, 0) hrun
  refine hgo (fun _ => 0) [] (fun _ => .inr (0, [])) s.heap [] ls [] ⟨he, ⟨fun k q h => ?_, ⟨fun i j p q h => ?_, fun k q h => ?_⟩, va_S.rf, fun i hi => absurd hi (by show ¬ i < 0; omega), fun i j hi => absurd hi (by show ¬ i < 0; omega), by show 0 ≤ 1024; omega⟩, rs_fr_rf, ⟨hl.1, hl.2.1, fun i hi => ?_⟩, trivial⟩
  · simp [va_pl] at h
  · simp [va_pl] at h
  · simp [va_pl] at h
  · cases i with
    | zero => exact ⟨.ref b, hl.2.2 (0, .ref b) List.mem_cons_self, rfl⟩
    | succ i => exact absurd hi (by show ¬ (9 : Nat) < 7; decide)
