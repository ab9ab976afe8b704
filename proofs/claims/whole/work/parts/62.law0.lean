def R_law : String := "SwingCranesLaw"
def lw_P (b : Addr) (xs : List Int32) (args : Array Value) (s : State) : Prop := args = #[.ref b] ∧ s.IntsAt b xs ∧ xs.length ≤ 2048 ∧ (Jvm.Cond.and given_1 narrow_1).before args s = true
def lw_Q (_ : Array Value) (s : State) (o : Outcome) (t : State) : Prop := o = .returned (some (.int 1)) ∧ Framed s o t [] 69 6199
def lw_Z (below : List Frame) (a : Array Value) (s : State) : State → Prop := fun t => ∃ o, t.status = .running ∧ Ended t below o ∧ lw_Q a s o t
/-- the law's own end, with 1 on the stack, nothing written that was there before, its room as the claim has it -/
theorem lw_ret {p : Program} {l : Launch} {e : Env} {s : State} {m : MethodId} {below : List Frame} {meth : Method} {c : Code} {b : Nat} (hx : p.tables.exec = Jvm.exec) (hb : c.code = code) (hr : meth.sig.returnType = ret) (hlocks : meth.locks = false) {pc : Nat} {H : Heap} {ls : Array Slot} (hdg : decode code pc = .ok (.ireturn, 1)) : W p l e room_1 s m #[Value.ref b] below meth c H [] 69 6199 (lw_Z below #[Value.ref b] s) (F0 m pc ls [.int 1]) := by
  intro T hT X
  obtain ⟨fs, hret, hrun, hended, hW, hframe⟩ := X.leave (v := some (.int 1)) (hlocks := hlocks) (fun h => by rw [hr] at h; cases h)
  have hmeth' : T.vm.method? m = some meth := X.method'
  refine ⟨T.setFrames fs, ?_, .returned (some (.int 1)), hrun, hended, rfl, ⟨_, rfl⟩, hW, hframe⟩
  jvm_step X.here [X.here.top, hx, hb, hdg, hmeth', hr, ret, narrow_b1]
  (try refine ⟨rfl, ?_⟩); (try refine ⟨rfl, ?_⟩)
  first | (intro acts; rw [hret _ acts rfl rfl rfl]) | rw [hret _ _ rfl rfl rfl]
  exact Steps.refl _
/-- what holds at the law's entry: the machine, the code, the tables' words (any of lw_tbl by 'hts w (by decide +kernel)'), the script of L ints xs at the cell b, what the Statement gives of the start (any of its parts by flat_of_before) -/
def lw_At (p : Program) (s : State) (m : MethodId) (meth : Method) (c : Code) (b L : Nat) (xs : Nat → Int32) : Prop :=
  p.tables.exec = Jvm.exec ∧ c.code = code ∧ meth.sig.returnType = ret ∧ c.maxLocals = 4 ∧ s.vm.findClass R_law = some m.cls ∧ (∀ w ∈ lw_tbl, w.before #[Value.ref b] s = true) ∧ va_X b L xs s s.heap ∧ b < s.heap.size ∧ meth.locks = false ∧ (Jvm.Cond.and given_1 narrow_1).before #[Value.ref b] s = true
theorem sim_command_all (l : Launch) (D : va_G) (cyC cyI : ClassId) (Q K : Nat → Nat) (c : Int32) (w : Int32) : Sim l D cyC cyI Q K yX7_command wsX7_command yX8_command wsX8_command [.int c, .int w] := by
  by_cases h0 : c = 0
  · subst h0; exact sim_command_0 l D cyC cyI Q K w
  by_cases h1 : c = 1
  · subst h1; exact sim_command_1 l D cyC cyI Q K w
  exact sim_command_b l D cyC cyI Q K c w h0 h1
theorem sim_shape_all (l : Launch) (D : va_G) (cyC cyI : ClassId) (Q K : Nat → Nat) (c : Int32) (w : Int32) (pa : Int32) : Sim l D cyC cyI Q K yX7_shape wsX7_shape yX8_shape wsX8_shape [.int c, .int w, .int pa] := by
  by_cases h0 : c = 0
  · subst h0; exact sim_shape_0 l D cyC cyI Q K w pa
  by_cases h1 : c = 1
  · subst h1; exact sim_shape_1 l D cyC cyI Q K w pa
  exact sim_shape_b l D cyC cyI Q K c w pa h0 h1
theorem sim_target_all (l : Launch) (D : va_G) (cyC cyI : ClassId) (Q K : Nat → Nat) (c : Int32) (rp : Int32) : Sim l D cyC cyI Q K yX7_target wsX7_target yX8_target wsX8_target [.int c, .int rp] := by
  by_cases h0 : c = 0
  · subst h0; exact sim_target_0 l D cyC cyI Q K rp
  by_cases h1 : c = 1
  · subst h1; exact sim_target_1 l D cyC cyI Q K rp
  exact sim_target_b l D cyC cyI Q K c rp h0 h1
theorem sim_load_all (l : Launch) (D : va_G) (cyC cyI : ClassId) (Q K : Nat → Nat) (c : Int32) (m : Int32) : Sim l D cyC cyI Q K yX7_load wsX7_load yX8_load wsX8_load [.int c, .int m] := by
  by_cases h0 : c = 0
  · subst h0; exact sim_load_0 l D cyC cyI Q K m
  by_cases h1 : c = 1
  · subst h1; exact sim_load_1 l D cyC cyI Q K m
  exact sim_load_b l D cyC cyI Q K c m h0 h1
theorem sim_crane_all (l : Launch) (D : va_G) (cyC cyI : ClassId) (Q K : Nat → Nat) (c : Int32) (what : Int32) : Sim l D cyC cyI Q K yX7_crane wsX7_crane yX8_crane wsX8_crane [.int c, .int what] := by
  by_cases h0 : c = 0
  · subst h0; exact sim_crane_0 l D cyC cyI Q K what
  by_cases h1 : c = 1
  · subst h1; exact sim_crane_1 l D cyC cyI Q K what
  exact sim_crane_b l D cyC cyI Q K c what h0 h1
theorem sim_spot_all (l : Launch) (D : va_G) (cyC cyI : ClassId) (Q K : Nat → Nat) (c : Int32) (k_ : Int32) (what : Int32) : Sim l D cyC cyI Q K yX7_spot wsX7_spot yX8_spot wsX8_spot [.int c, .int k_, .int what] := by
  by_cases h0 : c = 0
  · subst h0; exact sim_spot_0 l D cyC cyI Q K k_ what
  by_cases h1 : c = 1
  · subst h1; exact sim_spot_1 l D cyC cyI Q K k_ what
  exact sim_spot_b l D cyC cyI Q K c k_ what h0 h1
theorem sim_been_all (l : Launch) (D : va_G) (cyC cyI : ClassId) (Q K : Nat → Nat) (c : Int32) (x : Int32) (rp : Int32) : Sim l D cyC cyI Q K yX7_been wsX7_been yX8_been wsX8_been [.int c, .int x, .int rp] := by
  by_cases h0 : c = 0
  · subst h0; exact sim_been_0 l D cyC cyI Q K x rp
  by_cases h1 : c = 1
  · subst h1; exact sim_been_1 l D cyC cyI Q K x rp
  exact sim_been_b l D cyC cyI Q K c x rp h0 h1
theorem sim_ahead_all (l : Launch) (D : va_G) (cyC cyI : ClassId) (Q K : Nat → Nat) (tn : Int32) (c : Int32) (what : Int32) : Sim l D cyC cyI Q K yX7_ahead wsX7_ahead yX8_ahead wsX8_ahead [.int tn, .int c, .int what] := by
  by_cases h0 : c = 0
  · subst h0; exact sim_ahead_0 l D cyC cyI Q K tn what
  by_cases h1 : c = 1
  · subst h1; exact sim_ahead_1 l D cyC cyI Q K tn what
  exact sim_ahead_b l D cyC cyI Q K tn c what h0 h1
theorem sim_quiet_all (l : Launch) (D : va_G) (cyC cyI : ClassId) (Q K : Nat → Nat) (c : Int32) : Sim l D cyC cyI Q K yX7_quiet wsX7_quiet yX8_quiet wsX8_quiet [.int c] := by
  by_cases h0 : c = 0
  · subst h0; exact sim_quiet_0 l D cyC cyI Q K 
  by_cases h1 : c = 1
  · subst h1; exact sim_quiet_1 l D cyC cyI Q K 
  exact sim_quiet_b l D cyC cyI Q K c h0 h1
theorem sim_best_all (l : Launch) (D : va_G) (cyC cyI : ClassId) (Q K : Nat → Nat) (c : Int32) (w : Int32) (what : Int32) : Sim l D cyC cyI Q K yX7_best wsX7_best yX8_best wsX8_best [.int c, .int w, .int what] := by
  by_cases h0 : c = 0
  · subst h0; exact sim_best_0 l D cyC cyI Q K w what
  by_cases h1 : c = 1
  · subst h1; exact sim_best_1 l D cyC cyI Q K w what
  exact sim_best_b l D cyC cyI Q K c w what h0 h1
theorem sim_stepOf_all (l : Launch) (D : va_G) (cyC cyI : ClassId) (Q K : Nat → Nat) (c k_ what : Int32) : Sim l D cyC cyI Q K yX7_stepOf wsX7_stepOf yX8_stepOf wsX8_stepOf [.int c, .int k_, .int what] := by
  by_cases h0 : c = 0
  · subst h0
    by_cases g0 : k_ = 0
    · subst g0; exact sim_stepOf_00 l D cyC cyI Q K what
    by_cases g1 : k_ = 1
    · subst g1; exact sim_stepOf_01 l D cyC cyI Q K what
    exact sim_stepOf_0n l D cyC cyI Q K k_ what g0 g1
  by_cases h1 : c = 1
  · subst h1
    by_cases g0 : k_ = 0
    · subst g0; exact sim_stepOf_10 l D cyC cyI Q K what
    by_cases g1 : k_ = 1
    · subst g1; exact sim_stepOf_11 l D cyC cyI Q K what
    exact sim_stepOf_1n l D cyC cyI Q K k_ what g0 g1
  exact sim_stepOf_b l D cyC cyI Q K c k_ what h0 h1
theorem Inv.headA {cyC cyI : ClassId} {Q K : Nat → Nat} {wa wb : va_W} (h : Inv cyC cyI Q K wa wb) : ∃ fs : List Value, wa[0]? = some (Q 0, .inr (7, fs)) := by
  obtain ⟨R, E, N, P1, P2, P3, P4, r, d, n, p1, p2, p3, p4, t, tb, ud, xn, xi, xc, nw, rd, az, ps, tx, td, ch, le, sp, rfl, rfl, hR⟩ := h
  exact ⟨_, rfl⟩
theorem Inv.headB {cyC cyI : ClassId} {Q K : Nat → Nat} {wa wb : va_W} (h : Inv cyC cyI Q K wa wb) : ∃ fs : List Value, wb[0]? = some (K 0, .inr (8, fs)) := by
  obtain ⟨R, E, N, P1, P2, P3, P4, r, d, n, p1, p2, p3, p4, t, tb, ud, xn, xi, xc, nw, rd, az, ps, tx, td, ch, le, sp, rfl, rfl, hR⟩ := h
  exact ⟨_, rfl⟩
/-- the law's entry: its fixed things -/
theorem lw_arr {s : State} {A : Array Value} {ty : FieldType} (h : (Cond.arrayClass ty).before A s = true) : ∃ cA : ClassId, ArrOfT s cA ty ∧ s.vm.findClass ("[" ++ ty.toString) = some cA := by
  obtain ⟨cA, kA, comp, h1, h2, h3⟩ := Cond.arrayClass_spec h
  exact ⟨cA, fun n z => ⟨fun k h => (by cases h), kA, h2, comp, h3⟩, h1⟩
theorem lw_X {p : Program} {s : State} {m : MethodId} {meth : Method} {c : Code} {b L : Nat} {xs : Nat → Int32} (C0 : lw_At p s m meth c b L xs) : ∃ (D : va_G) (cyC cyI : ClassId), bX p s m #[Value.ref b] c cL_law 4 wsL_law RL D cyC cyI := by
  obtain ⟨hx, hb, hr, hml, hown, hts, hX, hbl, hlocks, hgv⟩ := C0
  obtain ⟨c0, iS0, hK0⟩ := u_known (C := RX0) (T := TX0) (N := 13) (n := 13) hts inX0 (hts (.instantiable RX0 13) (List.mem_of_getElem? (i := 82) (by decide +kernel)))
  obtain ⟨c1, iS1, hK1⟩ := u_known (C := RX1) (T := TX1) (N := 7) (n := 7) hts inX1 (hts (.instantiable RX1 7) (List.mem_of_getElem? (i := 156) (by decide +kernel)))
  obtain ⟨c2, iS2, hK2⟩ := u_known (C := RX2) (T := TX2) (N := 3) (n := 3) hts inX2 (hts (.instantiable RX2 3) (List.mem_of_getElem? (i := 76) (by decide +kernel)))
  obtain ⟨c3, iS3, hK3⟩ := u_known (C := RX3) (T := TX3) (N := 3) (n := 3) hts inX3 (hts (.instantiable RX3 3) (List.mem_of_getElem? (i := 242) (by decide +kernel)))
  obtain ⟨c4, iS4, hK4⟩ := u_known (C := RX4) (T := TX4) (N := 3) (n := 3) hts inX4 (hts (.instantiable RX4 3) (List.mem_of_getElem? (i := 162) (by decide +kernel)))
  obtain ⟨c5, iS5, hK5⟩ := u_known (C := RX5) (T := TX5) (N := 4) (n := 4) hts inX5 (hts (.instantiable RX5 4) (List.mem_of_getElem? (i := 234) (by decide +kernel)))
  obtain ⟨c6, iS6, hK6⟩ := u_known (C := RX6) (T := TX6) (N := 3) (n := 3) hts inX6 (hts (.instantiable RX6 3) (List.mem_of_getElem? (i := 58) (by decide +kernel)))
  obtain ⟨c7, iS7, hK7⟩ := u_known (C := RX7) (T := TX7) (N := 10) (n := 10) hts inX7 (hts (.instantiable RX7 10) (List.mem_of_getElem? (i := 50) (by decide +kernel)))
  obtain ⟨c8, iS8, hK8⟩ := u_known (C := RX8) (T := TX8) (N := 9) (n := 9) hts inX8 (hts (.instantiable RX8 9) (List.mem_of_getElem? (i := 664) (by decide +kernel)))
  obtain ⟨cyC, hC1, hC2⟩ := lw_arr (hts (.arrayClass .char) (List.mem_of_getElem? (i := 74) (by decide +kernel)))
  obtain ⟨cyI, hI1, hI2⟩ := lw_arr (hts (.arrayClass .int) (List.mem_of_getElem? (i := 259) (by decide +kernel)))
  refine ⟨(fun k => if k = 0 then c0 else if k = 1 then c1 else if k = 2 then c2 else if k = 3 then c3 else if k = 4 then c4 else if k = 5 then c5 else if k = 6 then c6 else if k = 7 then c7 else c8, fun k => if k = 0 then iS0 else if k = 1 then iS1 else if k = 2 then iS2 else if k = 3 then iS3 else if k = 4 then iS4 else if k = 5 then iS5 else if k = 6 then iS6 else if k = 7 then iS7 else iS8), cyC, cyI, ⟨⟨hx, hb, hml, hown, fun w hw => hts w (wsL_law_in w hw)⟩, ⟨fun k q hq => ?_, fun k q hq => ?_⟩, ?_⟩⟩
  · match k, hq with
    | 0, hq => cases hq; exact hK0
    | 1, hq => cases hq; exact hK1
    | 2, hq => cases hq; exact hK2
    | 3, hq => cases hq; exact hK3
    | 4, hq => cases hq; exact hK4
    | 5, hq => cases hq; exact hK5
    | 6, hq => cases hq; exact hK6
    | 7, hq => cases hq; exact hK7
    | 8, hq => cases hq; exact hK8
    | k + 9, hq => simp [vwCl] at hq
  · match k, hq with
    | 0, hq => cases hq; exact ⟨hC1, hC2⟩
    | 1, hq => cases hq; exact ⟨hI1, hI2⟩
    | k + 2, hq => simp at hq
  · exact List.forall_mem_cons.mpr ⟨va_Nw.of rfl (hts (.methodLinkNest RX7 18 yX2_init RX7) (List.mem_of_getElem? (i := 77) (by decide +kernel))), List.forall_mem_cons.mpr ⟨va_Nw.of rfl (hts (.methodLinkNest RX7 35 yX5_init RX7) (List.mem_of_getElem? (i := 235) (by decide +kernel))), List.forall_mem_cons.mpr ⟨va_Nw.of rfl (hts (.methodLinkNest RX7 9 yX6_init RX7) (List.mem_of_getElem? (i := 59) (by decide +kernel))), List.forall_mem_cons.mpr ⟨va_Nw.of rfl (hts (.methodLinkNest RX0 111 yX7_keptWithin RX7) (List.mem_of_getElem? (i := 535) (by decide +kernel))), List.forall_mem_cons.mpr ⟨va_Nw.of rfl (hts (.methodLinkNest RX0 61 yX7_halfSwing RX7) (List.mem_of_getElem? (i := 472) (by decide +kernel))), List.forall_mem_cons.mpr ⟨va_Nw.of rfl (hts (.methodLinkNest RX0 97 yX7_wayToStop RX7) (List.mem_of_getElem? (i := 539) (by decide +kernel))), List.forall_mem_cons.mpr ⟨va_Nw.of rfl (hts (.methodLinkNest RX1 9 yX4_init RX7) (List.mem_of_getElem? (i := 163) (by decide +kernel))), List.forall_mem_cons.mpr ⟨va_Nw.of rfl (hts (.methodLinkNest RX2 11 yX0_init RX7) (List.mem_of_getElem? (i := 83) (by decide +kernel))), List.forall_mem_cons.mpr ⟨va_Nw.of rfl (hts (.methodLinkNest RX5 18 yX3_init RX7) (List.mem_of_getElem? (i := 243) (by decide +kernel))), List.forall_mem_cons.mpr ⟨va_Nw.of rfl (hts (.methodLinkNest RX5 9 yX2_init RX7) (List.mem_of_getElem? (i := 240) (by decide +kernel))), List.forall_mem_cons.mpr ⟨va_Nw.of rfl (hts (.methodLinkNest RX6 54 yX7_isWithin RX7) (List.mem_of_getElem? (i := 366) (by decide +kernel))), List.forall_mem_cons.mpr ⟨va_Nw.of rfl (hts (.methodLinkNest RX6 61 yX7_isCrane RX7) (List.mem_of_getElem? (i := 375) (by decide +kernel))), List.forall_mem_cons.mpr ⟨va_Nw.of rfl (hts (.methodLinkNest RX6 83 yX7_isRope RX7) (List.mem_of_getElem? (i := 378) (by decide +kernel))), fun _ h => absurd h List.not_mem_nil⟩⟩⟩⟩⟩⟩⟩⟩⟩⟩⟩⟩⟩
