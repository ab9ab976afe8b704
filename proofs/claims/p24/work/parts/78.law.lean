def R_law : String := "SwingCranesLaw"
def lw_P (b : Addr) (xs : List Int32) (args : Array Value) (s : State) : Prop := args = #[.ref b] ∧ s.IntsAt b xs ∧ xs.length ≤ 260 ∧ (Jvm.Cond.and given_1 narrow_1).before args s = true
def lw_Q (_ : Array Value) (s : State) (o : Outcome) (t : State) : Prop := o = .returned (some (.int 1)) ∧ Framed s o t [] 600000 7302250
def lw_Z (below : List Frame) (a : Array Value) (s : State) : State → Prop := fun t => ∃ o, t.status = .running ∧ Ended t below o ∧ lw_Q a s o t
/-- the law's own end, with 1 on the stack, nothing written that was there before, its room as the claim has it -/
theorem lw_ret {p : Program} {l : Launch} {e : Env} {s : State} {m : MethodId} {below : List Frame} {meth : Method} {c : Code} {b : Nat} (hx : p.tables.exec = Jvm.exec) (hb : c.code = code) (hr : meth.sig.returnType = ret) (hlocks : meth.locks = false) {pc : Nat} {H : Heap} {ls : Array Slot} (hdg : decode code pc = .ok (.ireturn, 1)) : W p l e room_1 s m #[Value.ref b] below meth c H [] 600000 7302250 (lw_Z below #[Value.ref b] s) (F0 m pc ls [.int 1]) := by
  intro T hT X
  obtain ⟨fs, hret, hrun, hended, hW, hframe⟩ := X.leave (v := some (.int 1)) (hlocks := hlocks) (fun h => by rw [hr] at h; cases h)
  have hmeth' : T.vm.method? m = some meth := X.method'
  refine ⟨T.setFrames fs, ?_, .returned (some (.int 1)), hrun, hended, rfl, ⟨_, rfl⟩, hW, hframe⟩
  jvm_step X.here [X.here.top, hx, hb, hdg, hmeth', hr, ret, narrow_b1]
  (try refine ⟨rfl, ?_⟩); (try refine ⟨rfl, ?_⟩)
  first | (intro acts; rw [hret _ acts rfl rfl rfl]) | rw [hret _ _ rfl rfl rfl]
  exact Steps.refl _
/-- what holds at the law's entry: the machine, the code, the tables' words (any of lw_tbl by 'hts w (by decide +kernel)'), the script of L ints xs at the cell b, what the Statement gives of the start (any of its parts by flat_of_before) -/
def lw_At (p : Program) (s : State) (m : MethodId) (meth : Method) (c : Code) (b L : Nat) (xs : Nat → Int32) : Prop :=
  p.tables.exec = Jvm.exec ∧ c.code = code ∧ meth.sig.returnType = ret ∧ c.maxLocals = 5 ∧ s.vm.findClass R_law = some m.cls ∧ (∀ w ∈ lw_tbl, w.before #[Value.ref b] s = true) ∧ va_X b L xs s s.heap ∧ b < s.heap.size ∧ meth.locks = false ∧ (Jvm.Cond.and given_1 narrow_1).before #[Value.ref b] s = true
theorem lw_arr {s : State} {A : Array Value} {ty : FieldType} (h : (Cond.arrayClass ty).before A s = true) : ∃ cA : ClassId, ArrOfT s cA ty ∧ s.vm.findClass ("[" ++ ty.toString) = some cA := by
  obtain ⟨cA, kA, comp, h1, h2, h3⟩ := Cond.arrayClass_spec h
  exact ⟨cA, fun n z => ⟨fun k h => (by cases h), kA, h2, comp, h3⟩, h1⟩
/-- the law's entry: its fixed things -/
theorem lw_X {p : Program} {s : State} {m : MethodId} {meth : Method} {c : Code} {b L : Nat} {xs : Nat → Int32} (C0 : lw_At p s m meth c b L xs) : ∃ (D : va_G) (cyC cyI : ClassId), bX p s m #[Value.ref b] c cL_law 5 wsL_law RL D cyC cyI := by
  obtain ⟨hx, hb, hr, hml, hown, hts, hX, hbl, hlocks, hgv⟩ := C0
  obtain ⟨c0, iS0, hK0⟩ := u_known (C := RX0) (T := TX0) (N := 13) (n := 13) hts inX0 (hts (.instantiable RX0 13) (List.mem_of_getElem? (i := 45) (by decide +kernel)))
  obtain ⟨c1, iS1, hK1⟩ := u_known (C := RX1) (T := TX1) (N := 7) (n := 7) hts inX1 (hts (.instantiable RX1 7) (List.mem_of_getElem? (i := 119) (by decide +kernel)))
  obtain ⟨c2, iS2, hK2⟩ := u_known (C := RX2) (T := TX2) (N := 3) (n := 3) hts inX2 (hts (.instantiable RX2 3) (List.mem_of_getElem? (i := 39) (by decide +kernel)))
  obtain ⟨c3, iS3, hK3⟩ := u_known (C := RX3) (T := TX3) (N := 3) (n := 3) hts inX3 (hts (.instantiable RX3 3) (List.mem_of_getElem? (i := 205) (by decide +kernel)))
  obtain ⟨c4, iS4, hK4⟩ := u_known (C := RX4) (T := TX4) (N := 3) (n := 3) hts inX4 (hts (.instantiable RX4 3) (List.mem_of_getElem? (i := 125) (by decide +kernel)))
  obtain ⟨c5, iS5, hK5⟩ := u_known (C := RX5) (T := TX5) (N := 4) (n := 4) hts inX5 (hts (.instantiable RX5 4) (List.mem_of_getElem? (i := 197) (by decide +kernel)))
  obtain ⟨c6, iS6, hK6⟩ := u_known (C := RX6) (T := TX6) (N := 3) (n := 3) hts inX6 (hts (.instantiable RX6 3) (List.mem_of_getElem? (i := 21) (by decide +kernel)))
  obtain ⟨c7, iS7, hK7⟩ := u_known (C := RX7) (T := TX7) (N := 10) (n := 10) hts inX7 (hts (.instantiable RX7 10) (List.mem_of_getElem? (i := 13) (by decide +kernel)))
  obtain ⟨cyC, hC1, hC2⟩ := lw_arr (hts (.arrayClass .char) (List.mem_of_getElem? (i := 37) (by decide +kernel)))
  obtain ⟨cyI, hI1, hI2⟩ := lw_arr (hts (.arrayClass .int) (List.mem_of_getElem? (i := 222) (by decide +kernel)))
  refine ⟨(fun k => if k = 0 then c0 else if k = 1 then c1 else if k = 2 then c2 else if k = 3 then c3 else if k = 4 then c4 else if k = 5 then c5 else if k = 6 then c6 else c7, fun k => if k = 0 then iS0 else if k = 1 then iS1 else if k = 2 then iS2 else if k = 3 then iS3 else if k = 4 then iS4 else if k = 5 then iS5 else if k = 6 then iS6 else iS7), cyC, cyI, ⟨⟨hx, hb, hml, hown, fun w hw => hts w (wsL_law_in w hw)⟩, ⟨fun k q hq => ?_, fun k q hq => ?_⟩, ?_⟩⟩
  · match k, hq with
    | 0, hq => cases hq; exact hK0
    | 1, hq => cases hq; exact hK1
    | 2, hq => cases hq; exact hK2
    | 3, hq => cases hq; exact hK3
    | 4, hq => cases hq; exact hK4
    | 5, hq => cases hq; exact hK5
    | 6, hq => cases hq; exact hK6
    | 7, hq => cases hq; exact hK7
    | k + 8, hq => simp [vwCl] at hq
  · match k, hq with
    | 0, hq => cases hq; exact ⟨hC1, hC2⟩
    | 1, hq => cases hq; exact ⟨hI1, hI2⟩
    | k + 2, hq => simp at hq
  · exact List.forall_mem_cons.mpr ⟨va_Nw.of rfl (hts (.methodLinkNest RX7 18 yX2_init RX7) (List.mem_of_getElem? (i := 40) (by decide +kernel))), List.forall_mem_cons.mpr ⟨va_Nw.of rfl (hts (.methodLinkNest RX7 35 yX5_init RX7) (List.mem_of_getElem? (i := 198) (by decide +kernel))), List.forall_mem_cons.mpr ⟨va_Nw.of rfl (hts (.methodLinkNest RX7 9 yX6_init RX7) (List.mem_of_getElem? (i := 22) (by decide +kernel))), List.forall_mem_cons.mpr ⟨va_Nw.of rfl (hts (.methodLinkNest RX0 111 yX7_keptWithin RX7) (List.mem_of_getElem? (i := 458) (by decide +kernel))), List.forall_mem_cons.mpr ⟨va_Nw.of rfl (hts (.methodLinkNest RX0 61 yX7_halfSwing RX7) (List.mem_of_getElem? (i := 616) (by decide +kernel))), List.forall_mem_cons.mpr ⟨va_Nw.of rfl (hts (.methodLinkNest RX0 97 yX7_wayToStop RX7) (List.mem_of_getElem? (i := 462) (by decide +kernel))), List.forall_mem_cons.mpr ⟨va_Nw.of rfl (hts (.methodLinkNest RX1 9 yX4_init RX7) (List.mem_of_getElem? (i := 126) (by decide +kernel))), List.forall_mem_cons.mpr ⟨va_Nw.of rfl (hts (.methodLinkNest RX2 11 yX0_init RX7) (List.mem_of_getElem? (i := 46) (by decide +kernel))), List.forall_mem_cons.mpr ⟨va_Nw.of rfl (hts (.methodLinkNest RX5 18 yX3_init RX7) (List.mem_of_getElem? (i := 206) (by decide +kernel))), List.forall_mem_cons.mpr ⟨va_Nw.of rfl (hts (.methodLinkNest RX5 9 yX2_init RX7) (List.mem_of_getElem? (i := 203) (by decide +kernel))), List.forall_mem_cons.mpr ⟨va_Nw.of rfl (hts (.methodLinkNest RX6 54 yX7_isWithin RX7) (List.mem_of_getElem? (i := 329) (by decide +kernel))), List.forall_mem_cons.mpr ⟨va_Nw.of rfl (hts (.methodLinkNest RX6 61 yX7_isCrane RX7) (List.mem_of_getElem? (i := 338) (by decide +kernel))), List.forall_mem_cons.mpr ⟨va_Nw.of rfl (hts (.methodLinkNest RX6 83 yX7_isRope RX7) (List.mem_of_getElem? (i := 341) (by decide +kernel))), fun _ h => absurd h List.not_mem_nil⟩⟩⟩⟩⟩⟩⟩⟩⟩⟩⟩⟩⟩
set_option maxHeartbeats 4000000 in
theorem lw_567 {p_ : Program} {e_ : Env} {s_ : State} {m_ : MethodId} {bl_ : List Frame} {me_ : Method} {cd_ : Code} (l : Launch) {D : va_G} {cyC cyI : ClassId} {sb sL : Nat} {xs : Nat → Int32} (X : qX p_ s_ m_ #[Value.ref sb] cd_ cL_law 5 wsL_law RL D cyC cyI sb sL xs (fun q : Nat => s_.heap.size ≤ q)) (hr : me_.sig.returnType = ret) (hlk : me_.locks = false) {Q : Nat → Nat} {H : Heap} {locs : List Loc} {ls : Array Slot} {al wa : va_W} (hI : QE cyC cyI Q (List.replicate 200 101) wa) (hl : lv_has ls 5 [(0, .ref sb), (1, .ref (Q 0))]) (Y : bY D (fun q : Nat => s_.heap.size ≤ q) s_.heap (al ++ wa) H locs) : W p_ l e_ room_1 s_ m_ #[Value.ref sb] bl_ me_ cd_ H locs 84 3051 (lw_Z bl_ #[Value.ref sb] s_) (F0 m_ 567 ls []) := by
  have hx := X.1.1.1
  have hb := X.1.1.2.1
  refine lv_aload_n hx hb dL_law_567 rfl (lv_at hl 1 rfl) ?_
  refine lv_bipush (v := 101) hx hb dL_law_568 (by decide) ?_
  refine qVI (al := al) (As := [.int 101]) (rest := []) X Y (qe_write_no hI) gL_law_X7_write rfl hdq_X7_write ⟨Nat.le_of_ble_eq_true rfl, Nat.le_of_ble_eq_true rfl⟩ hI.head rfl rfl hl.1 (Nat.le_of_ble_eq_true rfl) ⟨Nat.le_of_ble_eq_true rfl, Nat.le_of_ble_eq_true rfl⟩ dL_law_570 (fun wa_1 H locs hI_1 hw_1 Y => ?_)
  refine lv_bipush (v := (-3)) hx hb dL_law_573 (by decide) ?_
  refine lv_icmp_ne (tgt := 599) hx hb dL_law_575 (by decide) (fun c_ => absurd (by decide) c_) (fun _ => ?_)
  refine lv_aload_n hx hb dL_law_578 rfl (lv_at hl 1 rfl) ?_
  refine qVI (al := al) (As := []) (rest := []) X Y (qe_fault hI_1) gL_law_X7_fault rfl hdq_X7_fault ⟨Nat.le_of_ble_eq_true rfl, Nat.le_of_ble_eq_true rfl⟩ hI_1.head rfl rfl hl.1 (Nat.le_of_ble_eq_true rfl) ⟨Nat.le_of_ble_eq_true rfl, Nat.le_of_ble_eq_true rfl⟩ dL_law_579 (fun wa_2 H locs hI_2 hw_2 Y => ?_)
  refine lv_if_ne (tgt := 599) hx hb dL_law_582 (by decide) (fun c_ => absurd (by decide) c_) (fun _ => ?_)
  refine lv_aload_n hx hb dL_law_585 rfl (lv_at hl 1 rfl) ?_
  refine qVI (al := al) (As := []) (rest := []) X Y (qe_wipe hI_2 200 (by decide +kernel)) gL_law_X7_wipe rfl hdq_X7_wipe ⟨Nat.le_of_ble_eq_true rfl, Nat.le_of_ble_eq_true rfl⟩ hI_2.head rfl rfl hl.1 (Nat.le_of_ble_eq_true rfl) ⟨Nat.le_of_ble_eq_true rfl, Nat.le_of_ble_eq_true rfl⟩ dL_law_586 (fun wa_3 H locs hI_3 hw_3 Y => ?_)
  refine lv_sipush (v := 200) hx hb dL_law_589 (by decide) ?_
  refine lv_icmp_ne (tgt := 599) hx hb dL_law_592 (by decide) (fun c_ => absurd (by decide) c_) (fun _ => ?_)
  refine lv_iconst (v := 1) hx hb dL_law_595 (by decide) ?_
  refine lv_goto (tgt := 600) hx hb dL_law_596 (by decide) ?_
  refine va_forget (fun q hq => Y.2.2.1.2.2 q hq) ?_
  exact W.widen (Nat.le_of_ble_eq_true rfl) (Nat.le_of_ble_eq_true rfl) (lw_ret hx hb hr hlk dL_law_600)
set_option maxHeartbeats 4000000 in
theorem lw_540 {p_ : Program} {e_ : Env} {s_ : State} {m_ : MethodId} {bl_ : List Frame} {me_ : Method} {cd_ : Code} (l : Launch) {D : va_G} {cyC cyI : ClassId} {sb sL : Nat} {xs : Nat → Int32} (X : qX p_ s_ m_ #[Value.ref sb] cd_ cL_law 5 wsL_law RL D cyC cyI sb sL xs (fun q : Nat => s_.heap.size ≤ q)) (hr : me_.sig.returnType = ret) (hlk : me_.locks = false) {Q : Nat → Nat} {al : va_W} : ∀ (n i : Nat) (wa : va_W) (H : Heap) (locs : List Loc) (ls : Array Slot), 201 ≤ i + n → i ≤ 200 → QE cyC cyI Q (List.replicate i 101) wa → lv_has ls 5 [(3, .int (nI i)), (0, .ref sb), (1, .ref (Q 0))] → bY D (fun q : Nat => s_.heap.size ≤ q) s_.heap (al ++ wa) H locs → W p_ l e_ room_1 s_ m_ #[Value.ref sb] bl_ me_ cd_ H locs 84 3051 (lw_Z bl_ #[Value.ref sb] s_) (F0 m_ 540 ls []) := by
  have hx := X.1.1.1
  have hb := X.1.1.2.1
  intro n
  induction n with
  | zero => intro i wa H locs ls h1 h2; omega
  | succ n ih =>
    intro i wa H locs ls h1 h2 hI hl Y
    refine lv_iload_n hx hb dL_law_540 rfl (lv_at hl 0 rfl) ?_
    refine lv_sipush (v := 200) hx hb dL_law_541 (by decide) ?_
    refine lv_icmp_ge (tgt := 567) hx hb dL_law_544 (by decide) (fun c_1 => ?_) (fun c_1 => ?_)
    · have c_1 : 200 ≤ (nI i) := c_1
      have h200 : i = 200 := by have z := c_1; rw [leI, nIt (by omega), show (200 : Int32).toInt = 200 by decide] at z; omega
      subst h200
      exact lw_567 l X hr hlk hI (lv_sub hl [1, 2] rfl) Y
    · have c_1 : ¬ (200 ≤ (nI i)) := c_1
      have hi : i < 200 := by have z := c_1; rw [leI, nIt (by omega), show (200 : Int32).toInt = 200 by decide] at z; omega
      refine lv_aload_n hx hb dL_law_547 rfl (lv_at hl 2 rfl) ?_
      refine lv_bipush (v := 101) hx hb dL_law_548 (by decide) ?_
      refine qVI (al := al) (As := [.int 101]) (rest := []) X Y (qe_write hI hi) gL_law_X7_write rfl hdq_X7_write ⟨Nat.le_of_ble_eq_true rfl, Nat.le_of_ble_eq_true rfl⟩ hI.head rfl rfl hl.1 (Nat.le_of_ble_eq_true rfl) ⟨Nat.le_of_ble_eq_true rfl, Nat.le_of_ble_eq_true rfl⟩ dL_law_550 (fun wa_2 H locs hI_2 hw_2 Y => ?_)
      refine lv_iload_n hx hb dL_law_553 rfl (lv_at hl 0 rfl) ?_
      refine lv_iconst (v := 1) hx hb dL_law_554 (by decide) ?_
      refine bAdd (v := nI (i + 1)) X.1 dL_law_555 (nI_sum (a := i) (b := 1) rfl rfl rfl) ?_
      refine lv_icmp_eq (tgt := 561) hx hb dL_law_556 (by decide) (fun c_3 => ?_) (fun c_3 => ?_)
      · have c_3 : (nI (i + 1)) = (nI (i + 1)) := c_3
        refine lv_iinc (v := nI (i + 1)) (lv' := [(3, .int (nI (i + 1))), (0, .ref sb), (1, .ref (Q 0))]) hx hb dL_law_561 hl (k := 0) rfl (nI_inc _) (by decide) rfl (fun ls hl => ?_)
        refine lv_goto (tgt := 540) hx hb dL_law_564 (by decide) ?_
        exact ih (i + 1) _ _ _ _ (by omega) (by omega) hI_2 (lv_sub hl [0, 1, 2] rfl) Y
      · exact absurd rfl (show ¬ ((nI (i + 1)) = (nI (i + 1))) from c_3)
set_option maxHeartbeats 4000000 in
theorem lw_481 {p_ : Program} {e_ : Env} {s_ : State} {m_ : MethodId} {bl_ : List Frame} {me_ : Method} {cd_ : Code} (l : Launch) {D : va_G} {cyC cyI : ClassId} {sb sL : Nat} {xs : Nat → Int32} (X : qX p_ s_ m_ #[Value.ref sb] cd_ cL_law 5 wsL_law RL D cyC cyI sb sL xs (fun q : Nat => s_.heap.size ≤ q)) (hr : me_.sig.returnType = ret) (hlk : me_.locks = false) {Q : Nat → Nat} {H : Heap} {locs : List Loc} {ls : Array Slot} {al wa : va_W} (hI : RW cyC cyI Q [] 9960 wa) (hl : lv_has ls 5 [(0, .ref sb), (1, .ref (Q 0))]) (Y : bY D (fun q : Nat => s_.heap.size ≤ q) s_.heap (al ++ wa) H locs) : W p_ l e_ room_1 s_ m_ #[Value.ref sb] bl_ me_ cd_ H locs 84 3051 (lw_Z bl_ #[Value.ref sb] s_) (F0 m_ 481 ls []) := by
  have hx := X.1.1.1
  have hb := X.1.1.2.1
  refine lv_aload_n hx hb dL_law_481 rfl (lv_at hl 1 rfl) ?_
  refine lv_bipush (v := 40) hx hb dL_law_482 (by decide) ?_
  refine qVI (al := al) (As := [.int 40]) (rest := []) X Y (k_tickNo_R hI 40 (by omega) (by omega)) gL_law_X7_tick rfl hdq_X7_tick ⟨Nat.le_of_ble_eq_true rfl, Nat.le_of_ble_eq_true rfl⟩ hI.head rfl rfl hl.1 (Nat.le_of_ble_eq_true rfl) ⟨Nat.le_of_ble_eq_true rfl, Nat.le_of_ble_eq_true rfl⟩ dL_law_484 (fun wa_1 H locs hI_1 hw_1 Y => ?_)
  refine lv_bipush (v := (-2)) hx hb dL_law_487 (by decide) ?_
  refine lv_icmp_ne (tgt := 536) hx hb dL_law_489 (by decide) (fun c_ => absurd (by decide) c_) (fun _ => ?_)
  refine lv_aload_n hx hb dL_law_492 rfl (lv_at hl 1 rfl) ?_
  refine lv_bipush (v := 39) hx hb dL_law_493 (by decide) ?_
  refine qVI (al := al) (As := [.int 39]) (rest := []) X Y (k_tick_R hI_1 39 (by omega) (by omega)) gL_law_X7_tick rfl hdq_X7_tick ⟨Nat.le_of_ble_eq_true rfl, Nat.le_of_ble_eq_true rfl⟩ hI_1.head rfl rfl hl.1 (Nat.le_of_ble_eq_true rfl) ⟨Nat.le_of_ble_eq_true rfl, Nat.le_of_ble_eq_true rfl⟩ dL_law_495 (fun wa_2 H locs hI_2 hw_2 Y => ?_)
  refine lv_if_ne (tgt := 536) hx hb dL_law_498 (by decide) (fun c_ => absurd (by decide) c_) (fun _ => ?_)
  refine lv_aload_n hx hb dL_law_501 rfl (lv_at hl 1 rfl) ?_
  refine lv_iconst (v := 1) hx hb dL_law_502 (by decide) ?_
  refine qVI (al := al) (As := [.int 1]) (rest := []) X Y (k_tickNo_R hI_2 1 (by omega) (by omega)) gL_law_X7_tick rfl hdq_X7_tick ⟨Nat.le_of_ble_eq_true rfl, Nat.le_of_ble_eq_true rfl⟩ hI_2.head rfl rfl hl.1 (Nat.le_of_ble_eq_true rfl) ⟨Nat.le_of_ble_eq_true rfl, Nat.le_of_ble_eq_true rfl⟩ dL_law_503 (fun wa_3 H locs hI_3 hw_3 Y => ?_)
  refine lv_bipush (v := (-2)) hx hb dL_law_506 (by decide) ?_
  refine lv_icmp_ne (tgt := 536) hx hb dL_law_508 (by decide) (fun c_ => absurd (by decide) c_) (fun _ => ?_)
  refine lv_aload_n hx hb dL_law_511 rfl (lv_at hl 1 rfl) ?_
  refine lv_bipush (v := 6) hx hb dL_law_512 (by decide) ?_
  refine qVI (al := al) (As := [.int 6]) (rest := []) X Y (k_count6_R hI_3 9999 (by decide +kernel)) gL_law_X7_count rfl hdq_X7_count ⟨Nat.le_of_ble_eq_true rfl, Nat.le_of_ble_eq_true rfl⟩ hI_3.head rfl rfl hl.1 (Nat.le_of_ble_eq_true rfl) ⟨Nat.le_of_ble_eq_true rfl, Nat.le_of_ble_eq_true rfl⟩ dL_law_514 (fun wa_4 H locs hI_4 hw_4 Y => ?_)
  refine lv_sipush (v := 9999) hx hb dL_law_517 (by decide) ?_
  refine lv_icmp_ne (tgt := 536) hx hb dL_law_520 (by decide) (fun c_ => absurd (by decide) c_) (fun _ => ?_)
  refine lv_aload_n hx hb dL_law_523 rfl (lv_at hl 1 rfl) ?_
  refine lv_iconst (v := 0) hx hb dL_law_524 (by decide) ?_
  refine lv_iconst (v := 2) hx hb dL_law_525 (by decide) ?_
  refine lv_iconst (v := 3) hx hb dL_law_526 (by decide) ?_
  refine qVI (al := al) (As := [.int 0, .int 2, .int 3]) (rest := []) X Y (k_been_R hI_4 (by omega) 9999 (by decide +kernel)) gL_law_X7_been rfl hdq_X7_been ⟨Nat.le_of_ble_eq_true rfl, Nat.le_of_ble_eq_true rfl⟩ hI_4.head rfl rfl hl.1 (Nat.le_of_ble_eq_true rfl) ⟨Nat.le_of_ble_eq_true rfl, Nat.le_of_ble_eq_true rfl⟩ dL_law_527 (fun wa_5 H locs hI_5 hw_5 Y => ?_)
  refine lv_sipush (v := 9999) hx hb dL_law_530 (by decide) ?_
  refine lv_icmp_eq (tgt := 538) hx hb dL_law_533 (by decide) (fun _ => ?_) (fun c_ => absurd (by decide) c_)
  refine lv_iconst (v := 0) hx hb dL_law_538 (by decide) ?_
  refine lv_istore_n (lv' := [(3, .int 0), (0, .ref sb), (1, .ref (Q 0))]) hx hb dL_law_539 rfl hl (by decide) rfl (fun ls hl => ?_)
  exact lw_540 l X hr hlk (al := al) 201 0 _ _ _ _ (by omega) (by omega) hI_5.qe (lv_sub hl [0, 1, 2] rfl) Y
set_option maxHeartbeats 4000000 in
theorem lw_457 {p_ : Program} {e_ : Env} {s_ : State} {m_ : MethodId} {bl_ : List Frame} {me_ : Method} {cd_ : Code} (l : Launch) {D : va_G} {cyC cyI : ClassId} {sb sL : Nat} {xs : Nat → Int32} (X : qX p_ s_ m_ #[Value.ref sb] cd_ cL_law 5 wsL_law RL D cyC cyI sb sL xs (fun q : Nat => s_.heap.size ≤ q)) (hr : me_.sig.returnType = ret) (hlk : me_.locks = false) {Q : Nat → Nat} {al : va_W} : ∀ (n i : Nat) (wa : va_W) (H : Heap) (locs : List Loc) (ls : Array Slot), 167 ≤ i + n → i ≤ 166 → RW cyC cyI Q [] (60 * i) wa → lv_has ls 5 [(3, .int (nI i)), (0, .ref sb), (1, .ref (Q 0))] → bY D (fun q : Nat => s_.heap.size ≤ q) s_.heap (al ++ wa) H locs → W p_ l e_ room_1 s_ m_ #[Value.ref sb] bl_ me_ cd_ H locs 84 3051 (lw_Z bl_ #[Value.ref sb] s_) (F0 m_ 457 ls []) := by
  have hx := X.1.1.1
  have hb := X.1.1.2.1
  intro n
  induction n with
  | zero => intro i wa H locs ls h1 h2; omega
  | succ n ih =>
    intro i wa H locs ls h1 h2 hI hl Y
    refine lv_iload_n hx hb dL_law_457 rfl (lv_at hl 0 rfl) ?_
    refine lv_sipush (v := 166) hx hb dL_law_458 (by decide) ?_
    refine lv_icmp_ge (tgt := 481) hx hb dL_law_461 (by decide) (fun c_1 => ?_) (fun c_1 => ?_)
    · have c_1 : 166 ≤ (nI i) := c_1
      have h166 : i = 166 := by have z := c_1; rw [leI, nIt (by omega), show (166 : Int32).toInt = 166 by decide] at z; omega
      subst h166
      exact lw_481 l X hr hlk hI (lv_sub hl [1, 2] rfl) Y
    · have c_1 : ¬ (166 ≤ (nI i)) := c_1
      have hi : i < 166 := by have z := c_1; rw [leI, nIt (by omega), show (166 : Int32).toInt = 166 by decide] at z; omega
      refine lv_aload_n hx hb dL_law_464 rfl (lv_at hl 2 rfl) ?_
      refine lv_bipush (v := 60) hx hb dL_law_465 (by decide) ?_
      refine qVI (al := al) (As := [.int 60]) (rest := []) X Y (k_tick_R hI 60 (by omega) (by omega)) gL_law_X7_tick rfl hdq_X7_tick ⟨Nat.le_of_ble_eq_true rfl, Nat.le_of_ble_eq_true rfl⟩ hI.head rfl rfl hl.1 (Nat.le_of_ble_eq_true rfl) ⟨Nat.le_of_ble_eq_true rfl, Nat.le_of_ble_eq_true rfl⟩ dL_law_467 (fun wa_2 H locs hI_2 hw_2 Y => ?_)
      refine lv_if_eq (tgt := 475) hx hb dL_law_470 (by decide) (fun _ => ?_) (fun c_ => absurd (by decide) c_)
      refine lv_iinc (v := nI (i + 1)) (lv' := [(3, .int (nI (i + 1))), (0, .ref sb), (1, .ref (Q 0))]) hx hb dL_law_475 hl (k := 0) rfl (nI_inc _) (by decide) rfl (fun ls hl => ?_)
      refine lv_goto (tgt := 457) hx hb dL_law_478 (by decide) ?_
      exact ih (i + 1) _ _ _ _ (by omega) (by omega) (by rw [show 60 * (i + 1) = 60 * i + 60 by omega]; exact hI_2) (lv_sub hl [0, 1, 2] rfl) Y
theorem hdq_L_faults : bD1 yL_faults RL 1 := by decide +kernel
theorem k_L_law_56 : Cond.constant RL 56 (100000) ∈ wsL_law := by decide +kernel
theorem rd_200 : RD ((((([] ++ pre (f4 101 50 48 48) 4) ++ pre (f4 59 103 48 49) 4) ++ pre (f4 48 59 0 0) 4) ++ crT 0 0 10 0) ++ crT 1 10 60 99) = (-4, (RD ((((([] ++ pre (f4 101 50 48 48) 4) ++ pre (f4 59 103 48 49) 4) ++ pre (f4 48 59 0 0) 4) ++ crT 0 0 10 0) ++ crT 1 10 60 99)).2.1, 200, 10, 2, 12, 6, 0, 10, 0, 10, 60, 99) := eqT_s (by decide +kernel)
set_option maxHeartbeats 8000000 in
set_option maxRecDepth 100000 in
theorem lw_82_4 {p_ : Program} {e_ : Env} {s_ : State} {m_ : MethodId} {bl_ : List Frame} {me_ : Method} {cd_ : Code} (l : Launch) {D : va_G} {cyC cyI : ClassId} {sb sL : Nat} {xs : Nat → Int32} (X : qX p_ s_ m_ #[Value.ref sb] cd_ cL_law 5 wsL_law RL D cyC cyI sb sL xs (fun q : Nat => s_.heap.size ≤ q)) (hr : me_.sig.returnType = ret) (hlk : me_.locks = false) {Q : Nat → Nat} {r : Nat → Int32} {S : Nat → Sto} {ud : Int32} {T : List Int32} {H : Heap} {locs : List Loc} {ls : Array Slot} {al wa : va_W} (hI : QW cyC cyI Q r S ud T wa) (hok : OkS r (S 0)) (hl : lv_has ls 5 [(3, .int 4), (0, .ref sb), (1, .ref (Q 0))]) (Y : bY D (fun q : Nat => s_.heap.size ≤ q) s_.heap (al ++ wa) H locs) : W p_ l e_ room_1 s_ m_ #[Value.ref sb] bl_ me_ cd_ H locs 71 2999 (lw_Z bl_ #[Value.ref sb] s_) (F0 m_ 82 ls []) := by
  have hx := X.1.1.1
  have hb := X.1.1.2.1
  refine lv_iload_n hx hb dL_law_82 rfl (lv_at hl 0 rfl) ?_
  refine lv_iconst (v := 4) hx hb dL_law_83 (by decide) ?_
  refine lv_icmp_ge (tgt := 250) hx hb dL_law_84 (by decide) (fun _ => ?_) (fun c_ => absurd (by decide) c_)
  refine lv_aload_n hx hb dL_law_250 rfl (lv_at hl 2 rfl) ?_
  refine qSI (al := al) (wa := wa) (As := [.ref (Q 0)]) (rest := []) (c2 := 81) (s2 := 3039) X Y (c_faults l D cyC cyI sb sL xs hI (OkS_mm hok)) gL_law_L_faults rfl ⟨rfl, rfl⟩ hdq_L_faults.2 ⟨Nat.le_of_ble_eq_true rfl, Nat.le_of_ble_eq_true rfl⟩ rfl rfl rfl rfl hl.1 (Nat.le_of_ble_eq_true rfl) ⟨Nat.le_of_ble_eq_true rfl, Nat.le_of_ble_eq_true rfl⟩ dL_law_251 (fun r_2 wa_1 H locs hI_1 hw_1 Y => ?_)
  obtain ⟨er_2, hI_1⟩ := hI_1
  subst er_2
  refine lv_if_ne (tgt := 259) hx hb dL_law_254 (by decide) (fun _ => ?_) (fun c_ => absurd c_ (by decide))
  refine lv_aload_n hx hb dL_law_259 rfl (lv_at hl 2 rfl) ?_
  refine lv_bipush (v := 101) hx hb dL_law_260 (by decide) ?_
  refine lv_bipush (v := 50) hx hb dL_law_262 (by decide) ?_
  refine lv_bipush (v := 48) hx hb dL_law_264 (by decide) ?_
  refine lv_bipush (v := 48) hx hb dL_law_266 (by decide) ?_
  refine qSV (al := al) (wa := wa_1) (As := [.ref (Q 0), .int 101, .int 50, .int 48, .int 48]) (rest := []) (c2 := 82) (s2 := 3043) X Y (c_says l D cyC cyI sb sL xs hI_1 101 50 48 48 (by decide) (by decide)) gL_law_L_says rfl ⟨rfl, rfl⟩ hdq_L_says.2 ⟨Nat.le_of_ble_eq_true rfl, Nat.le_of_ble_eq_true rfl⟩ rfl rfl rfl rfl hl.1 (Nat.le_of_ble_eq_true rfl) ⟨Nat.le_of_ble_eq_true rfl, Nat.le_of_ble_eq_true rfl⟩ dL_law_268 (fun  wa_3 H locs hI_3 hw_3 Y => ?_)
  refine lv_aload_n hx hb dL_law_271 rfl (lv_at hl 2 rfl) ?_
  refine lv_bipush (v := 59) hx hb dL_law_272 (by decide) ?_
  refine lv_bipush (v := 103) hx hb dL_law_274 (by decide) ?_
  refine lv_bipush (v := 48) hx hb dL_law_276 (by decide) ?_
  refine lv_bipush (v := 49) hx hb dL_law_278 (by decide) ?_
  refine qSV (al := al) (wa := wa_3) (As := [.ref (Q 0), .int 59, .int 103, .int 48, .int 49]) (rest := []) (c2 := 83) (s2 := 3047) X Y (c_says l D cyC cyI sb sL xs hI_3 59 103 48 49 (by decide) (by decide)) gL_law_L_says rfl ⟨rfl, rfl⟩ hdq_L_says.2 ⟨Nat.le_of_ble_eq_true rfl, Nat.le_of_ble_eq_true rfl⟩ rfl rfl rfl rfl hl.1 (Nat.le_of_ble_eq_true rfl) ⟨Nat.le_of_ble_eq_true rfl, Nat.le_of_ble_eq_true rfl⟩ dL_law_280 (fun  wa_4 H locs hI_4 hw_4 Y => ?_)
  refine lv_aload_n hx hb dL_law_283 rfl (lv_at hl 2 rfl) ?_
  refine lv_bipush (v := 48) hx hb dL_law_284 (by decide) ?_
  refine lv_bipush (v := 59) hx hb dL_law_286 (by decide) ?_
  refine lv_iconst (v := 0) hx hb dL_law_288 (by decide) ?_
  refine lv_iconst (v := 0) hx hb dL_law_289 (by decide) ?_
  refine qSV (al := al) (wa := wa_4) (As := [.ref (Q 0), .int 48, .int 59, .int 0, .int 0]) (rest := []) (c2 := 84) (s2 := 3051) X Y (c_says l D cyC cyI sb sL xs hI_4 48 59 0 0 (by decide) (by decide)) gL_law_L_says rfl ⟨rfl, rfl⟩ hdq_L_says.2 ⟨Nat.le_of_ble_eq_true rfl, Nat.le_of_ble_eq_true rfl⟩ rfl rfl rfl rfl hl.1 (Nat.le_of_ble_eq_true rfl) ⟨Nat.le_of_ble_eq_true rfl, Nat.le_of_ble_eq_true rfl⟩ dL_law_290 (fun  wa_5 H locs hI_5 hw_5 Y => ?_)
  refine lv_aload_n hx hb dL_law_293 rfl (lv_at hl 2 rfl) ?_
  refine lv_iconst (v := 0) hx hb dL_law_294 (by decide) ?_
  refine lv_iconst (v := 0) hx hb dL_law_295 (by decide) ?_
  refine lv_bipush (v := 10) hx hb dL_law_296 (by decide) ?_
  refine lv_iconst (v := 0) hx hb dL_law_298 (by decide) ?_
  refine qSV (al := al) (wa := wa_5) (As := [.ref (Q 0), .int 0, .int 0, .int 10, .int 0]) (rest := []) (c2 := 84) (s2 := 3051) X Y (c_crane l D cyC cyI sb sL xs hI_5 0 0 10 0 (by decide) (by decide) (by decide) (by decide) (by decide)) gL_law_L_crane rfl ⟨rfl, rfl⟩ hdq_L_crane.2 ⟨Nat.le_of_ble_eq_true rfl, Nat.le_of_ble_eq_true rfl⟩ rfl rfl rfl rfl hl.1 (Nat.le_of_ble_eq_true rfl) ⟨Nat.le_of_ble_eq_true rfl, Nat.le_of_ble_eq_true rfl⟩ dL_law_299 (fun  wa_6 H locs hI_6 hw_6 Y => ?_)
  refine lv_aload_n hx hb dL_law_302 rfl (lv_at hl 2 rfl) ?_
  refine lv_iconst (v := 1) hx hb dL_law_303 (by decide) ?_
  refine lv_bipush (v := 10) hx hb dL_law_304 (by decide) ?_
  refine lv_bipush (v := 60) hx hb dL_law_306 (by decide) ?_
  refine lv_bipush (v := 99) hx hb dL_law_308 (by decide) ?_
  refine qSV (al := al) (wa := wa_6) (As := [.ref (Q 0), .int 1, .int 10, .int 60, .int 99]) (rest := []) (c2 := 84) (s2 := 3051) X Y (c_crane l D cyC cyI sb sL xs hI_6 1 10 60 99 (by decide) (by decide) (by decide) (by decide) (by decide)) gL_law_L_crane rfl ⟨rfl, rfl⟩ hdq_L_crane.2 ⟨Nat.le_of_ble_eq_true rfl, Nat.le_of_ble_eq_true rfl⟩ rfl rfl rfl rfl hl.1 (Nat.le_of_ble_eq_true rfl) ⟨Nat.le_of_ble_eq_true rfl, Nat.le_of_ble_eq_true rfl⟩ dL_law_310 (fun  wa_7 H locs hI_7 hw_7 Y => ?_)
  refine lv_aload_n hx hb dL_law_313 rfl (lv_at hl 2 rfl) ?_
  refine qVI (al := al) (As := []) (rest := []) X Y (kn_lay hI_7 rd_200) gL_law_X7_lay rfl hdq_X7_lay ⟨Nat.le_of_ble_eq_true rfl, Nat.le_of_ble_eq_true rfl⟩ hI_7.head rfl rfl hl.1 (Nat.le_of_ble_eq_true rfl) ⟨Nat.le_of_ble_eq_true rfl, Nat.le_of_ble_eq_true rfl⟩ dL_law_314 (fun wa_8 H locs hI_8 hw_8 Y => ?_)
  refine lv_sipush (v := 200) hx hb dL_law_317 (by decide) ?_
  refine lv_icmp_ne (tgt := 416) hx hb dL_law_320 (by decide) (fun c_ => absurd (by decide) c_) (fun _ => ?_)
  refine lv_aload_n hx hb dL_law_323 rfl (lv_at hl 2 rfl) ?_
  refine lv_bipush (v := 9) hx hb dL_law_324 (by decide) ?_
  refine qVI (al := al) (As := [.int 9]) (rest := []) X Y (kn_count hI_8) gL_law_X7_count rfl hdq_X7_count ⟨Nat.le_of_ble_eq_true rfl, Nat.le_of_ble_eq_true rfl⟩ hI_8.head rfl rfl hl.1 (Nat.le_of_ble_eq_true rfl) ⟨Nat.le_of_ble_eq_true rfl, Nat.le_of_ble_eq_true rfl⟩ dL_law_326 (fun wa_9 H locs hI_9 hw_9 Y => ?_)
  refine lv_if_ne (tgt := 416) hx hb dL_law_329 (by decide) (fun c_ => absurd (by decide) c_) (fun _ => ?_)
  refine lv_aload_n hx hb dL_law_332 rfl (lv_at hl 2 rfl) ?_
  refine lv_iconst (v := 1) hx hb dL_law_333 (by decide) ?_
  refine lv_bipush (v := 40) hx hb dL_law_334 (by decide) ?_
  refine qVI (al := al) (As := [.int 1, .int 40]) (rest := []) X Y (kn_cmd hI_9) gL_law_X7_command rfl hdq_X7_command ⟨Nat.le_of_ble_eq_true rfl, Nat.le_of_ble_eq_true rfl⟩ hI_9.head rfl rfl hl.1 (Nat.le_of_ble_eq_true rfl) ⟨Nat.le_of_ble_eq_true rfl, Nat.le_of_ble_eq_true rfl⟩ dL_law_336 (fun wa_10 H locs hI_10 hw_10 Y => ?_)
  refine lv_iconst (v := 1) hx hb dL_law_339 (by decide) ?_
  refine lv_icmp_ne (tgt := 416) hx hb dL_law_340 (by decide) (fun c_ => absurd (by decide) c_) (fun _ => ?_)
  refine lv_aload_n hx hb dL_law_343 rfl (lv_at hl 2 rfl) ?_
  refine lv_bipush (v := 60) hx hb dL_law_344 (by decide) ?_
  refine qVI (al := al) (As := [.int 60]) (rest := []) X Y (kn_tick_0 hI_10) gL_law_X7_tick rfl hdq_X7_tick ⟨Nat.le_of_ble_eq_true rfl, Nat.le_of_ble_eq_true rfl⟩ hI_10.head rfl rfl hl.1 (Nat.le_of_ble_eq_true rfl) ⟨Nat.le_of_ble_eq_true rfl, Nat.le_of_ble_eq_true rfl⟩ dL_law_346 (fun wa_11 H locs hI_11 hw_11 Y => ?_)
  refine lv_if_ne (tgt := 416) hx hb dL_law_349 (by decide) (fun c_ => absurd (by decide) c_) (fun _ => ?_)
  refine lv_aload_n hx hb dL_law_352 rfl (lv_at hl 2 rfl) ?_
  refine lv_bipush (v := 60) hx hb dL_law_353 (by decide) ?_
  refine qVI (al := al) (As := [.int 60]) (rest := []) X Y (kn_tick_1 hI_11) gL_law_X7_tick rfl hdq_X7_tick ⟨Nat.le_of_ble_eq_true rfl, Nat.le_of_ble_eq_true rfl⟩ hI_11.head rfl rfl hl.1 (Nat.le_of_ble_eq_true rfl) ⟨Nat.le_of_ble_eq_true rfl, Nat.le_of_ble_eq_true rfl⟩ dL_law_355 (fun wa_12 H locs hI_12 hw_12 Y => ?_)
  refine lv_bipush (v := 57) hx hb dL_law_358 (by decide) ?_
  refine lv_icmp_ne (tgt := 416) hx hb dL_law_360 (by decide) (fun c_ => absurd (by decide) c_) (fun _ => ?_)
  refine lv_aload_n hx hb dL_law_363 rfl (lv_at hl 2 rfl) ?_
  refine lv_bipush (v := 60) hx hb dL_law_364 (by decide) ?_
  refine qVI (al := al) (As := [.int 60]) (rest := []) X Y (kn_tick_2 hI_12) gL_law_X7_tick rfl hdq_X7_tick ⟨Nat.le_of_ble_eq_true rfl, Nat.le_of_ble_eq_true rfl⟩ hI_12.head rfl rfl hl.1 (Nat.le_of_ble_eq_true rfl) ⟨Nat.le_of_ble_eq_true rfl, Nat.le_of_ble_eq_true rfl⟩ dL_law_366 (fun wa_13 H locs hI_13 hw_13 Y => ?_)
  refine lv_bipush (v := 60) hx hb dL_law_369 (by decide) ?_
  refine lv_icmp_ne (tgt := 416) hx hb dL_law_371 (by decide) (fun c_ => absurd (by decide) c_) (fun _ => ?_)
  refine lv_aload_n hx hb dL_law_374 rfl (lv_at hl 2 rfl) ?_
  refine lv_iconst (v := 1) hx hb dL_law_375 (by decide) ?_
  refine lv_iconst (v := 0) hx hb dL_law_376 (by decide) ?_
  refine qVI (al := al) (As := [.int 1, .int 0]) (rest := []) X Y (kn_crane_0 hI_13) gL_law_X7_crane rfl hdq_X7_crane ⟨Nat.le_of_ble_eq_true rfl, Nat.le_of_ble_eq_true rfl⟩ hI_13.head rfl rfl hl.1 (Nat.le_of_ble_eq_true rfl) ⟨Nat.le_of_ble_eq_true rfl, Nat.le_of_ble_eq_true rfl⟩ dL_law_377 (fun wa_14 H locs hI_14 hw_14 Y => ?_)
  refine lv_sipush (v := 200) hx hb dL_law_380 (by decide) ?_
  refine lv_icmp_ne (tgt := 416) hx hb dL_law_383 (by decide) (fun c_ => absurd (by decide) c_) (fun _ => ?_)
  refine lv_aload_n hx hb dL_law_386 rfl (lv_at hl 2 rfl) ?_
  refine lv_iconst (v := 1) hx hb dL_law_387 (by decide) ?_
  refine lv_bipush (v := 8) hx hb dL_law_388 (by decide) ?_
  refine qVI (al := al) (As := [.int 1, .int 8]) (rest := []) X Y (kn_crane_8 hI_14) gL_law_X7_crane rfl hdq_X7_crane ⟨Nat.le_of_ble_eq_true rfl, Nat.le_of_ble_eq_true rfl⟩ hI_14.head rfl rfl hl.1 (Nat.le_of_ble_eq_true rfl) ⟨Nat.le_of_ble_eq_true rfl, Nat.le_of_ble_eq_true rfl⟩ dL_law_390 (fun wa_15 H locs hI_15 hw_15 Y => ?_)
  refine lv_iconst (v := 3) hx hb dL_law_393 (by decide) ?_
  refine lv_icmp_ne (tgt := 416) hx hb dL_law_394 (by decide) (fun c_ => absurd (by decide) c_) (fun _ => ?_)
  refine lv_aload_n hx hb dL_law_397 rfl (lv_at hl 2 rfl) ?_
  refine lv_iconst (v := 1) hx hb dL_law_398 (by decide) ?_
  refine lv_iconst (v := 1) hx hb dL_law_399 (by decide) ?_
  refine qVI (al := al) (As := [.int 1, .int 1]) (rest := []) X Y (kn_crane_1 hI_15) gL_law_X7_crane rfl hdq_X7_crane ⟨Nat.le_of_ble_eq_true rfl, Nat.le_of_ble_eq_true rfl⟩ hI_15.head rfl rfl hl.1 (Nat.le_of_ble_eq_true rfl) ⟨Nat.le_of_ble_eq_true rfl, Nat.le_of_ble_eq_true rfl⟩ dL_law_400 (fun wa_16 H locs hI_16 hw_16 Y => ?_)
  refine lv_ldc (v := 100000) hx hb X.1.1.2.2.2.1 (X.1.1.2.2.2.2 _ k_L_law_56) dL_law_403 ?_
  refine lv_icmp_ne (tgt := 416) hx hb dL_law_405 (by decide) (fun c_ => absurd (by decide) c_) (fun _ => ?_)
  refine lv_aload_n hx hb dL_law_408 rfl (lv_at hl 2 rfl) ?_
  refine qVI (al := al) (As := []) (rest := []) X Y (kn_undo hI_16) gL_law_X7_undo rfl hdq_X7_undo ⟨Nat.le_of_ble_eq_true rfl, Nat.le_of_ble_eq_true rfl⟩ hI_16.head rfl rfl hl.1 (Nat.le_of_ble_eq_true rfl) ⟨Nat.le_of_ble_eq_true rfl, Nat.le_of_ble_eq_true rfl⟩ dL_law_409 (fun wa_17 H locs hI_17 hw_17 Y => ?_)
  refine lv_iconst (v := 3) hx hb dL_law_412 (by decide) ?_
  refine lv_icmp_eq (tgt := 418) hx hb dL_law_413 (by decide) (fun _ => ?_) (fun c_ => absurd (by decide) c_)
  refine lv_aload_n hx hb dL_law_418 rfl (lv_at hl 2 rfl) ?_
  refine qVI (al := al) (As := []) (rest := []) X Y (qe_wipe hI_17 _ rfl) gL_law_X7_wipe rfl hdq_X7_wipe ⟨Nat.le_of_ble_eq_true rfl, Nat.le_of_ble_eq_true rfl⟩ hI_17.head rfl rfl hl.1 (Nat.le_of_ble_eq_true rfl) ⟨Nat.le_of_ble_eq_true rfl, Nat.le_of_ble_eq_true rfl⟩ dL_law_419 (fun wa_18 H locs hI_18 hw_18 Y => ?_)
  refine lv_pop hx hb dL_law_422 rfl ?_
  refine lv_aload_n hx hb dL_law_423 rfl (lv_at hl 2 rfl) ?_
  refine qVI (al := al) (As := []) (rest := []) X Y (qe_lay hI_18) gL_law_X7_lay rfl hdq_X7_lay ⟨Nat.le_of_ble_eq_true rfl, Nat.le_of_ble_eq_true rfl⟩ hI_18.head rfl rfl hl.1 (Nat.le_of_ble_eq_true rfl) ⟨Nat.le_of_ble_eq_true rfl, Nat.le_of_ble_eq_true rfl⟩ dL_law_424 (fun wa_19 H locs hI_19 hw_19 Y => ?_)
  refine lv_sipush (v := 600) hx hb dL_law_427 (by decide) ?_
  refine lv_icmp_ne (tgt := 453) hx hb dL_law_430 (by decide) (fun c_ => absurd (by decide) c_) (fun _ => ?_)
  refine lv_aload_n hx hb dL_law_433 rfl (lv_at hl 2 rfl) ?_
  refine lv_iconst (v := 0) hx hb dL_law_434 (by decide) ?_
  refine lv_iconst (v := 2) hx hb dL_law_435 (by decide) ?_
  refine qVI (al := al) (As := [.int 0, .int 2]) (rest := []) X Y (rz_crane hI_19) gL_law_X7_crane rfl hdq_X7_crane ⟨Nat.le_of_ble_eq_true rfl, Nat.le_of_ble_eq_true rfl⟩ hI_19.head rfl rfl hl.1 (Nat.le_of_ble_eq_true rfl) ⟨Nat.le_of_ble_eq_true rfl, Nat.le_of_ble_eq_true rfl⟩ dL_law_436 (fun wa_20 H locs hI_20 hw_20 Y => ?_)
  refine lv_bipush (v := 30) hx hb dL_law_439 (by decide) ?_
  refine lv_icmp_ne (tgt := 453) hx hb dL_law_441 (by decide) (fun c_ => absurd (by decide) c_) (fun _ => ?_)
  refine lv_aload_n hx hb dL_law_444 rfl (lv_at hl 2 rfl) ?_
  refine qVI (al := al) (As := []) (rest := []) X Y (rz_undo hI_20) gL_law_X7_undo rfl hdq_X7_undo ⟨Nat.le_of_ble_eq_true rfl, Nat.le_of_ble_eq_true rfl⟩ hI_20.head rfl rfl hl.1 (Nat.le_of_ble_eq_true rfl) ⟨Nat.le_of_ble_eq_true rfl, Nat.le_of_ble_eq_true rfl⟩ dL_law_445 (fun wa_21 H locs hI_21 hw_21 Y => ?_)
  refine lv_bipush (v := (-2)) hx hb dL_law_448 (by decide) ?_
  refine lv_icmp_eq (tgt := 455) hx hb dL_law_450 (by decide) (fun _ => ?_) (fun c_ => absurd (by decide) c_)
  refine lv_iconst (v := 0) hx hb dL_law_455 (by decide) ?_
  refine lv_istore_n (lv' := [(3, .int 0), (0, .ref sb), (1, .ref (Q 0))]) hx hb dL_law_456 rfl hl (by decide) rfl (fun ls hl => ?_)
  exact lw_457 l X hr hlk (al := al) 167 0 _ _ _ _ (by omega) (by omega) hI_21.rw (lv_sub hl [0, 1, 2] rfl) Y
theorem spot_0 {sm : Int32} {sf sg : Nat → Int32} (h : sm = 0) : s_spot_0 sm sf sg (-1) 0 = 0 := by
  unfold s_spot_0
  rw [if_pos (by decide +kernel), if_neg (by decide +kernel), if_pos (by decide +kernel), if_pos rfl, h]
theorem spot_1 {sm : Int32} {sf sg : Nat → Int32} (h : sm = 0) : s_spot_1 sm sf sg (-1) 0 = 0 := by
  unfold s_spot_1
  rw [if_pos (by decide +kernel), if_neg (by decide +kernel), if_pos (by decide +kernel), if_pos rfl, h]
theorem hdq_L_lays : bD1 yL_lays RL 4 := by decide +kernel
theorem hdq_L_undoes : bD1 yL_undoes RL 3 := by decide +kernel
theorem hdq_L_refused : bD1 yL_refused RL 1 := by decide +kernel
set_option maxHeartbeats 8000000 in
set_option maxRecDepth 100000 in
theorem lw_82_3 {p_ : Program} {e_ : Env} {s_ : State} {m_ : MethodId} {bl_ : List Frame} {me_ : Method} {cd_ : Code} (l : Launch) {D : va_G} {cyC cyI : ClassId} {sb sL : Nat} {xs : Nat → Int32} (X : qX p_ s_ m_ #[Value.ref sb] cd_ cL_law 5 wsL_law RL D cyC cyI sb sL xs (fun q : Nat => s_.heap.size ≤ q)) (hr : me_.sig.returnType = ret) (hlk : me_.locks = false) {Q : Nat → Nat} (hsL : sL ≤ 260) {r : Nat → Int32} {S : Nat → Sto} {ud : Int32} {T : List Int32} {H : Heap} {locs : List Loc} {ls : Array Slot} {wa : va_W} {bm : Nat} {g : Nat → Int32} (hI : QW cyC cyI Q r S ud T wa) (_hok : OkS r (S 0)) (hl : lv_has ls 5 [(3, .int 3), (0, .ref sb), (1, .ref (Q 0)), (2, .ref bm)]) (Y : bY D (fun q : Nat => s_.heap.size ≤ q) s_.heap ([(bm, .inl (cyI, 40, .inl g))] ++ wa) H locs) : W p_ l e_ room_1 s_ m_ #[Value.ref sb] bl_ me_ cd_ H locs 69 2975 (lw_Z bl_ #[Value.ref sb] s_) (F0 m_ 82 ls []) := by
  have hx := X.1.1.1
  have hb := X.1.1.2.1
  refine lv_iload_n hx hb dL_law_82 rfl (lv_at hl 0 rfl) ?_
  refine lv_iconst (v := 4) hx hb dL_law_83 (by decide) ?_
  refine lv_icmp_ge (tgt := 250) hx hb dL_law_84 (by decide) (fun c_ => absurd c_ (by decide)) (fun _ => ?_)
  refine lv_aload_n hx hb dL_law_87 rfl (lv_at hl 2 rfl) ?_
  refine lv_aload_n hx hb dL_law_88 rfl (lv_at hl 1 rfl) ?_
  refine lv_bipush (v := 40) hx hb dL_law_89 (by decide) ?_
  refine lv_iload_n hx hb dL_law_91 rfl (lv_at hl 0 rfl) ?_
  refine bMul (v := nI 120) X.1 dL_law_92 (by decide +kernel) ?_
  refine lv_aload_n hx hb dL_law_93 rfl (lv_at hl 3 rfl) ?_
  refine qSI (al := []) (wa := ([(bm, .inl (cyI, 40, .inl g))] ++ wa)) (As := [.ref (Q 0), .ref sb, .int (nI 120), .ref bm]) (rest := []) (c2 := 69) (s2 := 2975) X Y (c_lays l D cyC cyI sb sL xs hI 120 (by omega) hsL bm g) gL_law_L_lays rfl ⟨rfl, rfl⟩ hdq_L_lays.2 ⟨Nat.le_of_ble_eq_true rfl, Nat.le_of_ble_eq_true rfl⟩ rfl rfl rfl rfl hl.1 (Nat.le_of_ble_eq_true rfl) ⟨Nat.le_of_ble_eq_true rfl, Nat.le_of_ble_eq_true rfl⟩ dL_law_94 (fun r_2 wa_1 H locs hI_1 hw_1 Y => ?_)
  obtain ⟨er_2, wq, gq, rq, Sq, Tq, eq_, hq, hokq, ⟨e2, e4, e5⟩, ⟨e14, e16, e17⟩, e26, e27⟩ := hI_1
  subst er_2
  subst eq_
  have Y : bY D (fun q : Nat => s_.heap.size ≤ q) s_.heap ([(bm, .inl (cyI, 40, .inl gq))] ++ wq) H locs := Y
  refine lv_if_eq (tgt := 116) hx hb dL_law_97 (by decide) (fun c_ => absurd c_ (by decide)) (fun _ => ?_)
  refine lv_aload_n hx hb dL_law_100 rfl (lv_at hl 2 rfl) ?_
  refine lv_bipush (v := 7) hx hb dL_law_101 (by decide) ?_
  refine qVI (al := [(bm, .inl (cyI, 40, .inl gq))]) (As := [.int 7]) (rest := []) X Y (k_count hq 7 0 rfl) gL_law_X7_count rfl hdq_X7_count ⟨Nat.le_of_ble_eq_true rfl, Nat.le_of_ble_eq_true rfl⟩ hq.head rfl rfl hl.1 (Nat.le_of_ble_eq_true rfl) ⟨Nat.le_of_ble_eq_true rfl, Nat.le_of_ble_eq_true rfl⟩ dL_law_103 (fun wa_3 H locs hI_3 hw_3 Y => ?_)
  refine lv_if_ne (tgt := 116) hx hb dL_law_106 (by decide) (fun c_ => absurd (by decide) c_) (fun _ => ?_)
  refine lv_aload_n hx hb dL_law_109 rfl (lv_at hl 2 rfl) ?_
  refine qSI (al := [(bm, .inl (cyI, 40, .inl gq))]) (wa := wa_3) (As := [.ref (Q 0)]) (rest := []) (c2 := 69) (s2 := 2975) X Y (c_holds l D cyC cyI sb sL xs hI_3 hokq) gL_law_L_holds rfl ⟨rfl, rfl⟩ hdq_L_holds.2 ⟨Nat.le_of_ble_eq_true rfl, Nat.le_of_ble_eq_true rfl⟩ rfl rfl rfl rfl hl.1 (Nat.le_of_ble_eq_true rfl) ⟨Nat.le_of_ble_eq_true rfl, Nat.le_of_ble_eq_true rfl⟩ dL_law_110 (fun r_5 wa_4 H locs hI_4 hw_4 Y => ?_)
  obtain ⟨er_5, hI_4⟩ := hI_4
  subst er_5
  refine lv_if_ne (tgt := 118) hx hb dL_law_113 (by decide) (fun _ => ?_) (fun c_ => absurd c_ (by decide))
  refine lv_iconst (v := 0) hx hb dL_law_118 (by decide) ?_
  refine lv_istore (lv' := [(4, .int 0), (3, .int 3), (0, .ref sb), (1, .ref (Q 0)), (2, .ref bm)]) hx hb dL_law_119 hl (by decide) rfl (fun ls hl => ?_)
  refine lv_iload hx hb dL_law_121 (lv_at hl 0 rfl) ?_
  refine lv_iconst (v := 2) hx hb dL_law_123 (by decide) ?_
  refine lv_icmp_ge (tgt := 206) hx hb dL_law_124 (by decide) (fun c_ => absurd c_ (by decide)) (fun _ => ?_)
  refine lv_aload_n hx hb dL_law_127 rfl (lv_at hl 3 rfl) ?_
  refine lv_iload hx hb dL_law_128 (lv_at hl 0 rfl) ?_
  refine lv_iconst (v := 0) hx hb dL_law_130 (by decide) ?_
  refine qVI (al := [(bm, .inl (cyI, 40, .inl gq))]) (As := [.int 0, .int 0]) (rest := []) X Y (k_crane_0 hI_4 0 ((Sq 0).1 2) rfl) gL_law_X7_crane rfl hdq_X7_crane ⟨Nat.le_of_ble_eq_true rfl, Nat.le_of_ble_eq_true rfl⟩ hI_4.head rfl rfl hl.1 (Nat.le_of_ble_eq_true rfl) ⟨Nat.le_of_ble_eq_true rfl, Nat.le_of_ble_eq_true rfl⟩ dL_law_131 (fun wa_6 H locs hI_6 hw_6 Y => ?_)
  refine lv_aload_n hx hb dL_law_134 rfl (lv_at hl 4 rfl) ?_
  refine lv_bipush (v := 8) hx hb dL_law_135 (by decide) ?_
  refine lv_bipush (v := 12) hx hb dL_law_137 (by decide) ?_
  refine lv_iload hx hb dL_law_139 (lv_at hl 0 rfl) ?_
  refine bMul (v := 0) X.1 dL_law_141 (by decide) ?_
  refine bAdd (v := 8) X.1 dL_law_142 (by decide) ?_
  refine bIald (v := gq 8) X.1 Y 0 rfl (bInD (by decide)) dL_law_143 rfl ?_
  refine lv_icmp_ne (tgt := 198) hx hb dL_law_144 (by decide) (fun c_7 => ?_) (fun c_7 => ?_)
  · exact absurd e2 (show ¬ (((Sq 0).1 2) = (gq 8)) from c_7)
  · have c_7 : ((Sq 0).1 2) = (gq 8) := c_7
    refine lv_aload_n hx hb dL_law_147 rfl (lv_at hl 3 rfl) ?_
    refine lv_iload hx hb dL_law_148 (lv_at hl 0 rfl) ?_
    refine lv_iconst (v := 2) hx hb dL_law_150 (by decide) ?_
    refine qVI (al := [(bm, .inl (cyI, 40, .inl gq))]) (As := [.int 0, .int 2]) (rest := []) X Y (k_crane_0 hI_6 2 ((Sq 0).1 4) rfl) gL_law_X7_crane rfl hdq_X7_crane ⟨Nat.le_of_ble_eq_true rfl, Nat.le_of_ble_eq_true rfl⟩ hI_6.head rfl rfl hl.1 (Nat.le_of_ble_eq_true rfl) ⟨Nat.le_of_ble_eq_true rfl, Nat.le_of_ble_eq_true rfl⟩ dL_law_151 (fun wa_8 H locs hI_8 hw_8 Y => ?_)
    refine lv_aload_n hx hb dL_law_154 rfl (lv_at hl 4 rfl) ?_
    refine lv_bipush (v := 10) hx hb dL_law_155 (by decide) ?_
    refine lv_bipush (v := 12) hx hb dL_law_157 (by decide) ?_
    refine lv_iload hx hb dL_law_159 (lv_at hl 0 rfl) ?_
    refine bMul (v := 0) X.1 dL_law_161 (by decide) ?_
    refine bAdd (v := 10) X.1 dL_law_162 (by decide) ?_
    refine bIald (v := gq 10) X.1 Y 0 rfl (bInD (by decide)) dL_law_163 rfl ?_
    refine lv_icmp_ne (tgt := 198) hx hb dL_law_164 (by decide) (fun c_9 => ?_) (fun c_9 => ?_)
    · exact absurd e4 (show ¬ (((Sq 0).1 4) = (gq 10)) from c_9)
    · have c_9 : ((Sq 0).1 4) = (gq 10) := c_9
      refine lv_aload_n hx hb dL_law_167 rfl (lv_at hl 3 rfl) ?_
      refine lv_iload hx hb dL_law_168 (lv_at hl 0 rfl) ?_
      refine lv_iconst (v := 3) hx hb dL_law_170 (by decide) ?_
      refine qVI (al := [(bm, .inl (cyI, 40, .inl gq))]) (As := [.int 0, .int 3]) (rest := []) X Y (k_crane_0 hI_8 3 ((Sq 0).1 5) rfl) gL_law_X7_crane rfl hdq_X7_crane ⟨Nat.le_of_ble_eq_true rfl, Nat.le_of_ble_eq_true rfl⟩ hI_8.head rfl rfl hl.1 (Nat.le_of_ble_eq_true rfl) ⟨Nat.le_of_ble_eq_true rfl, Nat.le_of_ble_eq_true rfl⟩ dL_law_171 (fun wa_10 H locs hI_10 hw_10 Y => ?_)
      refine lv_aload_n hx hb dL_law_174 rfl (lv_at hl 4 rfl) ?_
      refine lv_bipush (v := 11) hx hb dL_law_175 (by decide) ?_
      refine lv_bipush (v := 12) hx hb dL_law_177 (by decide) ?_
      refine lv_iload hx hb dL_law_179 (lv_at hl 0 rfl) ?_
      refine bMul (v := 0) X.1 dL_law_181 (by decide) ?_
      refine bAdd (v := 11) X.1 dL_law_182 (by decide) ?_
      refine bIald (v := gq 11) X.1 Y 0 rfl (bInD (by decide)) dL_law_183 rfl ?_
      refine lv_icmp_ne (tgt := 198) hx hb dL_law_184 (by decide) (fun c_11 => ?_) (fun c_11 => ?_)
      · exact absurd e5 (show ¬ (((Sq 0).1 5) = (gq 11)) from c_11)
      · have c_11 : ((Sq 0).1 5) = (gq 11) := c_11
        refine lv_aload_n hx hb dL_law_187 rfl (lv_at hl 3 rfl) ?_
        refine lv_iload hx hb dL_law_188 (lv_at hl 0 rfl) ?_
        refine lv_iconst (v := (-1)) hx hb dL_law_190 (by decide) ?_
        refine lv_iconst (v := 0) hx hb dL_law_191 (by decide) ?_
        refine qVI (al := [(bm, .inl (cyI, 40, .inl gq))]) (As := [.int 0, .int (-1), .int 0]) (rest := []) X Y (k_spot_0 hI_10 (-1) 0 0 (spot_0 e26)) gL_law_X7_spot rfl hdq_X7_spot ⟨Nat.le_of_ble_eq_true rfl, Nat.le_of_ble_eq_true rfl⟩ hI_10.head rfl rfl hl.1 (Nat.le_of_ble_eq_true rfl) ⟨Nat.le_of_ble_eq_true rfl, Nat.le_of_ble_eq_true rfl⟩ dL_law_192 (fun wa_12 H locs hI_12 hw_12 Y => ?_)
        refine lv_if_eq (tgt := 200) hx hb dL_law_195 (by decide) (fun _ => ?_) (fun c_ => absurd (by decide) c_)
        refine lv_iinc (v := 1) (lv' := [(4, .int 1), (3, .int 3), (0, .ref sb), (1, .ref (Q 0)), (2, .ref bm)]) hx hb dL_law_200 hl (k := 0) rfl (by decide) (by decide) rfl (fun ls hl => ?_)
        refine lv_goto (tgt := 121) hx hb dL_law_203 (by decide) ?_
        refine lv_iload hx hb dL_law_121 (lv_at hl 0 rfl) ?_
        refine lv_iconst (v := 2) hx hb dL_law_123 (by decide) ?_
        refine lv_icmp_ge (tgt := 206) hx hb dL_law_124 (by decide) (fun c_ => absurd c_ (by decide)) (fun _ => ?_)
        refine lv_aload_n hx hb dL_law_127 rfl (lv_at hl 3 rfl) ?_
        refine lv_iload hx hb dL_law_128 (lv_at hl 0 rfl) ?_
        refine lv_iconst (v := 0) hx hb dL_law_130 (by decide) ?_
        refine qVI (al := [(bm, .inl (cyI, 40, .inl gq))]) (As := [.int 1, .int 0]) (rest := []) X Y (k_crane_1 hI_12 0 ((Sq 0).1 14) rfl) gL_law_X7_crane rfl hdq_X7_crane ⟨Nat.le_of_ble_eq_true rfl, Nat.le_of_ble_eq_true rfl⟩ hI_12.head rfl rfl hl.1 (Nat.le_of_ble_eq_true rfl) ⟨Nat.le_of_ble_eq_true rfl, Nat.le_of_ble_eq_true rfl⟩ dL_law_131 (fun wa_13 H locs hI_13 hw_13 Y => ?_)
        refine lv_aload_n hx hb dL_law_134 rfl (lv_at hl 4 rfl) ?_
        refine lv_bipush (v := 8) hx hb dL_law_135 (by decide) ?_
        refine lv_bipush (v := 12) hx hb dL_law_137 (by decide) ?_
        refine lv_iload hx hb dL_law_139 (lv_at hl 0 rfl) ?_
        refine bMul (v := 12) X.1 dL_law_141 (by decide) ?_
        refine bAdd (v := 20) X.1 dL_law_142 (by decide) ?_
        refine bIald (v := gq 20) X.1 Y 0 rfl (bInD (by decide)) dL_law_143 rfl ?_
        refine lv_icmp_ne (tgt := 198) hx hb dL_law_144 (by decide) (fun c_14 => ?_) (fun c_14 => ?_)
        · exact absurd e14 (show ¬ (((Sq 0).1 14) = (gq 20)) from c_14)
        · have c_14 : ((Sq 0).1 14) = (gq 20) := c_14
          refine lv_aload_n hx hb dL_law_147 rfl (lv_at hl 3 rfl) ?_
          refine lv_iload hx hb dL_law_148 (lv_at hl 0 rfl) ?_
          refine lv_iconst (v := 2) hx hb dL_law_150 (by decide) ?_
          refine qVI (al := [(bm, .inl (cyI, 40, .inl gq))]) (As := [.int 1, .int 2]) (rest := []) X Y (k_crane_1 hI_13 2 ((Sq 0).1 16) rfl) gL_law_X7_crane rfl hdq_X7_crane ⟨Nat.le_of_ble_eq_true rfl, Nat.le_of_ble_eq_true rfl⟩ hI_13.head rfl rfl hl.1 (Nat.le_of_ble_eq_true rfl) ⟨Nat.le_of_ble_eq_true rfl, Nat.le_of_ble_eq_true rfl⟩ dL_law_151 (fun wa_15 H locs hI_15 hw_15 Y => ?_)
          refine lv_aload_n hx hb dL_law_154 rfl (lv_at hl 4 rfl) ?_
          refine lv_bipush (v := 10) hx hb dL_law_155 (by decide) ?_
          refine lv_bipush (v := 12) hx hb dL_law_157 (by decide) ?_
          refine lv_iload hx hb dL_law_159 (lv_at hl 0 rfl) ?_
          refine bMul (v := 12) X.1 dL_law_161 (by decide) ?_
          refine bAdd (v := 22) X.1 dL_law_162 (by decide) ?_
          refine bIald (v := gq 22) X.1 Y 0 rfl (bInD (by decide)) dL_law_163 rfl ?_
          refine lv_icmp_ne (tgt := 198) hx hb dL_law_164 (by decide) (fun c_16 => ?_) (fun c_16 => ?_)
          · exact absurd e16 (show ¬ (((Sq 0).1 16) = (gq 22)) from c_16)
          · have c_16 : ((Sq 0).1 16) = (gq 22) := c_16
            refine lv_aload_n hx hb dL_law_167 rfl (lv_at hl 3 rfl) ?_
            refine lv_iload hx hb dL_law_168 (lv_at hl 0 rfl) ?_
            refine lv_iconst (v := 3) hx hb dL_law_170 (by decide) ?_
            refine qVI (al := [(bm, .inl (cyI, 40, .inl gq))]) (As := [.int 1, .int 3]) (rest := []) X Y (k_crane_1 hI_15 3 ((Sq 0).1 17) rfl) gL_law_X7_crane rfl hdq_X7_crane ⟨Nat.le_of_ble_eq_true rfl, Nat.le_of_ble_eq_true rfl⟩ hI_15.head rfl rfl hl.1 (Nat.le_of_ble_eq_true rfl) ⟨Nat.le_of_ble_eq_true rfl, Nat.le_of_ble_eq_true rfl⟩ dL_law_171 (fun wa_17 H locs hI_17 hw_17 Y => ?_)
            refine lv_aload_n hx hb dL_law_174 rfl (lv_at hl 4 rfl) ?_
            refine lv_bipush (v := 11) hx hb dL_law_175 (by decide) ?_
            refine lv_bipush (v := 12) hx hb dL_law_177 (by decide) ?_
            refine lv_iload hx hb dL_law_179 (lv_at hl 0 rfl) ?_
            refine bMul (v := 12) X.1 dL_law_181 (by decide) ?_
            refine bAdd (v := 23) X.1 dL_law_182 (by decide) ?_
            refine bIald (v := gq 23) X.1 Y 0 rfl (bInD (by decide)) dL_law_183 rfl ?_
            refine lv_icmp_ne (tgt := 198) hx hb dL_law_184 (by decide) (fun c_18 => ?_) (fun c_18 => ?_)
            · exact absurd e17 (show ¬ (((Sq 0).1 17) = (gq 23)) from c_18)
            · have c_18 : ((Sq 0).1 17) = (gq 23) := c_18
              refine lv_aload_n hx hb dL_law_187 rfl (lv_at hl 3 rfl) ?_
              refine lv_iload hx hb dL_law_188 (lv_at hl 0 rfl) ?_
              refine lv_iconst (v := (-1)) hx hb dL_law_190 (by decide) ?_
              refine lv_iconst (v := 0) hx hb dL_law_191 (by decide) ?_
              refine qVI (al := [(bm, .inl (cyI, 40, .inl gq))]) (As := [.int 1, .int (-1), .int 0]) (rest := []) X Y (k_spot_1 hI_17 (-1) 0 0 (spot_1 e27)) gL_law_X7_spot rfl hdq_X7_spot ⟨Nat.le_of_ble_eq_true rfl, Nat.le_of_ble_eq_true rfl⟩ hI_17.head rfl rfl hl.1 (Nat.le_of_ble_eq_true rfl) ⟨Nat.le_of_ble_eq_true rfl, Nat.le_of_ble_eq_true rfl⟩ dL_law_192 (fun wa_19 H locs hI_19 hw_19 Y => ?_)
              refine lv_if_eq (tgt := 200) hx hb dL_law_195 (by decide) (fun _ => ?_) (fun c_ => absurd (by decide) c_)
              refine lv_iinc (v := 2) (lv' := [(4, .int 2), (3, .int 3), (0, .ref sb), (1, .ref (Q 0)), (2, .ref bm)]) hx hb dL_law_200 hl (k := 0) rfl (by decide) (by decide) rfl (fun ls hl => ?_)
              refine lv_goto (tgt := 121) hx hb dL_law_203 (by decide) ?_
              refine lv_iload hx hb dL_law_121 (lv_at hl 0 rfl) ?_
              refine lv_iconst (v := 2) hx hb dL_law_123 (by decide) ?_
              refine lv_icmp_ge (tgt := 206) hx hb dL_law_124 (by decide) (fun _ => ?_) (fun c_ => absurd (by decide) c_)
              refine lv_aload_n hx hb dL_law_206 rfl (lv_at hl 3 rfl) ?_
              refine lv_aload_n hx hb dL_law_207 rfl (lv_at hl 2 rfl) ?_
              refine lv_bipush (v := 40) hx hb dL_law_208 (by decide) ?_
              refine lv_iload_n hx hb dL_law_210 rfl (lv_at hl 1 rfl) ?_
              refine bMul (v := 120) X.1 dL_law_211 (by decide) ?_
              refine lv_iconst (v := 4) hx hb dL_law_212 (by decide) ?_
              refine bAdd (v := nI 124) X.1 dL_law_213 (by decide +kernel) ?_
              have hz : QW cyC cyI Q rq Sq (nI 0) Tq wa_19 := by rw [nI_0]; exact hI_19
              refine qSI (al := [(bm, .inl (cyI, 40, .inl gq))]) (wa := wa_19) (As := [.ref (Q 0), .ref sb, .int (nI 124)]) (rest := []) (c2 := 70) (s2 := 2987) X Y (c_undoes l D cyC cyI sb sL xs (u0 := 0) hz 124 (by omega) (fun i hi => by rw [Nat.le_zero.mp hi]; exact hokq) (by omega) hsL) gL_law_L_undoes rfl ⟨rfl, rfl⟩ hdq_L_undoes.2 ⟨Nat.le_of_ble_eq_true rfl, Nat.le_of_ble_eq_true rfl⟩ rfl rfl rfl rfl hl.1 (Nat.le_of_ble_eq_true rfl) ⟨Nat.le_of_ble_eq_true rfl, Nat.le_of_ble_eq_true rfl⟩ dL_law_214 (fun r_21 wa_20 H locs hI_20 hw_20 Y => ?_)
              obtain ⟨er_21, S2, u2, hu_, hu2, hok2⟩ := hI_20
              subst er_21
              have hI2 := hu_
              refine lv_if_eq (tgt := 242) hx hb dL_law_217 (by decide) (fun c_ => absurd c_ (by decide)) (fun _ => ?_)
              refine lv_aload_n hx hb dL_law_220 rfl (lv_at hl 3 rfl) ?_
              refine lv_aload_n hx hb dL_law_221 rfl (lv_at hl 2 rfl) ?_
              refine lv_bipush (v := 40) hx hb dL_law_222 (by decide) ?_
              refine lv_iload_n hx hb dL_law_224 rfl (lv_at hl 1 rfl) ?_
              refine bMul (v := 120) X.1 dL_law_225 (by decide) ?_
              refine lv_bipush (v := 14) hx hb dL_law_226 (by decide) ?_
              refine bAdd (v := nI 134) X.1 dL_law_228 (by decide +kernel) ?_
              refine qSI (al := [(bm, .inl (cyI, 40, .inl gq))]) (wa := wa_20) (As := [.ref (Q 0), .ref sb, .int (nI 134)]) (rest := []) (c2 := 71) (s2 := 2999) X Y (c_undoes l D cyC cyI sb sL xs hI2 134 hu2 hok2 (by omega) hsL) gL_law_L_undoes rfl ⟨rfl, rfl⟩ hdq_L_undoes.2 ⟨Nat.le_of_ble_eq_true rfl, Nat.le_of_ble_eq_true rfl⟩ rfl rfl rfl rfl hl.1 (Nat.le_of_ble_eq_true rfl) ⟨Nat.le_of_ble_eq_true rfl, Nat.le_of_ble_eq_true rfl⟩ dL_law_229 (fun r_23 wa_22 H locs hI_22 hw_22 Y => ?_)
              obtain ⟨er_23, S3, u3, hu_, hu3, hok3⟩ := hI_22
              subst er_23
              have hI3 := hu_
              refine lv_if_eq (tgt := 242) hx hb dL_law_232 (by decide) (fun c_ => absurd c_ (by decide)) (fun _ => ?_)
              refine lv_aload_n hx hb dL_law_235 rfl (lv_at hl 3 rfl) ?_
              refine qSI (al := [(bm, .inl (cyI, 40, .inl gq))]) (wa := wa_22) (As := [.ref (Q 0)]) (rest := []) (c2 := 71) (s2 := 2999) X Y (c_refused l D cyC cyI sb sL xs hI3 (hok3 0 (Nat.zero_le _))) gL_law_L_refused rfl ⟨rfl, rfl⟩ hdq_L_refused.2 ⟨Nat.le_of_ble_eq_true rfl, Nat.le_of_ble_eq_true rfl⟩ rfl rfl rfl rfl hl.1 (Nat.le_of_ble_eq_true rfl) ⟨Nat.le_of_ble_eq_true rfl, Nat.le_of_ble_eq_true rfl⟩ dL_law_236 (fun r_25 wa_24 H locs hI_24 hw_24 Y => ?_)
              obtain ⟨er_25, hI_24⟩ := hI_24
              subst er_25
              refine lv_if_ne (tgt := 244) hx hb dL_law_239 (by decide) (fun _ => ?_) (fun c_ => absurd c_ (by decide))
              refine lv_iinc (v := 4) (lv' := [(3, .int 4), (4, .int 2), (0, .ref sb), (1, .ref (Q 0)), (2, .ref bm)]) hx hb dL_law_244 hl (k := 1) rfl (by decide) (by decide) rfl (fun ls hl => ?_)
              refine lv_goto (tgt := 82) hx hb dL_law_247 (by decide) ?_
              exact lw_82_4 l X hr hlk (al := [(bm, .inl (cyI, 40, .inl gq))]) hI_24 (hok3 0 (Nat.zero_le _)) (lv_sub hl [0, 2, 3] rfl) Y
set_option maxHeartbeats 8000000 in
set_option maxRecDepth 100000 in
theorem lw_82_2 {p_ : Program} {e_ : Env} {s_ : State} {m_ : MethodId} {bl_ : List Frame} {me_ : Method} {cd_ : Code} (l : Launch) {D : va_G} {cyC cyI : ClassId} {sb sL : Nat} {xs : Nat → Int32} (X : qX p_ s_ m_ #[Value.ref sb] cd_ cL_law 5 wsL_law RL D cyC cyI sb sL xs (fun q : Nat => s_.heap.size ≤ q)) (hr : me_.sig.returnType = ret) (hlk : me_.locks = false) {Q : Nat → Nat} (hsL : sL ≤ 260) {r : Nat → Int32} {S : Nat → Sto} {ud : Int32} {T : List Int32} {H : Heap} {locs : List Loc} {ls : Array Slot} {wa : va_W} {bm : Nat} {g : Nat → Int32} (hI : QW cyC cyI Q r S ud T wa) (_hok : OkS r (S 0)) (hl : lv_has ls 5 [(3, .int 2), (0, .ref sb), (1, .ref (Q 0)), (2, .ref bm)]) (Y : bY D (fun q : Nat => s_.heap.size ≤ q) s_.heap ([(bm, .inl (cyI, 40, .inl g))] ++ wa) H locs) : W p_ l e_ room_1 s_ m_ #[Value.ref sb] bl_ me_ cd_ H locs 67 2951 (lw_Z bl_ #[Value.ref sb] s_) (F0 m_ 82 ls []) := by
  have hx := X.1.1.1
  have hb := X.1.1.2.1
  refine lv_iload_n hx hb dL_law_82 rfl (lv_at hl 0 rfl) ?_
  refine lv_iconst (v := 4) hx hb dL_law_83 (by decide) ?_
  refine lv_icmp_ge (tgt := 250) hx hb dL_law_84 (by decide) (fun c_ => absurd c_ (by decide)) (fun _ => ?_)
  refine lv_aload_n hx hb dL_law_87 rfl (lv_at hl 2 rfl) ?_
  refine lv_aload_n hx hb dL_law_88 rfl (lv_at hl 1 rfl) ?_
  refine lv_bipush (v := 40) hx hb dL_law_89 (by decide) ?_
  refine lv_iload_n hx hb dL_law_91 rfl (lv_at hl 0 rfl) ?_
  refine bMul (v := nI 80) X.1 dL_law_92 (by decide +kernel) ?_
  refine lv_aload_n hx hb dL_law_93 rfl (lv_at hl 3 rfl) ?_
  refine qSI (al := []) (wa := ([(bm, .inl (cyI, 40, .inl g))] ++ wa)) (As := [.ref (Q 0), .ref sb, .int (nI 80), .ref bm]) (rest := []) (c2 := 67) (s2 := 2951) X Y (c_lays l D cyC cyI sb sL xs hI 80 (by omega) hsL bm g) gL_law_L_lays rfl ⟨rfl, rfl⟩ hdq_L_lays.2 ⟨Nat.le_of_ble_eq_true rfl, Nat.le_of_ble_eq_true rfl⟩ rfl rfl rfl rfl hl.1 (Nat.le_of_ble_eq_true rfl) ⟨Nat.le_of_ble_eq_true rfl, Nat.le_of_ble_eq_true rfl⟩ dL_law_94 (fun r_2 wa_1 H locs hI_1 hw_1 Y => ?_)
  obtain ⟨er_2, wq, gq, rq, Sq, Tq, eq_, hq, hokq, ⟨e2, e4, e5⟩, ⟨e14, e16, e17⟩, e26, e27⟩ := hI_1
  subst er_2
  subst eq_
  have Y : bY D (fun q : Nat => s_.heap.size ≤ q) s_.heap ([(bm, .inl (cyI, 40, .inl gq))] ++ wq) H locs := Y
  refine lv_if_eq (tgt := 116) hx hb dL_law_97 (by decide) (fun c_ => absurd c_ (by decide)) (fun _ => ?_)
  refine lv_aload_n hx hb dL_law_100 rfl (lv_at hl 2 rfl) ?_
  refine lv_bipush (v := 7) hx hb dL_law_101 (by decide) ?_
  refine qVI (al := [(bm, .inl (cyI, 40, .inl gq))]) (As := [.int 7]) (rest := []) X Y (k_count hq 7 0 rfl) gL_law_X7_count rfl hdq_X7_count ⟨Nat.le_of_ble_eq_true rfl, Nat.le_of_ble_eq_true rfl⟩ hq.head rfl rfl hl.1 (Nat.le_of_ble_eq_true rfl) ⟨Nat.le_of_ble_eq_true rfl, Nat.le_of_ble_eq_true rfl⟩ dL_law_103 (fun wa_3 H locs hI_3 hw_3 Y => ?_)
  refine lv_if_ne (tgt := 116) hx hb dL_law_106 (by decide) (fun c_ => absurd (by decide) c_) (fun _ => ?_)
  refine lv_aload_n hx hb dL_law_109 rfl (lv_at hl 2 rfl) ?_
  refine qSI (al := [(bm, .inl (cyI, 40, .inl gq))]) (wa := wa_3) (As := [.ref (Q 0)]) (rest := []) (c2 := 67) (s2 := 2951) X Y (c_holds l D cyC cyI sb sL xs hI_3 hokq) gL_law_L_holds rfl ⟨rfl, rfl⟩ hdq_L_holds.2 ⟨Nat.le_of_ble_eq_true rfl, Nat.le_of_ble_eq_true rfl⟩ rfl rfl rfl rfl hl.1 (Nat.le_of_ble_eq_true rfl) ⟨Nat.le_of_ble_eq_true rfl, Nat.le_of_ble_eq_true rfl⟩ dL_law_110 (fun r_5 wa_4 H locs hI_4 hw_4 Y => ?_)
  obtain ⟨er_5, hI_4⟩ := hI_4
  subst er_5
  refine lv_if_ne (tgt := 118) hx hb dL_law_113 (by decide) (fun _ => ?_) (fun c_ => absurd c_ (by decide))
  refine lv_iconst (v := 0) hx hb dL_law_118 (by decide) ?_
  refine lv_istore (lv' := [(4, .int 0), (3, .int 2), (0, .ref sb), (1, .ref (Q 0)), (2, .ref bm)]) hx hb dL_law_119 hl (by decide) rfl (fun ls hl => ?_)
  refine lv_iload hx hb dL_law_121 (lv_at hl 0 rfl) ?_
  refine lv_iconst (v := 2) hx hb dL_law_123 (by decide) ?_
  refine lv_icmp_ge (tgt := 206) hx hb dL_law_124 (by decide) (fun c_ => absurd c_ (by decide)) (fun _ => ?_)
  refine lv_aload_n hx hb dL_law_127 rfl (lv_at hl 3 rfl) ?_
  refine lv_iload hx hb dL_law_128 (lv_at hl 0 rfl) ?_
  refine lv_iconst (v := 0) hx hb dL_law_130 (by decide) ?_
  refine qVI (al := [(bm, .inl (cyI, 40, .inl gq))]) (As := [.int 0, .int 0]) (rest := []) X Y (k_crane_0 hI_4 0 ((Sq 0).1 2) rfl) gL_law_X7_crane rfl hdq_X7_crane ⟨Nat.le_of_ble_eq_true rfl, Nat.le_of_ble_eq_true rfl⟩ hI_4.head rfl rfl hl.1 (Nat.le_of_ble_eq_true rfl) ⟨Nat.le_of_ble_eq_true rfl, Nat.le_of_ble_eq_true rfl⟩ dL_law_131 (fun wa_6 H locs hI_6 hw_6 Y => ?_)
  refine lv_aload_n hx hb dL_law_134 rfl (lv_at hl 4 rfl) ?_
  refine lv_bipush (v := 8) hx hb dL_law_135 (by decide) ?_
  refine lv_bipush (v := 12) hx hb dL_law_137 (by decide) ?_
  refine lv_iload hx hb dL_law_139 (lv_at hl 0 rfl) ?_
  refine bMul (v := 0) X.1 dL_law_141 (by decide) ?_
  refine bAdd (v := 8) X.1 dL_law_142 (by decide) ?_
  refine bIald (v := gq 8) X.1 Y 0 rfl (bInD (by decide)) dL_law_143 rfl ?_
  refine lv_icmp_ne (tgt := 198) hx hb dL_law_144 (by decide) (fun c_7 => ?_) (fun c_7 => ?_)
  · exact absurd e2 (show ¬ (((Sq 0).1 2) = (gq 8)) from c_7)
  · have c_7 : ((Sq 0).1 2) = (gq 8) := c_7
    refine lv_aload_n hx hb dL_law_147 rfl (lv_at hl 3 rfl) ?_
    refine lv_iload hx hb dL_law_148 (lv_at hl 0 rfl) ?_
    refine lv_iconst (v := 2) hx hb dL_law_150 (by decide) ?_
    refine qVI (al := [(bm, .inl (cyI, 40, .inl gq))]) (As := [.int 0, .int 2]) (rest := []) X Y (k_crane_0 hI_6 2 ((Sq 0).1 4) rfl) gL_law_X7_crane rfl hdq_X7_crane ⟨Nat.le_of_ble_eq_true rfl, Nat.le_of_ble_eq_true rfl⟩ hI_6.head rfl rfl hl.1 (Nat.le_of_ble_eq_true rfl) ⟨Nat.le_of_ble_eq_true rfl, Nat.le_of_ble_eq_true rfl⟩ dL_law_151 (fun wa_8 H locs hI_8 hw_8 Y => ?_)
    refine lv_aload_n hx hb dL_law_154 rfl (lv_at hl 4 rfl) ?_
    refine lv_bipush (v := 10) hx hb dL_law_155 (by decide) ?_
    refine lv_bipush (v := 12) hx hb dL_law_157 (by decide) ?_
    refine lv_iload hx hb dL_law_159 (lv_at hl 0 rfl) ?_
    refine bMul (v := 0) X.1 dL_law_161 (by decide) ?_
    refine bAdd (v := 10) X.1 dL_law_162 (by decide) ?_
    refine bIald (v := gq 10) X.1 Y 0 rfl (bInD (by decide)) dL_law_163 rfl ?_
    refine lv_icmp_ne (tgt := 198) hx hb dL_law_164 (by decide) (fun c_9 => ?_) (fun c_9 => ?_)
    · exact absurd e4 (show ¬ (((Sq 0).1 4) = (gq 10)) from c_9)
    · have c_9 : ((Sq 0).1 4) = (gq 10) := c_9
      refine lv_aload_n hx hb dL_law_167 rfl (lv_at hl 3 rfl) ?_
      refine lv_iload hx hb dL_law_168 (lv_at hl 0 rfl) ?_
      refine lv_iconst (v := 3) hx hb dL_law_170 (by decide) ?_
      refine qVI (al := [(bm, .inl (cyI, 40, .inl gq))]) (As := [.int 0, .int 3]) (rest := []) X Y (k_crane_0 hI_8 3 ((Sq 0).1 5) rfl) gL_law_X7_crane rfl hdq_X7_crane ⟨Nat.le_of_ble_eq_true rfl, Nat.le_of_ble_eq_true rfl⟩ hI_8.head rfl rfl hl.1 (Nat.le_of_ble_eq_true rfl) ⟨Nat.le_of_ble_eq_true rfl, Nat.le_of_ble_eq_true rfl⟩ dL_law_171 (fun wa_10 H locs hI_10 hw_10 Y => ?_)
      refine lv_aload_n hx hb dL_law_174 rfl (lv_at hl 4 rfl) ?_
      refine lv_bipush (v := 11) hx hb dL_law_175 (by decide) ?_
      refine lv_bipush (v := 12) hx hb dL_law_177 (by decide) ?_
      refine lv_iload hx hb dL_law_179 (lv_at hl 0 rfl) ?_
      refine bMul (v := 0) X.1 dL_law_181 (by decide) ?_
      refine bAdd (v := 11) X.1 dL_law_182 (by decide) ?_
      refine bIald (v := gq 11) X.1 Y 0 rfl (bInD (by decide)) dL_law_183 rfl ?_
      refine lv_icmp_ne (tgt := 198) hx hb dL_law_184 (by decide) (fun c_11 => ?_) (fun c_11 => ?_)
      · exact absurd e5 (show ¬ (((Sq 0).1 5) = (gq 11)) from c_11)
      · have c_11 : ((Sq 0).1 5) = (gq 11) := c_11
        refine lv_aload_n hx hb dL_law_187 rfl (lv_at hl 3 rfl) ?_
        refine lv_iload hx hb dL_law_188 (lv_at hl 0 rfl) ?_
        refine lv_iconst (v := (-1)) hx hb dL_law_190 (by decide) ?_
        refine lv_iconst (v := 0) hx hb dL_law_191 (by decide) ?_
        refine qVI (al := [(bm, .inl (cyI, 40, .inl gq))]) (As := [.int 0, .int (-1), .int 0]) (rest := []) X Y (k_spot_0 hI_10 (-1) 0 0 (spot_0 e26)) gL_law_X7_spot rfl hdq_X7_spot ⟨Nat.le_of_ble_eq_true rfl, Nat.le_of_ble_eq_true rfl⟩ hI_10.head rfl rfl hl.1 (Nat.le_of_ble_eq_true rfl) ⟨Nat.le_of_ble_eq_true rfl, Nat.le_of_ble_eq_true rfl⟩ dL_law_192 (fun wa_12 H locs hI_12 hw_12 Y => ?_)
        refine lv_if_eq (tgt := 200) hx hb dL_law_195 (by decide) (fun _ => ?_) (fun c_ => absurd (by decide) c_)
        refine lv_iinc (v := 1) (lv' := [(4, .int 1), (3, .int 2), (0, .ref sb), (1, .ref (Q 0)), (2, .ref bm)]) hx hb dL_law_200 hl (k := 0) rfl (by decide) (by decide) rfl (fun ls hl => ?_)
        refine lv_goto (tgt := 121) hx hb dL_law_203 (by decide) ?_
        refine lv_iload hx hb dL_law_121 (lv_at hl 0 rfl) ?_
        refine lv_iconst (v := 2) hx hb dL_law_123 (by decide) ?_
        refine lv_icmp_ge (tgt := 206) hx hb dL_law_124 (by decide) (fun c_ => absurd c_ (by decide)) (fun _ => ?_)
        refine lv_aload_n hx hb dL_law_127 rfl (lv_at hl 3 rfl) ?_
        refine lv_iload hx hb dL_law_128 (lv_at hl 0 rfl) ?_
        refine lv_iconst (v := 0) hx hb dL_law_130 (by decide) ?_
        refine qVI (al := [(bm, .inl (cyI, 40, .inl gq))]) (As := [.int 1, .int 0]) (rest := []) X Y (k_crane_1 hI_12 0 ((Sq 0).1 14) rfl) gL_law_X7_crane rfl hdq_X7_crane ⟨Nat.le_of_ble_eq_true rfl, Nat.le_of_ble_eq_true rfl⟩ hI_12.head rfl rfl hl.1 (Nat.le_of_ble_eq_true rfl) ⟨Nat.le_of_ble_eq_true rfl, Nat.le_of_ble_eq_true rfl⟩ dL_law_131 (fun wa_13 H locs hI_13 hw_13 Y => ?_)
        refine lv_aload_n hx hb dL_law_134 rfl (lv_at hl 4 rfl) ?_
        refine lv_bipush (v := 8) hx hb dL_law_135 (by decide) ?_
        refine lv_bipush (v := 12) hx hb dL_law_137 (by decide) ?_
        refine lv_iload hx hb dL_law_139 (lv_at hl 0 rfl) ?_
        refine bMul (v := 12) X.1 dL_law_141 (by decide) ?_
        refine bAdd (v := 20) X.1 dL_law_142 (by decide) ?_
        refine bIald (v := gq 20) X.1 Y 0 rfl (bInD (by decide)) dL_law_143 rfl ?_
        refine lv_icmp_ne (tgt := 198) hx hb dL_law_144 (by decide) (fun c_14 => ?_) (fun c_14 => ?_)
        · exact absurd e14 (show ¬ (((Sq 0).1 14) = (gq 20)) from c_14)
        · have c_14 : ((Sq 0).1 14) = (gq 20) := c_14
          refine lv_aload_n hx hb dL_law_147 rfl (lv_at hl 3 rfl) ?_
          refine lv_iload hx hb dL_law_148 (lv_at hl 0 rfl) ?_
          refine lv_iconst (v := 2) hx hb dL_law_150 (by decide) ?_
          refine qVI (al := [(bm, .inl (cyI, 40, .inl gq))]) (As := [.int 1, .int 2]) (rest := []) X Y (k_crane_1 hI_13 2 ((Sq 0).1 16) rfl) gL_law_X7_crane rfl hdq_X7_crane ⟨Nat.le_of_ble_eq_true rfl, Nat.le_of_ble_eq_true rfl⟩ hI_13.head rfl rfl hl.1 (Nat.le_of_ble_eq_true rfl) ⟨Nat.le_of_ble_eq_true rfl, Nat.le_of_ble_eq_true rfl⟩ dL_law_151 (fun wa_15 H locs hI_15 hw_15 Y => ?_)
          refine lv_aload_n hx hb dL_law_154 rfl (lv_at hl 4 rfl) ?_
          refine lv_bipush (v := 10) hx hb dL_law_155 (by decide) ?_
          refine lv_bipush (v := 12) hx hb dL_law_157 (by decide) ?_
          refine lv_iload hx hb dL_law_159 (lv_at hl 0 rfl) ?_
          refine bMul (v := 12) X.1 dL_law_161 (by decide) ?_
          refine bAdd (v := 22) X.1 dL_law_162 (by decide) ?_
          refine bIald (v := gq 22) X.1 Y 0 rfl (bInD (by decide)) dL_law_163 rfl ?_
          refine lv_icmp_ne (tgt := 198) hx hb dL_law_164 (by decide) (fun c_16 => ?_) (fun c_16 => ?_)
          · exact absurd e16 (show ¬ (((Sq 0).1 16) = (gq 22)) from c_16)
          · have c_16 : ((Sq 0).1 16) = (gq 22) := c_16
            refine lv_aload_n hx hb dL_law_167 rfl (lv_at hl 3 rfl) ?_
            refine lv_iload hx hb dL_law_168 (lv_at hl 0 rfl) ?_
            refine lv_iconst (v := 3) hx hb dL_law_170 (by decide) ?_
            refine qVI (al := [(bm, .inl (cyI, 40, .inl gq))]) (As := [.int 1, .int 3]) (rest := []) X Y (k_crane_1 hI_15 3 ((Sq 0).1 17) rfl) gL_law_X7_crane rfl hdq_X7_crane ⟨Nat.le_of_ble_eq_true rfl, Nat.le_of_ble_eq_true rfl⟩ hI_15.head rfl rfl hl.1 (Nat.le_of_ble_eq_true rfl) ⟨Nat.le_of_ble_eq_true rfl, Nat.le_of_ble_eq_true rfl⟩ dL_law_171 (fun wa_17 H locs hI_17 hw_17 Y => ?_)
            refine lv_aload_n hx hb dL_law_174 rfl (lv_at hl 4 rfl) ?_
            refine lv_bipush (v := 11) hx hb dL_law_175 (by decide) ?_
            refine lv_bipush (v := 12) hx hb dL_law_177 (by decide) ?_
            refine lv_iload hx hb dL_law_179 (lv_at hl 0 rfl) ?_
            refine bMul (v := 12) X.1 dL_law_181 (by decide) ?_
            refine bAdd (v := 23) X.1 dL_law_182 (by decide) ?_
            refine bIald (v := gq 23) X.1 Y 0 rfl (bInD (by decide)) dL_law_183 rfl ?_
            refine lv_icmp_ne (tgt := 198) hx hb dL_law_184 (by decide) (fun c_18 => ?_) (fun c_18 => ?_)
            · exact absurd e17 (show ¬ (((Sq 0).1 17) = (gq 23)) from c_18)
            · have c_18 : ((Sq 0).1 17) = (gq 23) := c_18
              refine lv_aload_n hx hb dL_law_187 rfl (lv_at hl 3 rfl) ?_
              refine lv_iload hx hb dL_law_188 (lv_at hl 0 rfl) ?_
              refine lv_iconst (v := (-1)) hx hb dL_law_190 (by decide) ?_
              refine lv_iconst (v := 0) hx hb dL_law_191 (by decide) ?_
              refine qVI (al := [(bm, .inl (cyI, 40, .inl gq))]) (As := [.int 1, .int (-1), .int 0]) (rest := []) X Y (k_spot_1 hI_17 (-1) 0 0 (spot_1 e27)) gL_law_X7_spot rfl hdq_X7_spot ⟨Nat.le_of_ble_eq_true rfl, Nat.le_of_ble_eq_true rfl⟩ hI_17.head rfl rfl hl.1 (Nat.le_of_ble_eq_true rfl) ⟨Nat.le_of_ble_eq_true rfl, Nat.le_of_ble_eq_true rfl⟩ dL_law_192 (fun wa_19 H locs hI_19 hw_19 Y => ?_)
              refine lv_if_eq (tgt := 200) hx hb dL_law_195 (by decide) (fun _ => ?_) (fun c_ => absurd (by decide) c_)
              refine lv_iinc (v := 2) (lv' := [(4, .int 2), (3, .int 2), (0, .ref sb), (1, .ref (Q 0)), (2, .ref bm)]) hx hb dL_law_200 hl (k := 0) rfl (by decide) (by decide) rfl (fun ls hl => ?_)
              refine lv_goto (tgt := 121) hx hb dL_law_203 (by decide) ?_
              refine lv_iload hx hb dL_law_121 (lv_at hl 0 rfl) ?_
              refine lv_iconst (v := 2) hx hb dL_law_123 (by decide) ?_
              refine lv_icmp_ge (tgt := 206) hx hb dL_law_124 (by decide) (fun _ => ?_) (fun c_ => absurd (by decide) c_)
              refine lv_aload_n hx hb dL_law_206 rfl (lv_at hl 3 rfl) ?_
              refine lv_aload_n hx hb dL_law_207 rfl (lv_at hl 2 rfl) ?_
              refine lv_bipush (v := 40) hx hb dL_law_208 (by decide) ?_
              refine lv_iload_n hx hb dL_law_210 rfl (lv_at hl 1 rfl) ?_
              refine bMul (v := 80) X.1 dL_law_211 (by decide) ?_
              refine lv_iconst (v := 4) hx hb dL_law_212 (by decide) ?_
              refine bAdd (v := nI 84) X.1 dL_law_213 (by decide +kernel) ?_
              have hz : QW cyC cyI Q rq Sq (nI 0) Tq wa_19 := by rw [nI_0]; exact hI_19
              refine qSI (al := [(bm, .inl (cyI, 40, .inl gq))]) (wa := wa_19) (As := [.ref (Q 0), .ref sb, .int (nI 84)]) (rest := []) (c2 := 68) (s2 := 2963) X Y (c_undoes l D cyC cyI sb sL xs (u0 := 0) hz 84 (by omega) (fun i hi => by rw [Nat.le_zero.mp hi]; exact hokq) (by omega) hsL) gL_law_L_undoes rfl ⟨rfl, rfl⟩ hdq_L_undoes.2 ⟨Nat.le_of_ble_eq_true rfl, Nat.le_of_ble_eq_true rfl⟩ rfl rfl rfl rfl hl.1 (Nat.le_of_ble_eq_true rfl) ⟨Nat.le_of_ble_eq_true rfl, Nat.le_of_ble_eq_true rfl⟩ dL_law_214 (fun r_21 wa_20 H locs hI_20 hw_20 Y => ?_)
              obtain ⟨er_21, S2, u2, hu_, hu2, hok2⟩ := hI_20
              subst er_21
              have hI2 := hu_
              refine lv_if_eq (tgt := 242) hx hb dL_law_217 (by decide) (fun c_ => absurd c_ (by decide)) (fun _ => ?_)
              refine lv_aload_n hx hb dL_law_220 rfl (lv_at hl 3 rfl) ?_
              refine lv_aload_n hx hb dL_law_221 rfl (lv_at hl 2 rfl) ?_
              refine lv_bipush (v := 40) hx hb dL_law_222 (by decide) ?_
              refine lv_iload_n hx hb dL_law_224 rfl (lv_at hl 1 rfl) ?_
              refine bMul (v := 80) X.1 dL_law_225 (by decide) ?_
              refine lv_bipush (v := 14) hx hb dL_law_226 (by decide) ?_
              refine bAdd (v := nI 94) X.1 dL_law_228 (by decide +kernel) ?_
              refine qSI (al := [(bm, .inl (cyI, 40, .inl gq))]) (wa := wa_20) (As := [.ref (Q 0), .ref sb, .int (nI 94)]) (rest := []) (c2 := 69) (s2 := 2975) X Y (c_undoes l D cyC cyI sb sL xs hI2 94 hu2 hok2 (by omega) hsL) gL_law_L_undoes rfl ⟨rfl, rfl⟩ hdq_L_undoes.2 ⟨Nat.le_of_ble_eq_true rfl, Nat.le_of_ble_eq_true rfl⟩ rfl rfl rfl rfl hl.1 (Nat.le_of_ble_eq_true rfl) ⟨Nat.le_of_ble_eq_true rfl, Nat.le_of_ble_eq_true rfl⟩ dL_law_229 (fun r_23 wa_22 H locs hI_22 hw_22 Y => ?_)
              obtain ⟨er_23, S3, u3, hu_, hu3, hok3⟩ := hI_22
              subst er_23
              have hI3 := hu_
              refine lv_if_eq (tgt := 242) hx hb dL_law_232 (by decide) (fun c_ => absurd c_ (by decide)) (fun _ => ?_)
              refine lv_aload_n hx hb dL_law_235 rfl (lv_at hl 3 rfl) ?_
              refine qSI (al := [(bm, .inl (cyI, 40, .inl gq))]) (wa := wa_22) (As := [.ref (Q 0)]) (rest := []) (c2 := 69) (s2 := 2975) X Y (c_refused l D cyC cyI sb sL xs hI3 (hok3 0 (Nat.zero_le _))) gL_law_L_refused rfl ⟨rfl, rfl⟩ hdq_L_refused.2 ⟨Nat.le_of_ble_eq_true rfl, Nat.le_of_ble_eq_true rfl⟩ rfl rfl rfl rfl hl.1 (Nat.le_of_ble_eq_true rfl) ⟨Nat.le_of_ble_eq_true rfl, Nat.le_of_ble_eq_true rfl⟩ dL_law_236 (fun r_25 wa_24 H locs hI_24 hw_24 Y => ?_)
              obtain ⟨er_25, hI_24⟩ := hI_24
              subst er_25
              refine lv_if_ne (tgt := 244) hx hb dL_law_239 (by decide) (fun _ => ?_) (fun c_ => absurd c_ (by decide))
              refine lv_iinc (v := 3) (lv' := [(3, .int 3), (4, .int 2), (0, .ref sb), (1, .ref (Q 0)), (2, .ref bm)]) hx hb dL_law_244 hl (k := 1) rfl (by decide) (by decide) rfl (fun ls hl => ?_)
              refine lv_goto (tgt := 82) hx hb dL_law_247 (by decide) ?_
              exact lw_82_3 l X hr hlk hsL hI_24 (hok3 0 (Nat.zero_le _)) (lv_sub hl [0, 2, 3, 4] rfl) Y
set_option maxHeartbeats 8000000 in
set_option maxRecDepth 100000 in
theorem lw_82_1 {p_ : Program} {e_ : Env} {s_ : State} {m_ : MethodId} {bl_ : List Frame} {me_ : Method} {cd_ : Code} (l : Launch) {D : va_G} {cyC cyI : ClassId} {sb sL : Nat} {xs : Nat → Int32} (X : qX p_ s_ m_ #[Value.ref sb] cd_ cL_law 5 wsL_law RL D cyC cyI sb sL xs (fun q : Nat => s_.heap.size ≤ q)) (hr : me_.sig.returnType = ret) (hlk : me_.locks = false) {Q : Nat → Nat} (hsL : sL ≤ 260) {r : Nat → Int32} {S : Nat → Sto} {ud : Int32} {T : List Int32} {H : Heap} {locs : List Loc} {ls : Array Slot} {wa : va_W} {bm : Nat} {g : Nat → Int32} (hI : QW cyC cyI Q r S ud T wa) (_hok : OkS r (S 0)) (hl : lv_has ls 5 [(3, .int 1), (0, .ref sb), (1, .ref (Q 0)), (2, .ref bm)]) (Y : bY D (fun q : Nat => s_.heap.size ≤ q) s_.heap ([(bm, .inl (cyI, 40, .inl g))] ++ wa) H locs) : W p_ l e_ room_1 s_ m_ #[Value.ref sb] bl_ me_ cd_ H locs 65 2927 (lw_Z bl_ #[Value.ref sb] s_) (F0 m_ 82 ls []) := by
  have hx := X.1.1.1
  have hb := X.1.1.2.1
  refine lv_iload_n hx hb dL_law_82 rfl (lv_at hl 0 rfl) ?_
  refine lv_iconst (v := 4) hx hb dL_law_83 (by decide) ?_
  refine lv_icmp_ge (tgt := 250) hx hb dL_law_84 (by decide) (fun c_ => absurd c_ (by decide)) (fun _ => ?_)
  refine lv_aload_n hx hb dL_law_87 rfl (lv_at hl 2 rfl) ?_
  refine lv_aload_n hx hb dL_law_88 rfl (lv_at hl 1 rfl) ?_
  refine lv_bipush (v := 40) hx hb dL_law_89 (by decide) ?_
  refine lv_iload_n hx hb dL_law_91 rfl (lv_at hl 0 rfl) ?_
  refine bMul (v := nI 40) X.1 dL_law_92 (by decide +kernel) ?_
  refine lv_aload_n hx hb dL_law_93 rfl (lv_at hl 3 rfl) ?_
  refine qSI (al := []) (wa := ([(bm, .inl (cyI, 40, .inl g))] ++ wa)) (As := [.ref (Q 0), .ref sb, .int (nI 40), .ref bm]) (rest := []) (c2 := 65) (s2 := 2927) X Y (c_lays l D cyC cyI sb sL xs hI 40 (by omega) hsL bm g) gL_law_L_lays rfl ⟨rfl, rfl⟩ hdq_L_lays.2 ⟨Nat.le_of_ble_eq_true rfl, Nat.le_of_ble_eq_true rfl⟩ rfl rfl rfl rfl hl.1 (Nat.le_of_ble_eq_true rfl) ⟨Nat.le_of_ble_eq_true rfl, Nat.le_of_ble_eq_true rfl⟩ dL_law_94 (fun r_2 wa_1 H locs hI_1 hw_1 Y => ?_)
  obtain ⟨er_2, wq, gq, rq, Sq, Tq, eq_, hq, hokq, ⟨e2, e4, e5⟩, ⟨e14, e16, e17⟩, e26, e27⟩ := hI_1
  subst er_2
  subst eq_
  have Y : bY D (fun q : Nat => s_.heap.size ≤ q) s_.heap ([(bm, .inl (cyI, 40, .inl gq))] ++ wq) H locs := Y
  refine lv_if_eq (tgt := 116) hx hb dL_law_97 (by decide) (fun c_ => absurd c_ (by decide)) (fun _ => ?_)
  refine lv_aload_n hx hb dL_law_100 rfl (lv_at hl 2 rfl) ?_
  refine lv_bipush (v := 7) hx hb dL_law_101 (by decide) ?_
  refine qVI (al := [(bm, .inl (cyI, 40, .inl gq))]) (As := [.int 7]) (rest := []) X Y (k_count hq 7 0 rfl) gL_law_X7_count rfl hdq_X7_count ⟨Nat.le_of_ble_eq_true rfl, Nat.le_of_ble_eq_true rfl⟩ hq.head rfl rfl hl.1 (Nat.le_of_ble_eq_true rfl) ⟨Nat.le_of_ble_eq_true rfl, Nat.le_of_ble_eq_true rfl⟩ dL_law_103 (fun wa_3 H locs hI_3 hw_3 Y => ?_)
  refine lv_if_ne (tgt := 116) hx hb dL_law_106 (by decide) (fun c_ => absurd (by decide) c_) (fun _ => ?_)
  refine lv_aload_n hx hb dL_law_109 rfl (lv_at hl 2 rfl) ?_
  refine qSI (al := [(bm, .inl (cyI, 40, .inl gq))]) (wa := wa_3) (As := [.ref (Q 0)]) (rest := []) (c2 := 65) (s2 := 2927) X Y (c_holds l D cyC cyI sb sL xs hI_3 hokq) gL_law_L_holds rfl ⟨rfl, rfl⟩ hdq_L_holds.2 ⟨Nat.le_of_ble_eq_true rfl, Nat.le_of_ble_eq_true rfl⟩ rfl rfl rfl rfl hl.1 (Nat.le_of_ble_eq_true rfl) ⟨Nat.le_of_ble_eq_true rfl, Nat.le_of_ble_eq_true rfl⟩ dL_law_110 (fun r_5 wa_4 H locs hI_4 hw_4 Y => ?_)
  obtain ⟨er_5, hI_4⟩ := hI_4
  subst er_5
  refine lv_if_ne (tgt := 118) hx hb dL_law_113 (by decide) (fun _ => ?_) (fun c_ => absurd c_ (by decide))
  refine lv_iconst (v := 0) hx hb dL_law_118 (by decide) ?_
  refine lv_istore (lv' := [(4, .int 0), (3, .int 1), (0, .ref sb), (1, .ref (Q 0)), (2, .ref bm)]) hx hb dL_law_119 hl (by decide) rfl (fun ls hl => ?_)
  refine lv_iload hx hb dL_law_121 (lv_at hl 0 rfl) ?_
  refine lv_iconst (v := 2) hx hb dL_law_123 (by decide) ?_
  refine lv_icmp_ge (tgt := 206) hx hb dL_law_124 (by decide) (fun c_ => absurd c_ (by decide)) (fun _ => ?_)
  refine lv_aload_n hx hb dL_law_127 rfl (lv_at hl 3 rfl) ?_
  refine lv_iload hx hb dL_law_128 (lv_at hl 0 rfl) ?_
  refine lv_iconst (v := 0) hx hb dL_law_130 (by decide) ?_
  refine qVI (al := [(bm, .inl (cyI, 40, .inl gq))]) (As := [.int 0, .int 0]) (rest := []) X Y (k_crane_0 hI_4 0 ((Sq 0).1 2) rfl) gL_law_X7_crane rfl hdq_X7_crane ⟨Nat.le_of_ble_eq_true rfl, Nat.le_of_ble_eq_true rfl⟩ hI_4.head rfl rfl hl.1 (Nat.le_of_ble_eq_true rfl) ⟨Nat.le_of_ble_eq_true rfl, Nat.le_of_ble_eq_true rfl⟩ dL_law_131 (fun wa_6 H locs hI_6 hw_6 Y => ?_)
  refine lv_aload_n hx hb dL_law_134 rfl (lv_at hl 4 rfl) ?_
  refine lv_bipush (v := 8) hx hb dL_law_135 (by decide) ?_
  refine lv_bipush (v := 12) hx hb dL_law_137 (by decide) ?_
  refine lv_iload hx hb dL_law_139 (lv_at hl 0 rfl) ?_
  refine bMul (v := 0) X.1 dL_law_141 (by decide) ?_
  refine bAdd (v := 8) X.1 dL_law_142 (by decide) ?_
  refine bIald (v := gq 8) X.1 Y 0 rfl (bInD (by decide)) dL_law_143 rfl ?_
  refine lv_icmp_ne (tgt := 198) hx hb dL_law_144 (by decide) (fun c_7 => ?_) (fun c_7 => ?_)
  · exact absurd e2 (show ¬ (((Sq 0).1 2) = (gq 8)) from c_7)
  · have c_7 : ((Sq 0).1 2) = (gq 8) := c_7
    refine lv_aload_n hx hb dL_law_147 rfl (lv_at hl 3 rfl) ?_
    refine lv_iload hx hb dL_law_148 (lv_at hl 0 rfl) ?_
    refine lv_iconst (v := 2) hx hb dL_law_150 (by decide) ?_
    refine qVI (al := [(bm, .inl (cyI, 40, .inl gq))]) (As := [.int 0, .int 2]) (rest := []) X Y (k_crane_0 hI_6 2 ((Sq 0).1 4) rfl) gL_law_X7_crane rfl hdq_X7_crane ⟨Nat.le_of_ble_eq_true rfl, Nat.le_of_ble_eq_true rfl⟩ hI_6.head rfl rfl hl.1 (Nat.le_of_ble_eq_true rfl) ⟨Nat.le_of_ble_eq_true rfl, Nat.le_of_ble_eq_true rfl⟩ dL_law_151 (fun wa_8 H locs hI_8 hw_8 Y => ?_)
    refine lv_aload_n hx hb dL_law_154 rfl (lv_at hl 4 rfl) ?_
    refine lv_bipush (v := 10) hx hb dL_law_155 (by decide) ?_
    refine lv_bipush (v := 12) hx hb dL_law_157 (by decide) ?_
    refine lv_iload hx hb dL_law_159 (lv_at hl 0 rfl) ?_
    refine bMul (v := 0) X.1 dL_law_161 (by decide) ?_
    refine bAdd (v := 10) X.1 dL_law_162 (by decide) ?_
    refine bIald (v := gq 10) X.1 Y 0 rfl (bInD (by decide)) dL_law_163 rfl ?_
    refine lv_icmp_ne (tgt := 198) hx hb dL_law_164 (by decide) (fun c_9 => ?_) (fun c_9 => ?_)
    · exact absurd e4 (show ¬ (((Sq 0).1 4) = (gq 10)) from c_9)
    · have c_9 : ((Sq 0).1 4) = (gq 10) := c_9
      refine lv_aload_n hx hb dL_law_167 rfl (lv_at hl 3 rfl) ?_
      refine lv_iload hx hb dL_law_168 (lv_at hl 0 rfl) ?_
      refine lv_iconst (v := 3) hx hb dL_law_170 (by decide) ?_
      refine qVI (al := [(bm, .inl (cyI, 40, .inl gq))]) (As := [.int 0, .int 3]) (rest := []) X Y (k_crane_0 hI_8 3 ((Sq 0).1 5) rfl) gL_law_X7_crane rfl hdq_X7_crane ⟨Nat.le_of_ble_eq_true rfl, Nat.le_of_ble_eq_true rfl⟩ hI_8.head rfl rfl hl.1 (Nat.le_of_ble_eq_true rfl) ⟨Nat.le_of_ble_eq_true rfl, Nat.le_of_ble_eq_true rfl⟩ dL_law_171 (fun wa_10 H locs hI_10 hw_10 Y => ?_)
      refine lv_aload_n hx hb dL_law_174 rfl (lv_at hl 4 rfl) ?_
      refine lv_bipush (v := 11) hx hb dL_law_175 (by decide) ?_
      refine lv_bipush (v := 12) hx hb dL_law_177 (by decide) ?_
      refine lv_iload hx hb dL_law_179 (lv_at hl 0 rfl) ?_
      refine bMul (v := 0) X.1 dL_law_181 (by decide) ?_
      refine bAdd (v := 11) X.1 dL_law_182 (by decide) ?_
      refine bIald (v := gq 11) X.1 Y 0 rfl (bInD (by decide)) dL_law_183 rfl ?_
      refine lv_icmp_ne (tgt := 198) hx hb dL_law_184 (by decide) (fun c_11 => ?_) (fun c_11 => ?_)
      · exact absurd e5 (show ¬ (((Sq 0).1 5) = (gq 11)) from c_11)
      · have c_11 : ((Sq 0).1 5) = (gq 11) := c_11
        refine lv_aload_n hx hb dL_law_187 rfl (lv_at hl 3 rfl) ?_
        refine lv_iload hx hb dL_law_188 (lv_at hl 0 rfl) ?_
        refine lv_iconst (v := (-1)) hx hb dL_law_190 (by decide) ?_
        refine lv_iconst (v := 0) hx hb dL_law_191 (by decide) ?_
        refine qVI (al := [(bm, .inl (cyI, 40, .inl gq))]) (As := [.int 0, .int (-1), .int 0]) (rest := []) X Y (k_spot_0 hI_10 (-1) 0 0 (spot_0 e26)) gL_law_X7_spot rfl hdq_X7_spot ⟨Nat.le_of_ble_eq_true rfl, Nat.le_of_ble_eq_true rfl⟩ hI_10.head rfl rfl hl.1 (Nat.le_of_ble_eq_true rfl) ⟨Nat.le_of_ble_eq_true rfl, Nat.le_of_ble_eq_true rfl⟩ dL_law_192 (fun wa_12 H locs hI_12 hw_12 Y => ?_)
        refine lv_if_eq (tgt := 200) hx hb dL_law_195 (by decide) (fun _ => ?_) (fun c_ => absurd (by decide) c_)
        refine lv_iinc (v := 1) (lv' := [(4, .int 1), (3, .int 1), (0, .ref sb), (1, .ref (Q 0)), (2, .ref bm)]) hx hb dL_law_200 hl (k := 0) rfl (by decide) (by decide) rfl (fun ls hl => ?_)
        refine lv_goto (tgt := 121) hx hb dL_law_203 (by decide) ?_
        refine lv_iload hx hb dL_law_121 (lv_at hl 0 rfl) ?_
        refine lv_iconst (v := 2) hx hb dL_law_123 (by decide) ?_
        refine lv_icmp_ge (tgt := 206) hx hb dL_law_124 (by decide) (fun c_ => absurd c_ (by decide)) (fun _ => ?_)
        refine lv_aload_n hx hb dL_law_127 rfl (lv_at hl 3 rfl) ?_
        refine lv_iload hx hb dL_law_128 (lv_at hl 0 rfl) ?_
        refine lv_iconst (v := 0) hx hb dL_law_130 (by decide) ?_
        refine qVI (al := [(bm, .inl (cyI, 40, .inl gq))]) (As := [.int 1, .int 0]) (rest := []) X Y (k_crane_1 hI_12 0 ((Sq 0).1 14) rfl) gL_law_X7_crane rfl hdq_X7_crane ⟨Nat.le_of_ble_eq_true rfl, Nat.le_of_ble_eq_true rfl⟩ hI_12.head rfl rfl hl.1 (Nat.le_of_ble_eq_true rfl) ⟨Nat.le_of_ble_eq_true rfl, Nat.le_of_ble_eq_true rfl⟩ dL_law_131 (fun wa_13 H locs hI_13 hw_13 Y => ?_)
        refine lv_aload_n hx hb dL_law_134 rfl (lv_at hl 4 rfl) ?_
        refine lv_bipush (v := 8) hx hb dL_law_135 (by decide) ?_
        refine lv_bipush (v := 12) hx hb dL_law_137 (by decide) ?_
        refine lv_iload hx hb dL_law_139 (lv_at hl 0 rfl) ?_
        refine bMul (v := 12) X.1 dL_law_141 (by decide) ?_
        refine bAdd (v := 20) X.1 dL_law_142 (by decide) ?_
        refine bIald (v := gq 20) X.1 Y 0 rfl (bInD (by decide)) dL_law_143 rfl ?_
        refine lv_icmp_ne (tgt := 198) hx hb dL_law_144 (by decide) (fun c_14 => ?_) (fun c_14 => ?_)
        · exact absurd e14 (show ¬ (((Sq 0).1 14) = (gq 20)) from c_14)
        · have c_14 : ((Sq 0).1 14) = (gq 20) := c_14
          refine lv_aload_n hx hb dL_law_147 rfl (lv_at hl 3 rfl) ?_
          refine lv_iload hx hb dL_law_148 (lv_at hl 0 rfl) ?_
          refine lv_iconst (v := 2) hx hb dL_law_150 (by decide) ?_
          refine qVI (al := [(bm, .inl (cyI, 40, .inl gq))]) (As := [.int 1, .int 2]) (rest := []) X Y (k_crane_1 hI_13 2 ((Sq 0).1 16) rfl) gL_law_X7_crane rfl hdq_X7_crane ⟨Nat.le_of_ble_eq_true rfl, Nat.le_of_ble_eq_true rfl⟩ hI_13.head rfl rfl hl.1 (Nat.le_of_ble_eq_true rfl) ⟨Nat.le_of_ble_eq_true rfl, Nat.le_of_ble_eq_true rfl⟩ dL_law_151 (fun wa_15 H locs hI_15 hw_15 Y => ?_)
          refine lv_aload_n hx hb dL_law_154 rfl (lv_at hl 4 rfl) ?_
          refine lv_bipush (v := 10) hx hb dL_law_155 (by decide) ?_
          refine lv_bipush (v := 12) hx hb dL_law_157 (by decide) ?_
          refine lv_iload hx hb dL_law_159 (lv_at hl 0 rfl) ?_
          refine bMul (v := 12) X.1 dL_law_161 (by decide) ?_
          refine bAdd (v := 22) X.1 dL_law_162 (by decide) ?_
          refine bIald (v := gq 22) X.1 Y 0 rfl (bInD (by decide)) dL_law_163 rfl ?_
          refine lv_icmp_ne (tgt := 198) hx hb dL_law_164 (by decide) (fun c_16 => ?_) (fun c_16 => ?_)
          · exact absurd e16 (show ¬ (((Sq 0).1 16) = (gq 22)) from c_16)
          · have c_16 : ((Sq 0).1 16) = (gq 22) := c_16
            refine lv_aload_n hx hb dL_law_167 rfl (lv_at hl 3 rfl) ?_
            refine lv_iload hx hb dL_law_168 (lv_at hl 0 rfl) ?_
            refine lv_iconst (v := 3) hx hb dL_law_170 (by decide) ?_
            refine qVI (al := [(bm, .inl (cyI, 40, .inl gq))]) (As := [.int 1, .int 3]) (rest := []) X Y (k_crane_1 hI_15 3 ((Sq 0).1 17) rfl) gL_law_X7_crane rfl hdq_X7_crane ⟨Nat.le_of_ble_eq_true rfl, Nat.le_of_ble_eq_true rfl⟩ hI_15.head rfl rfl hl.1 (Nat.le_of_ble_eq_true rfl) ⟨Nat.le_of_ble_eq_true rfl, Nat.le_of_ble_eq_true rfl⟩ dL_law_171 (fun wa_17 H locs hI_17 hw_17 Y => ?_)
            refine lv_aload_n hx hb dL_law_174 rfl (lv_at hl 4 rfl) ?_
            refine lv_bipush (v := 11) hx hb dL_law_175 (by decide) ?_
            refine lv_bipush (v := 12) hx hb dL_law_177 (by decide) ?_
            refine lv_iload hx hb dL_law_179 (lv_at hl 0 rfl) ?_
            refine bMul (v := 12) X.1 dL_law_181 (by decide) ?_
            refine bAdd (v := 23) X.1 dL_law_182 (by decide) ?_
            refine bIald (v := gq 23) X.1 Y 0 rfl (bInD (by decide)) dL_law_183 rfl ?_
            refine lv_icmp_ne (tgt := 198) hx hb dL_law_184 (by decide) (fun c_18 => ?_) (fun c_18 => ?_)
            · exact absurd e17 (show ¬ (((Sq 0).1 17) = (gq 23)) from c_18)
            · have c_18 : ((Sq 0).1 17) = (gq 23) := c_18
              refine lv_aload_n hx hb dL_law_187 rfl (lv_at hl 3 rfl) ?_
              refine lv_iload hx hb dL_law_188 (lv_at hl 0 rfl) ?_
              refine lv_iconst (v := (-1)) hx hb dL_law_190 (by decide) ?_
              refine lv_iconst (v := 0) hx hb dL_law_191 (by decide) ?_
              refine qVI (al := [(bm, .inl (cyI, 40, .inl gq))]) (As := [.int 1, .int (-1), .int 0]) (rest := []) X Y (k_spot_1 hI_17 (-1) 0 0 (spot_1 e27)) gL_law_X7_spot rfl hdq_X7_spot ⟨Nat.le_of_ble_eq_true rfl, Nat.le_of_ble_eq_true rfl⟩ hI_17.head rfl rfl hl.1 (Nat.le_of_ble_eq_true rfl) ⟨Nat.le_of_ble_eq_true rfl, Nat.le_of_ble_eq_true rfl⟩ dL_law_192 (fun wa_19 H locs hI_19 hw_19 Y => ?_)
              refine lv_if_eq (tgt := 200) hx hb dL_law_195 (by decide) (fun _ => ?_) (fun c_ => absurd (by decide) c_)
              refine lv_iinc (v := 2) (lv' := [(4, .int 2), (3, .int 1), (0, .ref sb), (1, .ref (Q 0)), (2, .ref bm)]) hx hb dL_law_200 hl (k := 0) rfl (by decide) (by decide) rfl (fun ls hl => ?_)
              refine lv_goto (tgt := 121) hx hb dL_law_203 (by decide) ?_
              refine lv_iload hx hb dL_law_121 (lv_at hl 0 rfl) ?_
              refine lv_iconst (v := 2) hx hb dL_law_123 (by decide) ?_
              refine lv_icmp_ge (tgt := 206) hx hb dL_law_124 (by decide) (fun _ => ?_) (fun c_ => absurd (by decide) c_)
              refine lv_aload_n hx hb dL_law_206 rfl (lv_at hl 3 rfl) ?_
              refine lv_aload_n hx hb dL_law_207 rfl (lv_at hl 2 rfl) ?_
              refine lv_bipush (v := 40) hx hb dL_law_208 (by decide) ?_
              refine lv_iload_n hx hb dL_law_210 rfl (lv_at hl 1 rfl) ?_
              refine bMul (v := 40) X.1 dL_law_211 (by decide) ?_
              refine lv_iconst (v := 4) hx hb dL_law_212 (by decide) ?_
              refine bAdd (v := nI 44) X.1 dL_law_213 (by decide +kernel) ?_
              have hz : QW cyC cyI Q rq Sq (nI 0) Tq wa_19 := by rw [nI_0]; exact hI_19
              refine qSI (al := [(bm, .inl (cyI, 40, .inl gq))]) (wa := wa_19) (As := [.ref (Q 0), .ref sb, .int (nI 44)]) (rest := []) (c2 := 66) (s2 := 2939) X Y (c_undoes l D cyC cyI sb sL xs (u0 := 0) hz 44 (by omega) (fun i hi => by rw [Nat.le_zero.mp hi]; exact hokq) (by omega) hsL) gL_law_L_undoes rfl ⟨rfl, rfl⟩ hdq_L_undoes.2 ⟨Nat.le_of_ble_eq_true rfl, Nat.le_of_ble_eq_true rfl⟩ rfl rfl rfl rfl hl.1 (Nat.le_of_ble_eq_true rfl) ⟨Nat.le_of_ble_eq_true rfl, Nat.le_of_ble_eq_true rfl⟩ dL_law_214 (fun r_21 wa_20 H locs hI_20 hw_20 Y => ?_)
              obtain ⟨er_21, S2, u2, hu_, hu2, hok2⟩ := hI_20
              subst er_21
              have hI2 := hu_
              refine lv_if_eq (tgt := 242) hx hb dL_law_217 (by decide) (fun c_ => absurd c_ (by decide)) (fun _ => ?_)
              refine lv_aload_n hx hb dL_law_220 rfl (lv_at hl 3 rfl) ?_
              refine lv_aload_n hx hb dL_law_221 rfl (lv_at hl 2 rfl) ?_
              refine lv_bipush (v := 40) hx hb dL_law_222 (by decide) ?_
              refine lv_iload_n hx hb dL_law_224 rfl (lv_at hl 1 rfl) ?_
              refine bMul (v := 40) X.1 dL_law_225 (by decide) ?_
              refine lv_bipush (v := 14) hx hb dL_law_226 (by decide) ?_
              refine bAdd (v := nI 54) X.1 dL_law_228 (by decide +kernel) ?_
              refine qSI (al := [(bm, .inl (cyI, 40, .inl gq))]) (wa := wa_20) (As := [.ref (Q 0), .ref sb, .int (nI 54)]) (rest := []) (c2 := 67) (s2 := 2951) X Y (c_undoes l D cyC cyI sb sL xs hI2 54 hu2 hok2 (by omega) hsL) gL_law_L_undoes rfl ⟨rfl, rfl⟩ hdq_L_undoes.2 ⟨Nat.le_of_ble_eq_true rfl, Nat.le_of_ble_eq_true rfl⟩ rfl rfl rfl rfl hl.1 (Nat.le_of_ble_eq_true rfl) ⟨Nat.le_of_ble_eq_true rfl, Nat.le_of_ble_eq_true rfl⟩ dL_law_229 (fun r_23 wa_22 H locs hI_22 hw_22 Y => ?_)
              obtain ⟨er_23, S3, u3, hu_, hu3, hok3⟩ := hI_22
              subst er_23
              have hI3 := hu_
              refine lv_if_eq (tgt := 242) hx hb dL_law_232 (by decide) (fun c_ => absurd c_ (by decide)) (fun _ => ?_)
              refine lv_aload_n hx hb dL_law_235 rfl (lv_at hl 3 rfl) ?_
              refine qSI (al := [(bm, .inl (cyI, 40, .inl gq))]) (wa := wa_22) (As := [.ref (Q 0)]) (rest := []) (c2 := 67) (s2 := 2951) X Y (c_refused l D cyC cyI sb sL xs hI3 (hok3 0 (Nat.zero_le _))) gL_law_L_refused rfl ⟨rfl, rfl⟩ hdq_L_refused.2 ⟨Nat.le_of_ble_eq_true rfl, Nat.le_of_ble_eq_true rfl⟩ rfl rfl rfl rfl hl.1 (Nat.le_of_ble_eq_true rfl) ⟨Nat.le_of_ble_eq_true rfl, Nat.le_of_ble_eq_true rfl⟩ dL_law_236 (fun r_25 wa_24 H locs hI_24 hw_24 Y => ?_)
              obtain ⟨er_25, hI_24⟩ := hI_24
              subst er_25
              refine lv_if_ne (tgt := 244) hx hb dL_law_239 (by decide) (fun _ => ?_) (fun c_ => absurd c_ (by decide))
              refine lv_iinc (v := 2) (lv' := [(3, .int 2), (4, .int 2), (0, .ref sb), (1, .ref (Q 0)), (2, .ref bm)]) hx hb dL_law_244 hl (k := 1) rfl (by decide) (by decide) rfl (fun ls hl => ?_)
              refine lv_goto (tgt := 82) hx hb dL_law_247 (by decide) ?_
              exact lw_82_2 l X hr hlk hsL hI_24 (hok3 0 (Nat.zero_le _)) (lv_sub hl [0, 2, 3, 4] rfl) Y
set_option maxHeartbeats 8000000 in
set_option maxRecDepth 100000 in
theorem lw_82_0 {p_ : Program} {e_ : Env} {s_ : State} {m_ : MethodId} {bl_ : List Frame} {me_ : Method} {cd_ : Code} (l : Launch) {D : va_G} {cyC cyI : ClassId} {sb sL : Nat} {xs : Nat → Int32} (X : qX p_ s_ m_ #[Value.ref sb] cd_ cL_law 5 wsL_law RL D cyC cyI sb sL xs (fun q : Nat => s_.heap.size ≤ q)) (hr : me_.sig.returnType = ret) (hlk : me_.locks = false) {Q : Nat → Nat} (hsL : sL ≤ 260) {r : Nat → Int32} {S : Nat → Sto} {ud : Int32} {T : List Int32} {H : Heap} {locs : List Loc} {ls : Array Slot} {wa : va_W} {bm : Nat} {g : Nat → Int32} (hI : QW cyC cyI Q r S ud T wa) (_hok : OkS r (S 0)) (hl : lv_has ls 5 [(3, .int 0), (0, .ref sb), (1, .ref (Q 0)), (2, .ref bm)]) (Y : bY D (fun q : Nat => s_.heap.size ≤ q) s_.heap ([(bm, .inl (cyI, 40, .inl g))] ++ wa) H locs) : W p_ l e_ room_1 s_ m_ #[Value.ref sb] bl_ me_ cd_ H locs 63 2903 (lw_Z bl_ #[Value.ref sb] s_) (F0 m_ 82 ls []) := by
  have hx := X.1.1.1
  have hb := X.1.1.2.1
  refine lv_iload_n hx hb dL_law_82 rfl (lv_at hl 0 rfl) ?_
  refine lv_iconst (v := 4) hx hb dL_law_83 (by decide) ?_
  refine lv_icmp_ge (tgt := 250) hx hb dL_law_84 (by decide) (fun c_ => absurd c_ (by decide)) (fun _ => ?_)
  refine lv_aload_n hx hb dL_law_87 rfl (lv_at hl 2 rfl) ?_
  refine lv_aload_n hx hb dL_law_88 rfl (lv_at hl 1 rfl) ?_
  refine lv_bipush (v := 40) hx hb dL_law_89 (by decide) ?_
  refine lv_iload_n hx hb dL_law_91 rfl (lv_at hl 0 rfl) ?_
  refine bMul (v := nI 0) X.1 dL_law_92 (by decide +kernel) ?_
  refine lv_aload_n hx hb dL_law_93 rfl (lv_at hl 3 rfl) ?_
  refine qSI (al := []) (wa := ([(bm, .inl (cyI, 40, .inl g))] ++ wa)) (As := [.ref (Q 0), .ref sb, .int (nI 0), .ref bm]) (rest := []) (c2 := 63) (s2 := 2903) X Y (c_lays l D cyC cyI sb sL xs hI 0 (by omega) hsL bm g) gL_law_L_lays rfl ⟨rfl, rfl⟩ hdq_L_lays.2 ⟨Nat.le_of_ble_eq_true rfl, Nat.le_of_ble_eq_true rfl⟩ rfl rfl rfl rfl hl.1 (Nat.le_of_ble_eq_true rfl) ⟨Nat.le_of_ble_eq_true rfl, Nat.le_of_ble_eq_true rfl⟩ dL_law_94 (fun r_2 wa_1 H locs hI_1 hw_1 Y => ?_)
  obtain ⟨er_2, wq, gq, rq, Sq, Tq, eq_, hq, hokq, ⟨e2, e4, e5⟩, ⟨e14, e16, e17⟩, e26, e27⟩ := hI_1
  subst er_2
  subst eq_
  have Y : bY D (fun q : Nat => s_.heap.size ≤ q) s_.heap ([(bm, .inl (cyI, 40, .inl gq))] ++ wq) H locs := Y
  refine lv_if_eq (tgt := 116) hx hb dL_law_97 (by decide) (fun c_ => absurd c_ (by decide)) (fun _ => ?_)
  refine lv_aload_n hx hb dL_law_100 rfl (lv_at hl 2 rfl) ?_
  refine lv_bipush (v := 7) hx hb dL_law_101 (by decide) ?_
  refine qVI (al := [(bm, .inl (cyI, 40, .inl gq))]) (As := [.int 7]) (rest := []) X Y (k_count hq 7 0 rfl) gL_law_X7_count rfl hdq_X7_count ⟨Nat.le_of_ble_eq_true rfl, Nat.le_of_ble_eq_true rfl⟩ hq.head rfl rfl hl.1 (Nat.le_of_ble_eq_true rfl) ⟨Nat.le_of_ble_eq_true rfl, Nat.le_of_ble_eq_true rfl⟩ dL_law_103 (fun wa_3 H locs hI_3 hw_3 Y => ?_)
  refine lv_if_ne (tgt := 116) hx hb dL_law_106 (by decide) (fun c_ => absurd (by decide) c_) (fun _ => ?_)
  refine lv_aload_n hx hb dL_law_109 rfl (lv_at hl 2 rfl) ?_
  refine qSI (al := [(bm, .inl (cyI, 40, .inl gq))]) (wa := wa_3) (As := [.ref (Q 0)]) (rest := []) (c2 := 63) (s2 := 2903) X Y (c_holds l D cyC cyI sb sL xs hI_3 hokq) gL_law_L_holds rfl ⟨rfl, rfl⟩ hdq_L_holds.2 ⟨Nat.le_of_ble_eq_true rfl, Nat.le_of_ble_eq_true rfl⟩ rfl rfl rfl rfl hl.1 (Nat.le_of_ble_eq_true rfl) ⟨Nat.le_of_ble_eq_true rfl, Nat.le_of_ble_eq_true rfl⟩ dL_law_110 (fun r_5 wa_4 H locs hI_4 hw_4 Y => ?_)
  obtain ⟨er_5, hI_4⟩ := hI_4
  subst er_5
  refine lv_if_ne (tgt := 118) hx hb dL_law_113 (by decide) (fun _ => ?_) (fun c_ => absurd c_ (by decide))
  refine lv_iconst (v := 0) hx hb dL_law_118 (by decide) ?_
  refine lv_istore (lv' := [(4, .int 0), (3, .int 0), (0, .ref sb), (1, .ref (Q 0)), (2, .ref bm)]) hx hb dL_law_119 hl (by decide) rfl (fun ls hl => ?_)
  refine lv_iload hx hb dL_law_121 (lv_at hl 0 rfl) ?_
  refine lv_iconst (v := 2) hx hb dL_law_123 (by decide) ?_
  refine lv_icmp_ge (tgt := 206) hx hb dL_law_124 (by decide) (fun c_ => absurd c_ (by decide)) (fun _ => ?_)
  refine lv_aload_n hx hb dL_law_127 rfl (lv_at hl 3 rfl) ?_
  refine lv_iload hx hb dL_law_128 (lv_at hl 0 rfl) ?_
  refine lv_iconst (v := 0) hx hb dL_law_130 (by decide) ?_
  refine qVI (al := [(bm, .inl (cyI, 40, .inl gq))]) (As := [.int 0, .int 0]) (rest := []) X Y (k_crane_0 hI_4 0 ((Sq 0).1 2) rfl) gL_law_X7_crane rfl hdq_X7_crane ⟨Nat.le_of_ble_eq_true rfl, Nat.le_of_ble_eq_true rfl⟩ hI_4.head rfl rfl hl.1 (Nat.le_of_ble_eq_true rfl) ⟨Nat.le_of_ble_eq_true rfl, Nat.le_of_ble_eq_true rfl⟩ dL_law_131 (fun wa_6 H locs hI_6 hw_6 Y => ?_)
  refine lv_aload_n hx hb dL_law_134 rfl (lv_at hl 4 rfl) ?_
  refine lv_bipush (v := 8) hx hb dL_law_135 (by decide) ?_
  refine lv_bipush (v := 12) hx hb dL_law_137 (by decide) ?_
  refine lv_iload hx hb dL_law_139 (lv_at hl 0 rfl) ?_
  refine bMul (v := 0) X.1 dL_law_141 (by decide) ?_
  refine bAdd (v := 8) X.1 dL_law_142 (by decide) ?_
  refine bIald (v := gq 8) X.1 Y 0 rfl (bInD (by decide)) dL_law_143 rfl ?_
  refine lv_icmp_ne (tgt := 198) hx hb dL_law_144 (by decide) (fun c_7 => ?_) (fun c_7 => ?_)
  · exact absurd e2 (show ¬ (((Sq 0).1 2) = (gq 8)) from c_7)
  · have c_7 : ((Sq 0).1 2) = (gq 8) := c_7
    refine lv_aload_n hx hb dL_law_147 rfl (lv_at hl 3 rfl) ?_
    refine lv_iload hx hb dL_law_148 (lv_at hl 0 rfl) ?_
    refine lv_iconst (v := 2) hx hb dL_law_150 (by decide) ?_
    refine qVI (al := [(bm, .inl (cyI, 40, .inl gq))]) (As := [.int 0, .int 2]) (rest := []) X Y (k_crane_0 hI_6 2 ((Sq 0).1 4) rfl) gL_law_X7_crane rfl hdq_X7_crane ⟨Nat.le_of_ble_eq_true rfl, Nat.le_of_ble_eq_true rfl⟩ hI_6.head rfl rfl hl.1 (Nat.le_of_ble_eq_true rfl) ⟨Nat.le_of_ble_eq_true rfl, Nat.le_of_ble_eq_true rfl⟩ dL_law_151 (fun wa_8 H locs hI_8 hw_8 Y => ?_)
    refine lv_aload_n hx hb dL_law_154 rfl (lv_at hl 4 rfl) ?_
    refine lv_bipush (v := 10) hx hb dL_law_155 (by decide) ?_
    refine lv_bipush (v := 12) hx hb dL_law_157 (by decide) ?_
    refine lv_iload hx hb dL_law_159 (lv_at hl 0 rfl) ?_
    refine bMul (v := 0) X.1 dL_law_161 (by decide) ?_
    refine bAdd (v := 10) X.1 dL_law_162 (by decide) ?_
    refine bIald (v := gq 10) X.1 Y 0 rfl (bInD (by decide)) dL_law_163 rfl ?_
    refine lv_icmp_ne (tgt := 198) hx hb dL_law_164 (by decide) (fun c_9 => ?_) (fun c_9 => ?_)
    · exact absurd e4 (show ¬ (((Sq 0).1 4) = (gq 10)) from c_9)
    · have c_9 : ((Sq 0).1 4) = (gq 10) := c_9
      refine lv_aload_n hx hb dL_law_167 rfl (lv_at hl 3 rfl) ?_
      refine lv_iload hx hb dL_law_168 (lv_at hl 0 rfl) ?_
      refine lv_iconst (v := 3) hx hb dL_law_170 (by decide) ?_
      refine qVI (al := [(bm, .inl (cyI, 40, .inl gq))]) (As := [.int 0, .int 3]) (rest := []) X Y (k_crane_0 hI_8 3 ((Sq 0).1 5) rfl) gL_law_X7_crane rfl hdq_X7_crane ⟨Nat.le_of_ble_eq_true rfl, Nat.le_of_ble_eq_true rfl⟩ hI_8.head rfl rfl hl.1 (Nat.le_of_ble_eq_true rfl) ⟨Nat.le_of_ble_eq_true rfl, Nat.le_of_ble_eq_true rfl⟩ dL_law_171 (fun wa_10 H locs hI_10 hw_10 Y => ?_)
      refine lv_aload_n hx hb dL_law_174 rfl (lv_at hl 4 rfl) ?_
      refine lv_bipush (v := 11) hx hb dL_law_175 (by decide) ?_
      refine lv_bipush (v := 12) hx hb dL_law_177 (by decide) ?_
      refine lv_iload hx hb dL_law_179 (lv_at hl 0 rfl) ?_
      refine bMul (v := 0) X.1 dL_law_181 (by decide) ?_
      refine bAdd (v := 11) X.1 dL_law_182 (by decide) ?_
      refine bIald (v := gq 11) X.1 Y 0 rfl (bInD (by decide)) dL_law_183 rfl ?_
      refine lv_icmp_ne (tgt := 198) hx hb dL_law_184 (by decide) (fun c_11 => ?_) (fun c_11 => ?_)
      · exact absurd e5 (show ¬ (((Sq 0).1 5) = (gq 11)) from c_11)
      · have c_11 : ((Sq 0).1 5) = (gq 11) := c_11
        refine lv_aload_n hx hb dL_law_187 rfl (lv_at hl 3 rfl) ?_
        refine lv_iload hx hb dL_law_188 (lv_at hl 0 rfl) ?_
        refine lv_iconst (v := (-1)) hx hb dL_law_190 (by decide) ?_
        refine lv_iconst (v := 0) hx hb dL_law_191 (by decide) ?_
        refine qVI (al := [(bm, .inl (cyI, 40, .inl gq))]) (As := [.int 0, .int (-1), .int 0]) (rest := []) X Y (k_spot_0 hI_10 (-1) 0 0 (spot_0 e26)) gL_law_X7_spot rfl hdq_X7_spot ⟨Nat.le_of_ble_eq_true rfl, Nat.le_of_ble_eq_true rfl⟩ hI_10.head rfl rfl hl.1 (Nat.le_of_ble_eq_true rfl) ⟨Nat.le_of_ble_eq_true rfl, Nat.le_of_ble_eq_true rfl⟩ dL_law_192 (fun wa_12 H locs hI_12 hw_12 Y => ?_)
        refine lv_if_eq (tgt := 200) hx hb dL_law_195 (by decide) (fun _ => ?_) (fun c_ => absurd (by decide) c_)
        refine lv_iinc (v := 1) (lv' := [(4, .int 1), (3, .int 0), (0, .ref sb), (1, .ref (Q 0)), (2, .ref bm)]) hx hb dL_law_200 hl (k := 0) rfl (by decide) (by decide) rfl (fun ls hl => ?_)
        refine lv_goto (tgt := 121) hx hb dL_law_203 (by decide) ?_
        refine lv_iload hx hb dL_law_121 (lv_at hl 0 rfl) ?_
        refine lv_iconst (v := 2) hx hb dL_law_123 (by decide) ?_
        refine lv_icmp_ge (tgt := 206) hx hb dL_law_124 (by decide) (fun c_ => absurd c_ (by decide)) (fun _ => ?_)
        refine lv_aload_n hx hb dL_law_127 rfl (lv_at hl 3 rfl) ?_
        refine lv_iload hx hb dL_law_128 (lv_at hl 0 rfl) ?_
        refine lv_iconst (v := 0) hx hb dL_law_130 (by decide) ?_
        refine qVI (al := [(bm, .inl (cyI, 40, .inl gq))]) (As := [.int 1, .int 0]) (rest := []) X Y (k_crane_1 hI_12 0 ((Sq 0).1 14) rfl) gL_law_X7_crane rfl hdq_X7_crane ⟨Nat.le_of_ble_eq_true rfl, Nat.le_of_ble_eq_true rfl⟩ hI_12.head rfl rfl hl.1 (Nat.le_of_ble_eq_true rfl) ⟨Nat.le_of_ble_eq_true rfl, Nat.le_of_ble_eq_true rfl⟩ dL_law_131 (fun wa_13 H locs hI_13 hw_13 Y => ?_)
        refine lv_aload_n hx hb dL_law_134 rfl (lv_at hl 4 rfl) ?_
        refine lv_bipush (v := 8) hx hb dL_law_135 (by decide) ?_
        refine lv_bipush (v := 12) hx hb dL_law_137 (by decide) ?_
        refine lv_iload hx hb dL_law_139 (lv_at hl 0 rfl) ?_
        refine bMul (v := 12) X.1 dL_law_141 (by decide) ?_
        refine bAdd (v := 20) X.1 dL_law_142 (by decide) ?_
        refine bIald (v := gq 20) X.1 Y 0 rfl (bInD (by decide)) dL_law_143 rfl ?_
        refine lv_icmp_ne (tgt := 198) hx hb dL_law_144 (by decide) (fun c_14 => ?_) (fun c_14 => ?_)
        · exact absurd e14 (show ¬ (((Sq 0).1 14) = (gq 20)) from c_14)
        · have c_14 : ((Sq 0).1 14) = (gq 20) := c_14
          refine lv_aload_n hx hb dL_law_147 rfl (lv_at hl 3 rfl) ?_
          refine lv_iload hx hb dL_law_148 (lv_at hl 0 rfl) ?_
          refine lv_iconst (v := 2) hx hb dL_law_150 (by decide) ?_
          refine qVI (al := [(bm, .inl (cyI, 40, .inl gq))]) (As := [.int 1, .int 2]) (rest := []) X Y (k_crane_1 hI_13 2 ((Sq 0).1 16) rfl) gL_law_X7_crane rfl hdq_X7_crane ⟨Nat.le_of_ble_eq_true rfl, Nat.le_of_ble_eq_true rfl⟩ hI_13.head rfl rfl hl.1 (Nat.le_of_ble_eq_true rfl) ⟨Nat.le_of_ble_eq_true rfl, Nat.le_of_ble_eq_true rfl⟩ dL_law_151 (fun wa_15 H locs hI_15 hw_15 Y => ?_)
          refine lv_aload_n hx hb dL_law_154 rfl (lv_at hl 4 rfl) ?_
          refine lv_bipush (v := 10) hx hb dL_law_155 (by decide) ?_
          refine lv_bipush (v := 12) hx hb dL_law_157 (by decide) ?_
          refine lv_iload hx hb dL_law_159 (lv_at hl 0 rfl) ?_
          refine bMul (v := 12) X.1 dL_law_161 (by decide) ?_
          refine bAdd (v := 22) X.1 dL_law_162 (by decide) ?_
          refine bIald (v := gq 22) X.1 Y 0 rfl (bInD (by decide)) dL_law_163 rfl ?_
          refine lv_icmp_ne (tgt := 198) hx hb dL_law_164 (by decide) (fun c_16 => ?_) (fun c_16 => ?_)
          · exact absurd e16 (show ¬ (((Sq 0).1 16) = (gq 22)) from c_16)
          · have c_16 : ((Sq 0).1 16) = (gq 22) := c_16
            refine lv_aload_n hx hb dL_law_167 rfl (lv_at hl 3 rfl) ?_
            refine lv_iload hx hb dL_law_168 (lv_at hl 0 rfl) ?_
            refine lv_iconst (v := 3) hx hb dL_law_170 (by decide) ?_
            refine qVI (al := [(bm, .inl (cyI, 40, .inl gq))]) (As := [.int 1, .int 3]) (rest := []) X Y (k_crane_1 hI_15 3 ((Sq 0).1 17) rfl) gL_law_X7_crane rfl hdq_X7_crane ⟨Nat.le_of_ble_eq_true rfl, Nat.le_of_ble_eq_true rfl⟩ hI_15.head rfl rfl hl.1 (Nat.le_of_ble_eq_true rfl) ⟨Nat.le_of_ble_eq_true rfl, Nat.le_of_ble_eq_true rfl⟩ dL_law_171 (fun wa_17 H locs hI_17 hw_17 Y => ?_)
            refine lv_aload_n hx hb dL_law_174 rfl (lv_at hl 4 rfl) ?_
            refine lv_bipush (v := 11) hx hb dL_law_175 (by decide) ?_
            refine lv_bipush (v := 12) hx hb dL_law_177 (by decide) ?_
            refine lv_iload hx hb dL_law_179 (lv_at hl 0 rfl) ?_
            refine bMul (v := 12) X.1 dL_law_181 (by decide) ?_
            refine bAdd (v := 23) X.1 dL_law_182 (by decide) ?_
            refine bIald (v := gq 23) X.1 Y 0 rfl (bInD (by decide)) dL_law_183 rfl ?_
            refine lv_icmp_ne (tgt := 198) hx hb dL_law_184 (by decide) (fun c_18 => ?_) (fun c_18 => ?_)
            · exact absurd e17 (show ¬ (((Sq 0).1 17) = (gq 23)) from c_18)
            · have c_18 : ((Sq 0).1 17) = (gq 23) := c_18
              refine lv_aload_n hx hb dL_law_187 rfl (lv_at hl 3 rfl) ?_
              refine lv_iload hx hb dL_law_188 (lv_at hl 0 rfl) ?_
              refine lv_iconst (v := (-1)) hx hb dL_law_190 (by decide) ?_
              refine lv_iconst (v := 0) hx hb dL_law_191 (by decide) ?_
              refine qVI (al := [(bm, .inl (cyI, 40, .inl gq))]) (As := [.int 1, .int (-1), .int 0]) (rest := []) X Y (k_spot_1 hI_17 (-1) 0 0 (spot_1 e27)) gL_law_X7_spot rfl hdq_X7_spot ⟨Nat.le_of_ble_eq_true rfl, Nat.le_of_ble_eq_true rfl⟩ hI_17.head rfl rfl hl.1 (Nat.le_of_ble_eq_true rfl) ⟨Nat.le_of_ble_eq_true rfl, Nat.le_of_ble_eq_true rfl⟩ dL_law_192 (fun wa_19 H locs hI_19 hw_19 Y => ?_)
              refine lv_if_eq (tgt := 200) hx hb dL_law_195 (by decide) (fun _ => ?_) (fun c_ => absurd (by decide) c_)
              refine lv_iinc (v := 2) (lv' := [(4, .int 2), (3, .int 0), (0, .ref sb), (1, .ref (Q 0)), (2, .ref bm)]) hx hb dL_law_200 hl (k := 0) rfl (by decide) (by decide) rfl (fun ls hl => ?_)
              refine lv_goto (tgt := 121) hx hb dL_law_203 (by decide) ?_
              refine lv_iload hx hb dL_law_121 (lv_at hl 0 rfl) ?_
              refine lv_iconst (v := 2) hx hb dL_law_123 (by decide) ?_
              refine lv_icmp_ge (tgt := 206) hx hb dL_law_124 (by decide) (fun _ => ?_) (fun c_ => absurd (by decide) c_)
              refine lv_aload_n hx hb dL_law_206 rfl (lv_at hl 3 rfl) ?_
              refine lv_aload_n hx hb dL_law_207 rfl (lv_at hl 2 rfl) ?_
              refine lv_bipush (v := 40) hx hb dL_law_208 (by decide) ?_
              refine lv_iload_n hx hb dL_law_210 rfl (lv_at hl 1 rfl) ?_
              refine bMul (v := 0) X.1 dL_law_211 (by decide) ?_
              refine lv_iconst (v := 4) hx hb dL_law_212 (by decide) ?_
              refine bAdd (v := nI 4) X.1 dL_law_213 (by decide +kernel) ?_
              have hz : QW cyC cyI Q rq Sq (nI 0) Tq wa_19 := by rw [nI_0]; exact hI_19
              refine qSI (al := [(bm, .inl (cyI, 40, .inl gq))]) (wa := wa_19) (As := [.ref (Q 0), .ref sb, .int (nI 4)]) (rest := []) (c2 := 64) (s2 := 2915) X Y (c_undoes l D cyC cyI sb sL xs (u0 := 0) hz 4 (by omega) (fun i hi => by rw [Nat.le_zero.mp hi]; exact hokq) (by omega) hsL) gL_law_L_undoes rfl ⟨rfl, rfl⟩ hdq_L_undoes.2 ⟨Nat.le_of_ble_eq_true rfl, Nat.le_of_ble_eq_true rfl⟩ rfl rfl rfl rfl hl.1 (Nat.le_of_ble_eq_true rfl) ⟨Nat.le_of_ble_eq_true rfl, Nat.le_of_ble_eq_true rfl⟩ dL_law_214 (fun r_21 wa_20 H locs hI_20 hw_20 Y => ?_)
              obtain ⟨er_21, S2, u2, hu_, hu2, hok2⟩ := hI_20
              subst er_21
              have hI2 := hu_
              refine lv_if_eq (tgt := 242) hx hb dL_law_217 (by decide) (fun c_ => absurd c_ (by decide)) (fun _ => ?_)
              refine lv_aload_n hx hb dL_law_220 rfl (lv_at hl 3 rfl) ?_
              refine lv_aload_n hx hb dL_law_221 rfl (lv_at hl 2 rfl) ?_
              refine lv_bipush (v := 40) hx hb dL_law_222 (by decide) ?_
              refine lv_iload_n hx hb dL_law_224 rfl (lv_at hl 1 rfl) ?_
              refine bMul (v := 0) X.1 dL_law_225 (by decide) ?_
              refine lv_bipush (v := 14) hx hb dL_law_226 (by decide) ?_
              refine bAdd (v := nI 14) X.1 dL_law_228 (by decide +kernel) ?_
              refine qSI (al := [(bm, .inl (cyI, 40, .inl gq))]) (wa := wa_20) (As := [.ref (Q 0), .ref sb, .int (nI 14)]) (rest := []) (c2 := 65) (s2 := 2927) X Y (c_undoes l D cyC cyI sb sL xs hI2 14 hu2 hok2 (by omega) hsL) gL_law_L_undoes rfl ⟨rfl, rfl⟩ hdq_L_undoes.2 ⟨Nat.le_of_ble_eq_true rfl, Nat.le_of_ble_eq_true rfl⟩ rfl rfl rfl rfl hl.1 (Nat.le_of_ble_eq_true rfl) ⟨Nat.le_of_ble_eq_true rfl, Nat.le_of_ble_eq_true rfl⟩ dL_law_229 (fun r_23 wa_22 H locs hI_22 hw_22 Y => ?_)
              obtain ⟨er_23, S3, u3, hu_, hu3, hok3⟩ := hI_22
              subst er_23
              have hI3 := hu_
              refine lv_if_eq (tgt := 242) hx hb dL_law_232 (by decide) (fun c_ => absurd c_ (by decide)) (fun _ => ?_)
              refine lv_aload_n hx hb dL_law_235 rfl (lv_at hl 3 rfl) ?_
              refine qSI (al := [(bm, .inl (cyI, 40, .inl gq))]) (wa := wa_22) (As := [.ref (Q 0)]) (rest := []) (c2 := 65) (s2 := 2927) X Y (c_refused l D cyC cyI sb sL xs hI3 (hok3 0 (Nat.zero_le _))) gL_law_L_refused rfl ⟨rfl, rfl⟩ hdq_L_refused.2 ⟨Nat.le_of_ble_eq_true rfl, Nat.le_of_ble_eq_true rfl⟩ rfl rfl rfl rfl hl.1 (Nat.le_of_ble_eq_true rfl) ⟨Nat.le_of_ble_eq_true rfl, Nat.le_of_ble_eq_true rfl⟩ dL_law_236 (fun r_25 wa_24 H locs hI_24 hw_24 Y => ?_)
              obtain ⟨er_25, hI_24⟩ := hI_24
              subst er_25
              refine lv_if_ne (tgt := 244) hx hb dL_law_239 (by decide) (fun _ => ?_) (fun c_ => absurd c_ (by decide))
              refine lv_iinc (v := 1) (lv' := [(3, .int 1), (4, .int 2), (0, .ref sb), (1, .ref (Q 0)), (2, .ref bm)]) hx hb dL_law_244 hl (k := 1) rfl (by decide) (by decide) rfl (fun ls hl => ?_)
              refine lv_goto (tgt := 82) hx hb dL_law_247 (by decide) ?_
              exact lw_82_1 l X hr hlk hsL hI_24 (hok3 0 (Nat.zero_le _)) (lv_sub hl [0, 2, 3, 4] rfl) Y
set_option maxHeartbeats 8000000 in
set_option maxRecDepth 100000 in
theorem lw_13 {p_ : Program} {e_ : Env} {s_ : State} {m_ : MethodId} {bl_ : List Frame} {me_ : Method} {cd_ : Code} (l : Launch) {D : va_G} {cyC cyI : ClassId} {sb sL : Nat} {xs : Nat → Int32} (X : qX p_ s_ m_ #[Value.ref sb] cd_ cL_law 5 wsL_law RL D cyC cyI sb sL xs (fun q : Nat => s_.heap.size ≤ q)) (hr : me_.sig.returnType = ret) (hlk : me_.locks = false) {Q : Nat → Nat} (hsL : sL ≤ 260) {r : Nat → Int32} {S : Nat → Sto} {H : Heap} {locs : List Loc} {ls : Array Slot} {wa : va_W} {bm : Nat} {g : Nat → Int32} (hI : QW cyC cyI Q r S 0 [] wa) (hok : OkS r (S 0)) (h0 : r 0 = 600) (h1 : (S 0).1 1 = -4) (h14 : (S 0).1 14 = 500) (hl : lv_has ls 5 [(0, .ref sb), (1, .ref (Q 0)), (2, .ref bm)]) (Y : bY D (fun q : Nat => s_.heap.size ≤ q) s_.heap ([(bm, .inl (cyI, 40, .inl g))] ++ wa) H locs) : W p_ l e_ room_1 s_ m_ #[Value.ref sb] bl_ me_ cd_ H locs 63 2903 (lw_Z bl_ #[Value.ref sb] s_) (F0 m_ 13 ls []) := by
  have hx := X.1.1.1
  have hb := X.1.1.2.1
  refine lv_aload_n hx hb dL_law_13 rfl (lv_at hl 1 rfl) ?_
  refine qVI (al := [(bm, .inl (cyI, 40, .inl g))]) (As := []) (rest := []) X Y (k_undo_no hI (-2) rfl (by decide +kernel)) gL_law_X7_undo rfl hdq_X7_undo ⟨Nat.le_of_ble_eq_true rfl, Nat.le_of_ble_eq_true rfl⟩ hI.head rfl rfl hl.1 (Nat.le_of_ble_eq_true rfl) ⟨Nat.le_of_ble_eq_true rfl, Nat.le_of_ble_eq_true rfl⟩ dL_law_14 (fun wa_1 H locs hI_1 hw_1 Y => ?_)
  refine lv_bipush (v := (-2)) hx hb dL_law_17 (by decide) ?_
  refine lv_icmp_ne (tgt := 78) hx hb dL_law_19 (by decide) (fun c_ => absurd (by decide) c_) (fun _ => ?_)
  refine lv_aload_n hx hb dL_law_22 rfl (lv_at hl 1 rfl) ?_
  refine qVI (al := [(bm, .inl (cyI, 40, .inl g))]) (As := []) (rest := []) X Y (k_fault hI_1 (-4) (by decide +kernel)) gL_law_X7_fault rfl hdq_X7_fault ⟨Nat.le_of_ble_eq_true rfl, Nat.le_of_ble_eq_true rfl⟩ hI_1.head rfl rfl hl.1 (Nat.le_of_ble_eq_true rfl) ⟨Nat.le_of_ble_eq_true rfl, Nat.le_of_ble_eq_true rfl⟩ dL_law_23 (fun wa_2 H locs hI_2 hw_2 Y => ?_)
  refine lv_bipush (v := (-4)) hx hb dL_law_26 (by decide) ?_
  refine lv_icmp_ne (tgt := 78) hx hb dL_law_28 (by decide) (fun c_ => absurd (by decide) c_) (fun _ => ?_)
  refine lv_aload_n hx hb dL_law_31 rfl (lv_at hl 1 rfl) ?_
  refine lv_iconst (v := 0) hx hb dL_law_32 (by decide) ?_
  refine qVI (al := [(bm, .inl (cyI, 40, .inl g))]) (As := [.int 0]) (rest := []) X Y (k_count hI_2 0 600 h0) gL_law_X7_count rfl hdq_X7_count ⟨Nat.le_of_ble_eq_true rfl, Nat.le_of_ble_eq_true rfl⟩ hI_2.head rfl rfl hl.1 (Nat.le_of_ble_eq_true rfl) ⟨Nat.le_of_ble_eq_true rfl, Nat.le_of_ble_eq_true rfl⟩ dL_law_33 (fun wa_3 H locs hI_3 hw_3 Y => ?_)
  refine lv_sipush (v := 600) hx hb dL_law_36 (by decide) ?_
  refine lv_icmp_ne (tgt := 78) hx hb dL_law_39 (by decide) (fun c_ => absurd (by decide) c_) (fun _ => ?_)
  refine lv_aload_n hx hb dL_law_42 rfl (lv_at hl 1 rfl) ?_
  refine lv_iconst (v := 5) hx hb dL_law_43 (by decide) ?_
  refine qVI (al := [(bm, .inl (cyI, 40, .inl g))]) (As := [.int 5]) (rest := []) X Y (k_count hI_3 5 (-4) h1) gL_law_X7_count rfl hdq_X7_count ⟨Nat.le_of_ble_eq_true rfl, Nat.le_of_ble_eq_true rfl⟩ hI_3.head rfl rfl hl.1 (Nat.le_of_ble_eq_true rfl) ⟨Nat.le_of_ble_eq_true rfl, Nat.le_of_ble_eq_true rfl⟩ dL_law_44 (fun wa_4 H locs hI_4 hw_4 Y => ?_)
  refine lv_bipush (v := (-4)) hx hb dL_law_47 (by decide) ?_
  refine lv_icmp_ne (tgt := 78) hx hb dL_law_49 (by decide) (fun c_ => absurd (by decide) c_) (fun _ => ?_)
  refine lv_aload_n hx hb dL_law_52 rfl (lv_at hl 1 rfl) ?_
  refine lv_iconst (v := 1) hx hb dL_law_53 (by decide) ?_
  refine lv_iconst (v := 0) hx hb dL_law_54 (by decide) ?_
  refine qVI (al := [(bm, .inl (cyI, 40, .inl g))]) (As := [.int 1, .int 0]) (rest := []) X Y (k_crane_1 hI_4 0 500 h14) gL_law_X7_crane rfl hdq_X7_crane ⟨Nat.le_of_ble_eq_true rfl, Nat.le_of_ble_eq_true rfl⟩ hI_4.head rfl rfl hl.1 (Nat.le_of_ble_eq_true rfl) ⟨Nat.le_of_ble_eq_true rfl, Nat.le_of_ble_eq_true rfl⟩ dL_law_55 (fun wa_5 H locs hI_5 hw_5 Y => ?_)
  refine lv_sipush (v := 500) hx hb dL_law_58 (by decide) ?_
  refine lv_icmp_ne (tgt := 78) hx hb dL_law_61 (by decide) (fun c_ => absurd (by decide) c_) (fun _ => ?_)
  refine lv_aload_n hx hb dL_law_64 rfl (lv_at hl 1 rfl) ?_
  refine qSI (al := [(bm, .inl (cyI, 40, .inl g))]) (wa := wa_5) (As := [.ref (Q 0)]) (rest := []) (c2 := 63) (s2 := 2903) X Y (c_holds l D cyC cyI sb sL xs hI_5 hok) gL_law_L_holds rfl ⟨rfl, rfl⟩ hdq_L_holds.2 ⟨Nat.le_of_ble_eq_true rfl, Nat.le_of_ble_eq_true rfl⟩ rfl rfl rfl rfl hl.1 (Nat.le_of_ble_eq_true rfl) ⟨Nat.le_of_ble_eq_true rfl, Nat.le_of_ble_eq_true rfl⟩ dL_law_65 (fun r_7 wa_6 H locs hI_6 hw_6 Y => ?_)
  obtain ⟨er_7, hI_6⟩ := hI_6
  subst er_7
  refine lv_if_eq (tgt := 78) hx hb dL_law_68 (by decide) (fun c_ => absurd c_ (by decide)) (fun _ => ?_)
  refine lv_aload_n hx hb dL_law_71 rfl (lv_at hl 1 rfl) ?_
  refine qSI (al := [(bm, .inl (cyI, 40, .inl g))]) (wa := wa_6) (As := [.ref (Q 0)]) (rest := []) (c2 := 63) (s2 := 2903) X Y (c_refused l D cyC cyI sb sL xs hI_6 hok) gL_law_L_refused rfl ⟨rfl, rfl⟩ hdq_L_refused.2 ⟨Nat.le_of_ble_eq_true rfl, Nat.le_of_ble_eq_true rfl⟩ rfl rfl rfl rfl hl.1 (Nat.le_of_ble_eq_true rfl) ⟨Nat.le_of_ble_eq_true rfl, Nat.le_of_ble_eq_true rfl⟩ dL_law_72 (fun r_9 wa_8 H locs hI_8 hw_8 Y => ?_)
  obtain ⟨er_9, hI_8⟩ := hI_8
  subst er_9
  refine lv_if_ne (tgt := 80) hx hb dL_law_75 (by decide) (fun _ => ?_) (fun c_ => absurd c_ (by decide))
  refine lv_iconst (v := 0) hx hb dL_law_80 (by decide) ?_
  refine lv_istore_n (lv' := [(3, .int 0), (0, .ref sb), (1, .ref (Q 0)), (2, .ref bm)]) hx hb dL_law_81 rfl hl (by decide) rfl (fun ls hl => ?_)
  exact lw_82_0 l X hr hlk hsL hI_8 hok (lv_sub hl [0, 1, 2, 3] rfl) Y
