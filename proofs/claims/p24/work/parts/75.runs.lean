/-! runs that are known: the fixed ones of the law -/
abbrev P21 : Type := Int32 × Int32 × Int32 × Int32 × Int32 × Int32 × Int32 × Int32 × Int32 × Int32 × Int32 × Int32 × Int32 × Int32 × Int32 × Int32 × Int32 × Int32 × Int32 × Int32 × Int32
def pst (nv nl3 nl7 nr3 nr7 r0 r1 r2 r3 r4 : Int32) : P21 → P21
  | (br, a0, a1, a2, a4, a5, a6, a8, a9, a10, a11, q0, q1, q2, q4, q5, q6, q8, q9, q10, q11) => match s_pairGoOn nv a0 a1 a2 nl3 a4 a5 a6 nl7 a8 a9 a10 a11 q0 q1 q2 nr3 q4 q5 q6 nr7 q8 q9 q10 q11 r0 r1 r2 r3 r4 with
    | (u0, u1, u2, u3, u4, u5, u6, u7, u8, _, u10, u11, u12, u13, u14, u15, u16, u17, _) => (br + u0, u1, u2, u3, u4, u5, u6, a8 - 1, u7, a10 - 1, u8, u10, u11, u12, u13, u14, u15, q8 - 1, u16, q10 - 1, u17)
def pit (nv nl3 nl7 nr3 nr7 r0 r1 r2 r3 r4 : Int32) : Nat → P21 → P21
  | 0, p => p
  | k + 1, p => pit nv nl3 nl7 nr3 nr7 r0 r1 r2 r3 r4 k (pst nv nl3 nl7 nr3 nr7 r0 r1 r2 r3 r4 p)
theorem pit_add {nv nl3 nl7 nr3 nr7 r0 r1 r2 r3 r4 : Int32} : ∀ (a b : Nat) (p : P21), pit nv nl3 nl7 nr3 nr7 r0 r1 r2 r3 r4 (a + b) p = pit nv nl3 nl7 nr3 nr7 r0 r1 r2 r3 r4 b (pit nv nl3 nl7 nr3 nr7 r0 r1 r2 r3 r4 a p) := by
  intro a
  induction a with
  | zero => intro b p; rw [Nat.zero_add]; rfl
  | succ a ih => intro b p; rw [show a + 1 + b = (a + b) + 1 by omega, pit, ih, pit]
set_option maxHeartbeats 4000000 in
theorem gtick_P {tn nv nl3 nl7 nr3 nr7 r0 r1 r2 r3 r4 : Int32} {o0 o1 o2 o3 o4 o5 o6 o7 o8 o9 o10 o11 o12 o14 o15 o16 o17 o18 o19 o20 o21 o22 o23 o25 o28 : Int32} {o13 o24 : Bool} {o26 o27 o29 o30 o31 o32 o33 o34 : Nat → Int32} {tN : Nat} (hK : tn = nI tN) (hT : tN ≤ 60) : ∀ (n j : Nat) (br u9 wk wl0 wl1 wl2 wl4 wl5 wl6 wl8 wl9 wl10 wl11 wr0 wr1 wr2 wr4 wr5 wr6 wr8 wr9 wr10 wr11 wsm wzm : Int32) (wlb wrb : Bool) (wsf wsg wzf wzg v0 v1 v2 v3 : Nat → Int32), 61 ≤ j + n → j ≤ tN → (0 ≤ wk.toInt ∧ wk.toInt + (tN - j : Nat) ≤ 100000) →
    g_tick nv nl3 nl7 nr3 nr7 r0 r1 r2 r3 r4 tn n j br u9 wk wl0 wl1 wl2 wl4 wl5 wl6 wl8 wl9 wl10 wl11 wlb wr0 wr1 wr2 wr4 wr5 wr6 wr8 wr9 wr10 wr11 wrb wsm wsf wsg wzm wzf wzg v0 v1 v2 v3 = (o0, o1, o2, o3, o4, o5, o6, o7, o8, o9, o10, o11, o12, o13, o14, o15, o16, o17, o18, o19, o20, o21, o22, o23, o24, o25, o26, o27, o28, o29, o30, o31, o32, o33, o34) →
    (o0, o3, o4, o5, o6, o7, o8, o9, o10, o11, o12, o14, o15, o16, o17, o18, o19, o20, o21, o22, o23) = pit nv nl3 nl7 nr3 nr7 r0 r1 r2 r3 r4 (tN - j) (br, wl0, wl1, wl2, wl4, wl5, wl6, wl8, wl9, wl10, wl11, wr0, wr1, wr2, wr4, wr5, wr6, wr8, wr9, wr10, wr11) ∧ o1 = u9 ∧ o2.toInt = wk.toInt + (tN - j : Nat) ∧ o31 = v0 ∧ o32 = v1 ∧ o33 = v2 ∧ o34 = v3 := by
  intro n
  induction n with
  | zero => intro j br u9 wk wl0 wl1 wl2 wl4 wl5 wl6 wl8 wl9 wl10 wl11 wr0 wr1 wr2 wr4 wr5 wr6 wr8 wr9 wr10 wr11 wsm wzm wlb wrb wsf wsg wzf wzg v0 v1 v2 v3 h1 h2; omega
  | succ n ih =>
    intro j br u9 wk wl0 wl1 wl2 wl4 wl5 wl6 wl8 wl9 wl10 wl11 wr0 wr1 wr2 wr4 wr5 wr6 wr8 wr9 wr10 wr11 wsm wzm wlb wrb wsf wsg wzf wzg v0 v1 v2 v3 h1 h2 hk hc
    rw [g_tick] at hc
    by_cases c1 : tn ≤ nI j
    · have c2 : tN ≤ j := Nat.le_of_not_lt fun q => nI_ge q (by omega) (by rw [hK] at c1; exact c1)
      rw [if_pos c1] at hc
      simp only [Prod.mk.injEq] at hc
      obtain ⟨z0, z1, z2, z3, z4, z5, z6, z7, z8, z9, z10, z11, z12, z13, z14, z15, z16, z17, z18, z19, z20, z21, z22, z23, z24, z25, z26, z27, z28, z29, z30, z31, z32, z33, z34⟩ := hc
      subst z0 z1 z2 z3 z4 z5 z6 z7 z8 z9 z10 z11 z12 z13 z14 z15 z16 z17 z18 z19 z20 z21 z22 z23 z24 z25 z26 z27 z28 z29 z30 z31 z32 z33 z34
      rw [show tN - j = 0 by omega]
      exact ⟨rfl, rfl, by simp, rfl, rfl, rfl, rfl⟩
    · rw [if_neg c1] at hc
      have c3 : j < tN := by
        rw [hK] at c1
        exact (bLtN (by omega) (by omega)).mp (bLtN2 c1)
      obtain ⟨b0, b1, b2, b3, b4, b5, b6, b7, b8, b9, b10, b11, b12, b13, b14, b15, b16, b17, b18, b19, b20, b21, b22, b23, b24, ea⟩ := bEx25 (s_storyGoOn nv wl0 wl1 wl2 nl3 wl4 wl5 wl6 nl7 wl8 wl9 wl10 wl11 wr0 wr1 wr2 nr3 wr4 wr5 wr6 nr7 wr8 wr9 wr10 wr11 wsm wsf wsg wzm wzf wzg r0 r1 r2 r3 r4)
      rw [ea] at hc
      dsimp only at hc
      have ep : s_pairGoOn nv wl0 wl1 wl2 nl3 wl4 wl5 wl6 nl7 wl8 wl9 wl10 wl11 wr0 wr1 wr2 nr3 wr4 wr5 wr6 nr7 wr8 wr9 wr10 wr11 r0 r1 r2 r3 r4 = (b0, b1, b2, b3, b4, b5, b6, b7, b8, b9, b10, b11, b12, b13, b14, b15, b16, b17, b18) := by
        unfold s_storyGoOn at ea
        obtain ⟨d0, d1, d2, d3, d4, d5, d6, d7, d8, d9, d10, d11, d12, d13, d14, d15, d16, d17, d18, eb⟩ := bEx19 (s_pairGoOn nv wl0 wl1 wl2 nl3 wl4 wl5 wl6 nl7 wl8 wl9 wl10 wl11 wr0 wr1 wr2 nr3 wr4 wr5 wr6 nr7 wr8 wr9 wr10 wr11 r0 r1 r2 r3 r4)
        rw [eb] at ea
        dsimp only at ea
        obtain ⟨x0, x1, x2, ex⟩ := bEx3 (s_addTick wsm wsf wsg d1 d3)
        rw [ex] at ea
        dsimp only at ea
        obtain ⟨y0, y1, y2, ey⟩ := bEx3 (s_addTick wzm wzf wzg d10 d12)
        rw [ey] at ea
        dsimp only at ea
        simp only [Prod.mk.injEq] at ea
        obtain ⟨w0, w1, w2, w3, w4, w5, w6, w7, w8, w9, w10, w11, w12, w13, w14, w15, w16, w17, w18, -⟩ := ea
        subst w0 w1 w2 w3 w4 w5 w6 w7 w8 w9 w10 w11 w12 w13 w14 w15 w16 w17 w18
        exact eb
      have e1 : (1 : Int32).toInt = 1 := by decide
      have ek : (wk + 1).toInt = wk.toInt + 1 := by rw [addI (by omega) (by omega), e1]
      have es : pst nv nl3 nl7 nr3 nr7 r0 r1 r2 r3 r4 (br, wl0, wl1, wl2, wl4, wl5, wl6, wl8, wl9, wl10, wl11, wr0, wr1, wr2, wr4, wr5, wr6, wr8, wr9, wr10, wr11) = (br + b0, b1, b2, b3, b4, b5, b6, wl8 - 1, b7, wl10 - 1, b8, b10, b11, b12, b13, b14, b15, wr8 - 1, b16, wr10 - 1, b17) := by
        unfold pst
        dsimp only
        rw [ep]
      rw [show tN - j = (tN - (j + 1)) + 1 by omega, pit, es]
      obtain ⟨g1, g2, g3, g4⟩ := ih (j + 1) _ _ _ _ _ _ _ _ _ _ _ _ _ _ _ _ _ _ _ _ _ _ _ _ _ _ _ _ _ _ _ _ _ _ _ (by omega) (by omega) (by rw [ek]; omega) hc
      refine ⟨g1, g2, ?_, g4⟩
      rw [g3, ek]; omega
def pOf (n : Sto) : P21 := (0, n.1 2, n.1 3, n.1 4, n.1 6, n.1 7, n.1 8, n.1 10, n.1 11, n.1 12, n.1 13, n.1 14, n.1 15, n.1 16, n.1 18, n.1 19, n.1 20, n.1 22, n.1 23, n.1 24, n.1 25)
def TickP (cyC cyI : ClassId) (Q : Nat → Nat) (r : Nat → Int32) (S : Nat → Sto) (u : Nat) (T : List Int32) (tN : Nat) (p : P21) (w : va_W) : Prop := ∃ n' c : Sto, QW cyC cyI Q r (pushS S n' c) (nI (if u < 4 then u + 1 else 4)) T w ∧ pOf n' = (0, p.2) ∧ (n'.1 1 = (S 0).1 1 ∧ n'.1 5 = (S 0).1 5 ∧ n'.1 9 = (S 0).1 9 ∧ n'.1 17 = (S 0).1 17 ∧ n'.1 21 = (S 0).1 21) ∧ (n'.1 0).toInt = ((S 0).1 0).toInt + tN
set_option maxHeartbeats 4000000 in
theorem k_tick_P {l : Launch} {D : va_G} {cyC cyI : ClassId} {Q : Nat → Nat} {r : Nat → Int32} {S : Nat → Sto} {u : Nat} {T : List Int32} {wa : va_W} (h : QW cyC cyI Q r S (nI u) T wa) (hu4 : u ≤ 4) (tN : Nat) (h1 : 1 ≤ tN ∧ tN ≤ 60) (hk : 0 ≤ ((S 0).1 0).toInt ∧ ((S 0).1 0).toInt + tN ≤ 9999) (p : P21) (hp : pit ((S 0).1 1) ((S 0).1 5) ((S 0).1 9) ((S 0).1 17) ((S 0).1 21) (r 0) (r 1) (r 2) (r 3) (r 4) tN (pOf (S 0)) = p) (ans : Int32) (ha : p.1 = ans) : KI l D cyC cyI yX7_tick wsX7_tick 6 130 [.ref (Q 0), .int (nI tN)] wa ans (TickP cyC cyI Q r S u T tN p) := by
  obtain ⟨v0, v1, v2, v3, ek⟩ := bEx4 (s_keepForUndo ((S 0).1 26) ((S 0).2.2 0) ((S 0).2.2 1) ((S 0).1 27) ((S 0).2.2 2) ((S 0).2.2 3) ((S 4).2.2 0) ((S 4).2.2 1) ((S 4).2.2 2) ((S 4).2.2 3))
  obtain ⟨o0, o1, o2, o3, o4, o5, o6, o7, o8, o9, o10, o11, o12, o13, o14, o15, o16, o17, o18, o19, o20, o21, o22, o23, o24, o25, o26, o27, o28, o29, o30, o31, o32, o33, o34, et⟩ := bEx35 (s_tick_ok (nI u) ((S 0).1 0) ((S 0).1 1) ((S 0).1 2) ((S 0).1 3) ((S 0).1 4) ((S 0).1 5) ((S 0).1 6) ((S 0).1 7) ((S 0).1 8) ((S 0).1 9) ((S 0).1 10) ((S 0).1 11) ((S 0).1 12) ((S 0).1 13) ((S 0).2.1 0) ((S 0).1 14) ((S 0).1 15) ((S 0).1 16) ((S 0).1 17) ((S 0).1 18) ((S 0).1 19) ((S 0).1 20) ((S 0).1 21) ((S 0).1 22) ((S 0).1 23) ((S 0).1 24) ((S 0).1 25) ((S 0).2.1 1) ((S 0).1 26) ((S 0).2.2 0) ((S 0).2.2 1) ((S 0).1 27) ((S 0).2.2 2) ((S 0).2.2 3) ((S 4).2.2 0) ((S 4).2.2 1) ((S 4).2.2 2) ((S 4).2.2 3) (r 0) (r 1) (r 2) (r 3) (r 4) (nI tN))
  have et2 := et
  unfold s_tick_ok at et2
  rw [ek] at et2
  dsimp only at et2
  have e60 : (nI tN).toInt = tN := nIt (by omega)
  obtain ⟨g1, g2, g3, g6, g7, g8, g9⟩ := gtick_P (tN := tN) rfl h1.2 61 0 0 (if 4 < nI u + 1 then 4 else nI u + 1) ((S 0).1 0) ((S 0).1 2) ((S 0).1 3) ((S 0).1 4) ((S 0).1 6) ((S 0).1 7) ((S 0).1 8) ((S 0).1 10) ((S 0).1 11) ((S 0).1 12) ((S 0).1 13) ((S 0).1 14) ((S 0).1 15) ((S 0).1 16) ((S 0).1 18) ((S 0).1 19) ((S 0).1 20) ((S 0).1 22) ((S 0).1 23) ((S 0).1 24) ((S 0).1 25) ((S 0).1 26) ((S 0).1 27) ((S 0).2.1 0) ((S 0).2.1 1) ((S 0).2.2 0) ((S 0).2.2 1) ((S 0).2.2 2) ((S 0).2.2 3) v0 v1 v2 v3 (by omega) (by omega) (by omega) et2
  subst g6 g7 g8 g9
  have g1' : (o0, o3, o4, o5, o6, o7, o8, o9, o10, o11, o12, o14, o15, o16, o17, o18, o19, o20, o21, o22, o23) = p := g1.trans hp
  have ea : o0 = ans := by rw [← ha, ← g1']
  subst ea
  refine (k_tick_ok h (nI tN) o0 o1 o2 o3 o4 o5 o6 o7 o8 o9 o10 o11 o12 o13 o14 o15 o16 o17 o18 o19 o20 o21 o22 o23 o24 o25 o26 o27 o28 o29 o30 o31 o32 o33 o34 et (isWithin_y (by rw [show (1 : Int32).toInt = 1 by decide]; omega) (by rw [show (60 : Int32).toInt = 60 by decide]; omega)) (by rw [leI, addI (by omega) (by omega), show (9999 : Int32).toInt = 9999 by decide]; omega)).imp (fun w2 q => ?_)
  rw [g2, ud_up hu4] at q
  refine ⟨_, _, q, ?_, ⟨rfl, rfl, rfl, rfl, rfl⟩, ?_⟩
  · rw [← g1']; rfl
  · show o2.toInt = _
    rw [g3]; rfl
def eqP : P21 → P21 → Bool
  | (a0, a1, a2, a3, a4, a5, a6, a7, a8, a9, a10, a11, a12, a13, a14, a15, a16, a17, a18, a19, a20), (b0, b1, b2, b3, b4, b5, b6, b7, b8, b9, b10, b11, b12, b13, b14, b15, b16, b17, b18, b19, b20) => decide (a0 = b0) && (decide (a1 = b1) && (decide (a2 = b2) && (decide (a3 = b3) && (decide (a4 = b4) && (decide (a5 = b5) && (decide (a6 = b6) && (decide (a7 = b7) && (decide (a8 = b8) && (decide (a9 = b9) && (decide (a10 = b10) && (decide (a11 = b11) && (decide (a12 = b12) && (decide (a13 = b13) && (decide (a14 = b14) && (decide (a15 = b15) && (decide (a16 = b16) && (decide (a17 = b17) && (decide (a18 = b18) && (decide (a19 = b19) && (decide (a20 = b20)))))))))))))))))))))
theorem eqP_s {a b : P21} (h : eqP a b = true) : a = b := by
  obtain ⟨a0, a1, a2, a3, a4, a5, a6, a7, a8, a9, a10, a11, a12, a13, a14, a15, a16, a17, a18, a19, a20⟩ := a
  obtain ⟨b0, b1, b2, b3, b4, b5, b6, b7, b8, b9, b10, b11, b12, b13, b14, b15, b16, b17, b18, b19, b20⟩ := b
  simp only [eqP, Bool.and_eq_true, decide_eq_true_eq] at h
  obtain ⟨h0, h1, h2, h3, h4, h5, h6, h7, h8, h9, h10, h11, h12, h13, h14, h15, h16, h17, h18, h19, h20⟩ := h
  subst h0 h1 h2 h3 h4 h5 h6 h7 h8 h9 h10 h11 h12 h13 h14 h15 h16 h17 h18 h19 h20
  rfl
theorem run_0_0 : pit (-4) 0 10 99 60 200 10 2 12 6 10 (0, 0, 0, 10, 0, 0, 0, 1, 0, 1, 0, 10, 0, 60, 0, 0, 0, 1, 40, 1, 0) = (0, 0, 0, 10, 0, 0, 0, (-9), 0, (-9), 0, 39, 3, 60, 24, 2, 40, (-9), 0, (-9), 0) := eqP_s (by decide +kernel)
theorem run_0_1 : pit (-4) 0 10 99 60 200 10 2 12 6 10 (0, 0, 0, 10, 0, 0, 0, (-9), 0, (-9), 0, 39, 3, 60, 24, 2, 40, (-9), 0, (-9), 0) = (0, 0, 0, 10, 0, 0, 0, (-19), 0, (-19), 0, 69, 3, 60, 8, 12, 40, (-19), 0, (-19), 0) := eqP_s (by decide +kernel)
theorem run_0_2 : pit (-4) 0 10 99 60 200 10 2 12 6 10 (0, 0, 0, 10, 0, 0, 0, (-19), 0, (-19), 0, 69, 3, 60, 8, 12, 40, (-19), 0, (-19), 0) = (0, 0, 0, 10, 0, 0, 0, (-29), 0, (-29), 0, 99, 3, 60, (-20), 4, 40, (-29), 0, (-29), 0) := eqP_s (by decide +kernel)
theorem run_0_3 : pit (-4) 0 10 99 60 200 10 2 12 6 10 (0, 0, 0, 10, 0, 0, 0, (-29), 0, (-29), 0, 99, 3, 60, (-20), 4, 40, (-29), 0, (-29), 0) = (0, 0, 0, 10, 0, 0, 0, (-39), 0, (-39), 0, 129, 3, 60, (-18), (-10), 40, (-39), 0, (-39), 0) := eqP_s (by decide +kernel)
theorem run_0_4 : pit (-4) 0 10 99 60 200 10 2 12 6 10 (0, 0, 0, 10, 0, 0, 0, (-39), 0, (-39), 0, 129, 3, 60, (-18), (-10), 40, (-39), 0, (-39), 0) = (0, 0, 0, 10, 0, 0, 0, (-49), 0, (-49), 0, 159, 3, 60, 11, (-9), 40, (-49), 0, (-49), 0) := eqP_s (by decide +kernel)
theorem run_0_5 : pit (-4) 0 10 99 60 200 10 2 12 6 10 (0, 0, 0, 10, 0, 0, 0, (-49), 0, (-49), 0, 159, 3, 60, 11, (-9), 40, (-49), 0, (-49), 0) = (0, 0, 0, 10, 0, 0, 0, (-59), 0, (-59), 0, 189, 3, 60, 24, 6, 40, (-59), 0, (-59), 0) := eqP_s (by decide +kernel)
theorem run_0 : pit (-4) 0 10 99 60 200 10 2 12 6 60 (0, 0, 0, 10, 0, 0, 0, 1, 0, 1, 0, 10, 0, 60, 0, 0, 0, 1, 40, 1, 0) = (0, 0, 0, 10, 0, 0, 0, (-59), 0, (-59), 0, 189, 3, 60, 24, 6, 40, (-59), 0, (-59), 0) := by
  rw [show (60 : Nat) = 10 + 50 by decide, pit_add, run_0_0]
  rw [show (50 : Nat) = 10 + 40 by decide, pit_add, run_0_1]
  rw [show (40 : Nat) = 10 + 30 by decide, pit_add, run_0_2]
  rw [show (30 : Nat) = 10 + 20 by decide, pit_add, run_0_3]
  rw [show (20 : Nat) = 10 + 10 by decide, pit_add, run_0_4]
  exact run_0_5
theorem run_1_0 : pit (-4) 0 10 99 60 200 10 2 12 6 10 (0, 0, 0, 10, 0, 0, 0, (-59), 0, (-59), 0, 189, 3, 60, 24, 6, 40, (-59), 0, (-59), 0) = (7, 0, 0, 10, 0, 0, 0, (-69), 0, (-69), 0, 200, 0, 60, 0, 0, 40, (-69), 0, (-69), 0) := eqP_s (by decide +kernel)
theorem run_1_1 : pit (-4) 0 10 99 60 200 10 2 12 6 10 (7, 0, 0, 10, 0, 0, 0, (-69), 0, (-69), 0, 200, 0, 60, 0, 0, 40, (-69), 0, (-69), 0) = (17, 0, 0, 10, 0, 0, 0, (-79), 0, (-79), 0, 200, 0, 60, 0, 0, 40, (-79), 0, (-79), 0) := eqP_s (by decide +kernel)
theorem run_1_2 : pit (-4) 0 10 99 60 200 10 2 12 6 10 (17, 0, 0, 10, 0, 0, 0, (-79), 0, (-79), 0, 200, 0, 60, 0, 0, 40, (-79), 0, (-79), 0) = (27, 0, 0, 10, 0, 0, 0, (-89), 0, (-89), 0, 200, 0, 60, 0, 0, 40, (-89), 0, (-89), 0) := eqP_s (by decide +kernel)
theorem run_1_3 : pit (-4) 0 10 99 60 200 10 2 12 6 10 (27, 0, 0, 10, 0, 0, 0, (-89), 0, (-89), 0, 200, 0, 60, 0, 0, 40, (-89), 0, (-89), 0) = (37, 0, 0, 10, 0, 0, 0, (-99), 0, (-99), 0, 200, 0, 60, 0, 0, 40, (-99), 0, (-99), 0) := eqP_s (by decide +kernel)
theorem run_1_4 : pit (-4) 0 10 99 60 200 10 2 12 6 10 (37, 0, 0, 10, 0, 0, 0, (-99), 0, (-99), 0, 200, 0, 60, 0, 0, 40, (-99), 0, (-99), 0) = (47, 0, 0, 10, 0, 0, 0, (-109), 0, (-109), 0, 200, 0, 60, 0, 0, 40, (-109), 0, (-109), 0) := eqP_s (by decide +kernel)
theorem run_1_5 : pit (-4) 0 10 99 60 200 10 2 12 6 10 (47, 0, 0, 10, 0, 0, 0, (-109), 0, (-109), 0, 200, 0, 60, 0, 0, 40, (-109), 0, (-109), 0) = (57, 0, 0, 10, 0, 0, 0, (-119), 0, (-119), 0, 200, 0, 60, 0, 0, 40, (-119), 0, (-119), 0) := eqP_s (by decide +kernel)
theorem run_1 : pit (-4) 0 10 99 60 200 10 2 12 6 60 (0, 0, 0, 10, 0, 0, 0, (-59), 0, (-59), 0, 189, 3, 60, 24, 6, 40, (-59), 0, (-59), 0) = (57, 0, 0, 10, 0, 0, 0, (-119), 0, (-119), 0, 200, 0, 60, 0, 0, 40, (-119), 0, (-119), 0) := by
  rw [show (60 : Nat) = 10 + 50 by decide, pit_add, run_1_0]
  rw [show (50 : Nat) = 10 + 40 by decide, pit_add, run_1_1]
  rw [show (40 : Nat) = 10 + 30 by decide, pit_add, run_1_2]
  rw [show (30 : Nat) = 10 + 20 by decide, pit_add, run_1_3]
  rw [show (20 : Nat) = 10 + 10 by decide, pit_add, run_1_4]
  exact run_1_5
theorem run_2_0 : pit (-4) 0 10 99 60 200 10 2 12 6 10 (0, 0, 0, 10, 0, 0, 0, (-119), 0, (-119), 0, 200, 0, 60, 0, 0, 40, (-119), 0, (-119), 0) = (10, 0, 0, 10, 0, 0, 0, (-129), 0, (-129), 0, 200, 0, 60, 0, 0, 40, (-129), 0, (-129), 0) := eqP_s (by decide +kernel)
theorem run_2_1 : pit (-4) 0 10 99 60 200 10 2 12 6 10 (10, 0, 0, 10, 0, 0, 0, (-129), 0, (-129), 0, 200, 0, 60, 0, 0, 40, (-129), 0, (-129), 0) = (20, 0, 0, 10, 0, 0, 0, (-139), 0, (-139), 0, 200, 0, 60, 0, 0, 40, (-139), 0, (-139), 0) := eqP_s (by decide +kernel)
theorem run_2_2 : pit (-4) 0 10 99 60 200 10 2 12 6 10 (20, 0, 0, 10, 0, 0, 0, (-139), 0, (-139), 0, 200, 0, 60, 0, 0, 40, (-139), 0, (-139), 0) = (30, 0, 0, 10, 0, 0, 0, (-149), 0, (-149), 0, 200, 0, 60, 0, 0, 40, (-149), 0, (-149), 0) := eqP_s (by decide +kernel)
theorem run_2_3 : pit (-4) 0 10 99 60 200 10 2 12 6 10 (30, 0, 0, 10, 0, 0, 0, (-149), 0, (-149), 0, 200, 0, 60, 0, 0, 40, (-149), 0, (-149), 0) = (40, 0, 0, 10, 0, 0, 0, (-159), 0, (-159), 0, 200, 0, 60, 0, 0, 40, (-159), 0, (-159), 0) := eqP_s (by decide +kernel)
theorem run_2_4 : pit (-4) 0 10 99 60 200 10 2 12 6 10 (40, 0, 0, 10, 0, 0, 0, (-159), 0, (-159), 0, 200, 0, 60, 0, 0, 40, (-159), 0, (-159), 0) = (50, 0, 0, 10, 0, 0, 0, (-169), 0, (-169), 0, 200, 0, 60, 0, 0, 40, (-169), 0, (-169), 0) := eqP_s (by decide +kernel)
theorem run_2_5 : pit (-4) 0 10 99 60 200 10 2 12 6 10 (50, 0, 0, 10, 0, 0, 0, (-169), 0, (-169), 0, 200, 0, 60, 0, 0, 40, (-169), 0, (-169), 0) = (60, 0, 0, 10, 0, 0, 0, (-179), 0, (-179), 0, 200, 0, 60, 0, 0, 40, (-179), 0, (-179), 0) := eqP_s (by decide +kernel)
theorem run_2 : pit (-4) 0 10 99 60 200 10 2 12 6 60 (0, 0, 0, 10, 0, 0, 0, (-119), 0, (-119), 0, 200, 0, 60, 0, 0, 40, (-119), 0, (-119), 0) = (60, 0, 0, 10, 0, 0, 0, (-179), 0, (-179), 0, 200, 0, 60, 0, 0, 40, (-179), 0, (-179), 0) := by
  rw [show (60 : Nat) = 10 + 50 by decide, pit_add, run_2_0]
  rw [show (50 : Nat) = 10 + 40 by decide, pit_add, run_2_1]
  rw [show (40 : Nat) = 10 + 30 by decide, pit_add, run_2_2]
  rw [show (30 : Nat) = 10 + 20 by decide, pit_add, run_2_3]
  rw [show (20 : Nat) = 10 + 10 by decide, pit_add, run_2_4]
  exact run_2_5
