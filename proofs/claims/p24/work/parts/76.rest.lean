/-! a crane at rest: ticks that change nothing but the count -/
def SpL (t : Nat) (sm : Int32) (sf sg : Nat → Int32) : Prop := (t = 0 ∧ sm = 0) ∨ (0 < t ∧ sm = 1 ∧ sf 0 = 203 ∧ sg 0 = nI t)
theorem name203 : s_nameOf (100 / 50) (30 / 10) = 203 := by decide +kernel
theorem find_1 {sf : Nat → Int32} (h : sf 0 = 203) : s_find 1 sf 203 = nI 0 := by
  have e : ∀ n : Nat, g_find 1 sf 203 (n + 1) 0 = nI 0 := by
    intro n
    rw [g_find, if_neg (by decide +kernel), if_neg (by decide +kernel), nameAt_n (by omega), if_pos h]
  exact e 120
theorem ticks_1 {sg : Nat → Int32} : s_ticksAt 1 sg (nI 0) = sg 0 := by
  unfold s_ticksAt
  rw [if_neg (by decide +kernel), if_neg (by decide +kernel), if_neg (by decide +kernel), nI_clamp (by omega)]
theorem take_0 (a b : Int32) : s_takeSteps 0 a 0 b 0 = (0, 0, 0) := by
  unfold s_takeSteps
  rw [if_pos rfl, if_pos rfl]
theorem SpL_add {t : Nat} {sm o0 : Int32} {sf sg o1 o2 : Nat → Int32} (h : SpL t sm sf sg) (hc : s_addTick sm sf sg 100 30 = (o0, o1, o2)) : SpL (t + 1) o0 o1 o2 := by
  unfold s_addTick at hc
  rw [name203] at hc
  rcases h with ⟨h1, h2⟩ | ⟨h1, h2, h3, h4⟩
  · subst h1 h2
    have e1 : s_find 0 sf 203 = nI 0 := by
      have e : ∀ n : Nat, g_find 0 sf 203 (n + 1) 0 = nI 0 := by
        intro n
        rw [g_find, if_pos (by decide +kernel)]
        decide +kernel
      exact e 120
    have e2 : s_ticksAt 0 sg (nI 0) = 0 := by
      unfold s_ticksAt
      rw [if_neg (by decide +kernel), if_pos (by decide +kernel)]
    rw [e1, e2, put_n (by omega)] at hc
    dsimp only at hc
    rw [if_pos (by decide +kernel), if_neg (by decide +kernel)] at hc
    simp only [Prod.mk.injEq] at hc
    obtain ⟨u1, u2, u3⟩ := hc
    subst u1 u2 u3
    exact Or.inr ⟨by omega, by decide +kernel, upd_eq, by rw [upd_eq]; decide +kernel⟩
  · subst h2
    rw [find_1 h3, ticks_1, put_n (by omega), h4] at hc
    dsimp only at hc
    rw [if_neg (by decide +kernel)] at hc
    simp only [Prod.mk.injEq] at hc
    obtain ⟨u1, u2, u3⟩ := hc
    subst u1 u2 u3
    exact Or.inr ⟨by omega, rfl, upd_eq, by rw [upd_eq, nI_succ]⟩
abbrev P8 : Type := Int32 × Int32 × Int32 × Int32 × Int32 × Int32 × Int32 × Bool
def eqR : P8 → P8 → Bool
  | (a0, a1, a2, a3, a4, a5, a6, a7), (b0, b1, b2, b3, b4, b5, b6, b7) => decide (a0 = b0) && (decide (a1 = b1) && (decide (a2 = b2) && (decide (a3 = b3) && (decide (a4 = b4) && (decide (a5 = b5) && (decide (a6 = b6) && decide (a7 = b7)))))))
theorem eqR_s {a b : P8} (h : eqR a b = true) : a = b := by
  obtain ⟨a0, a1, a2, a3, a4, a5, a6, a7⟩ := a
  obtain ⟨b0, b1, b2, b3, b4, b5, b6, b7⟩ := b
  simp only [eqR, Bool.and_eq_true, decide_eq_true_eq] at h
  obtain ⟨h0, h1, h2, h3, h4, h5, h6, h7⟩ := h
  subst h0 h1 h2 h3 h4 h5 h6 h7
  rfl
theorem rest_go (a8 a10 q8 q10 : Int32) : s_pairGoOn (-4) 100 0 30 0 0 0 0 30 a8 0 a10 0 500 0 30 0 0 0 0 30 q8 0 q10 0 600 40 2 12 6 = (0, 100, 0, 30, 0, 0, 0, 0, 0, false, 500, 0, 30, 0, 0, 0, 0, 0, false) := by
  have e1 : s_roll 100 0 30 0 0 0 0 a8 0 a10 0 2 12 100 ((s_freeBetween 100 500 40) / 2) = (100, 0, 0, 0, 0, 0, 0, false) := by
    have q : s_roll 100 0 30 0 0 0 0 a8 0 a10 0 2 12 100 ((s_freeBetween 100 500 40) / 2) = s_roll 100 0 30 0 0 0 0 0 0 0 0 2 12 100 ((s_freeBetween 100 500 40) / 2) := by
      unfold s_roll
      rw [take_0, take_0]
    exact q.trans (eqR_s (by decide +kernel))
  have e2 : s_roll 500 0 30 0 0 0 0 q8 0 q10 0 2 12 ((s_freeBetween 100 500 40) / 2) (600 - 500) = (500, 0, 0, 0, 0, 0, 0, false) := by
    have q : s_roll 500 0 30 0 0 0 0 q8 0 q10 0 2 12 ((s_freeBetween 100 500 40) / 2) (600 - 500) = s_roll 500 0 30 0 0 0 0 0 0 0 0 2 12 ((s_freeBetween 100 500 40) / 2) (600 - 500) := by
      unfold s_roll
      rw [take_0, take_0]
    exact q.trans (eqR_s (by decide +kernel))
  have e3 : s_hoistRope 0 30 30 6 30 (-4) = (30, ()) := by decide +kernel
  unfold s_pairGoOn
  rw [e1]
  dsimp only
  rw [e2]
  dsimp only
  rw [e3]
  dsimp only
  rw [if_neg (by decide), if_neg (by decide), e3]
set_option maxHeartbeats 4000000 in
theorem gtick_R2 {tn : Int32} {o0 o1 o2 o3 o4 o5 o6 o7 o8 o9 o10 o11 o12 o14 o15 o16 o17 o18 o19 o20 o21 o22 o23 o25 o28 : Int32} {o13 o24 : Bool} {o26 o27 o29 o30 o31 o32 o33 o34 : Nat → Int32} {tN : Nat} (hK : tn = nI tN) (hT : tN ≤ 60) : ∀ (n j t : Nat) (br u9 wl8 wl10 wr8 wr10 wsm wzm : Int32) (wlb wrb : Bool) (wsf wsg wzf wzg v0 v1 v2 v3 : Nat → Int32), 61 ≤ j + n → j ≤ tN → SpL t wsm wsf wsg →
    g_tick (-4) 0 30 0 30 600 40 2 12 6 tn n j br u9 (nI t) 100 0 30 0 0 0 wl8 0 wl10 0 wlb 500 0 30 0 0 0 wr8 0 wr10 0 wrb wsm wsf wsg wzm wzf wzg v0 v1 v2 v3 = (o0, o1, o2, o3, o4, o5, o6, o7, o8, o9, o10, o11, o12, o13, o14, o15, o16, o17, o18, o19, o20, o21, o22, o23, o24, o25, o26, o27, o28, o29, o30, o31, o32, o33, o34) →
    o0 = br ∧ o1 = u9 ∧ o2 = nI (t + (tN - j)) ∧ (o3 = 100 ∧ o4 = 0 ∧ o5 = 30 ∧ o6 = 0 ∧ o7 = 0 ∧ o8 = 0 ∧ o10 = 0 ∧ o12 = 0) ∧ (o14 = 500 ∧ o15 = 0 ∧ o16 = 30 ∧ o17 = 0 ∧ o18 = 0 ∧ o19 = 0 ∧ o21 = 0 ∧ o23 = 0) ∧ SpL (t + (tN - j)) o25 o26 o27 ∧ o31 = v0 ∧ o32 = v1 ∧ o33 = v2 ∧ o34 = v3 := by
  intro n
  induction n with
  | zero => intro j t br u9 wl8 wl10 wr8 wr10 wsm wzm wlb wrb wsf wsg wzf wzg v0 v1 v2 v3 h1 h2; omega
  | succ n ih =>
    intro j t br u9 wl8 wl10 wr8 wr10 wsm wzm wlb wrb wsf wsg wzf wzg v0 v1 v2 v3 h1 h2 hS hc
    rw [g_tick] at hc
    by_cases c1 : tn ≤ nI j
    · have c2 : tN ≤ j := Nat.le_of_not_lt fun q => nI_ge q (by omega) (by rw [hK] at c1; exact c1)
      rw [if_pos c1] at hc
      simp only [Prod.mk.injEq] at hc
      obtain ⟨z0, z1, z2, z3, z4, z5, z6, z7, z8, z9, z10, z11, z12, z13, z14, z15, z16, z17, z18, z19, z20, z21, z22, z23, z24, z25, z26, z27, z28, z29, z30, z31, z32, z33, z34⟩ := hc
      subst z0 z1 z2 z3 z4 z5 z6 z7 z8 z9 z10 z11 z12 z13 z14 z15 z16 z17 z18 z19 z20 z21 z22 z23 z24 z25 z26 z27 z28 z29 z30 z31 z32 z33 z34
      rw [show tN - j = 0 by omega, Nat.add_zero]
      exact ⟨rfl, rfl, rfl, ⟨rfl, rfl, rfl, rfl, rfl, rfl, rfl, rfl⟩, ⟨rfl, rfl, rfl, rfl, rfl, rfl, rfl, rfl⟩, hS, rfl, rfl, rfl, rfl⟩
    · rw [if_neg c1] at hc
      have c3 : j < tN := by
        rw [hK] at c1
        exact (bLtN (by omega) (by omega)).mp (bLtN2 c1)
      unfold s_storyGoOn at hc
      rw [rest_go] at hc
      dsimp only at hc
      obtain ⟨x0, x1, x2, ex⟩ := bEx3 (s_addTick wsm wsf wsg 100 30)
      rw [ex] at hc
      dsimp only at hc
      obtain ⟨y0, y1, y2, ey⟩ := bEx3 (s_addTick wzm wzf wzg 500 30)
      rw [ey] at hc
      dsimp only at hc
      have hS2 := SpL_add hS ex
      rw [← nI_succ, Int32.add_zero] at hc
      have g := ih (j + 1) (t + 1) _ _ _ _ _ _ _ _ _ _ _ _ _ _ _ _ _ _ (by omega) (by omega) hS2 hc
      rw [show t + 1 + (tN - (j + 1)) = t + (tN - j) by omega] at g
      exact g
def Rst (t : Nat) (n : Sto) : Prop := n.1 0 = nI t ∧ n.1 1 = -4 ∧ (n.1 2 = 100 ∧ n.1 3 = 0 ∧ n.1 4 = 30 ∧ n.1 5 = 0 ∧ n.1 6 = 0 ∧ n.1 7 = 0 ∧ n.1 8 = 0 ∧ n.1 9 = 30 ∧ n.1 11 = 0 ∧ n.1 13 = 0) ∧ (n.1 14 = 500 ∧ n.1 15 = 0 ∧ n.1 16 = 30 ∧ n.1 17 = 0 ∧ n.1 18 = 0 ∧ n.1 19 = 0 ∧ n.1 20 = 0 ∧ n.1 21 = 30 ∧ n.1 23 = 0 ∧ n.1 25 = 0) ∧ SpL t (n.1 26) (n.2.2 0) (n.2.2 1)
def RW (cyC cyI : ClassId) (Q : Nat → Nat) (T : List Int32) (t : Nat) (w : va_W) : Prop := ∃ (r : Nat → Int32) (S : Nat → Sto) (u : Nat), QW cyC cyI Q r S (nI u) T w ∧ u ≤ 4 ∧ (r 0 = 600 ∧ r 1 = 40 ∧ r 2 = 2 ∧ r 3 = 12 ∧ r 4 = 6) ∧ Rst t (S 0)
set_option maxHeartbeats 4000000 in
theorem k_tick_R {l : Launch} {D : va_G} {cyC cyI : ClassId} {Q : Nat → Nat} {T : List Int32} {t : Nat} {wa : va_W} (h : RW cyC cyI Q T t wa) (tN : Nat) (h1 : 1 ≤ tN ∧ tN ≤ 60) (ht : t + tN ≤ 9999) : KI l D cyC cyI yX7_tick wsX7_tick 6 130 [.ref (Q 0), .int (nI tN)] wa 0 (RW cyC cyI Q T (t + tN)) := by
  obtain ⟨r, S, u, hQ, hu4, ⟨k0, k1, k2, k3, k4⟩, ⟨e0, e1, ⟨l0, l1, l2, l3, l4, l5, l6, l7, l9, l11⟩, ⟨q0, q1, q2, q3, q4, q5, q6, q7, q9, q11⟩, hsp⟩⟩ := h
  obtain ⟨v0, v1, v2, v3, ek⟩ := bEx4 (s_keepForUndo ((S 0).1 26) ((S 0).2.2 0) ((S 0).2.2 1) ((S 0).1 27) ((S 0).2.2 2) ((S 0).2.2 3) ((S 4).2.2 0) ((S 4).2.2 1) ((S 4).2.2 2) ((S 4).2.2 3))
  obtain ⟨o0, o1, o2, o3, o4, o5, o6, o7, o8, o9, o10, o11, o12, o13, o14, o15, o16, o17, o18, o19, o20, o21, o22, o23, o24, o25, o26, o27, o28, o29, o30, o31, o32, o33, o34, et⟩ := bEx35 (s_tick_ok (nI u) ((S 0).1 0) ((S 0).1 1) ((S 0).1 2) ((S 0).1 3) ((S 0).1 4) ((S 0).1 5) ((S 0).1 6) ((S 0).1 7) ((S 0).1 8) ((S 0).1 9) ((S 0).1 10) ((S 0).1 11) ((S 0).1 12) ((S 0).1 13) ((S 0).2.1 0) ((S 0).1 14) ((S 0).1 15) ((S 0).1 16) ((S 0).1 17) ((S 0).1 18) ((S 0).1 19) ((S 0).1 20) ((S 0).1 21) ((S 0).1 22) ((S 0).1 23) ((S 0).1 24) ((S 0).1 25) ((S 0).2.1 1) ((S 0).1 26) ((S 0).2.2 0) ((S 0).2.2 1) ((S 0).1 27) ((S 0).2.2 2) ((S 0).2.2 3) ((S 4).2.2 0) ((S 4).2.2 1) ((S 4).2.2 2) ((S 4).2.2 3) (r 0) (r 1) (r 2) (r 3) (r 4) (nI tN))
  have et2 := et
  unfold s_tick_ok at et2
  rw [ek] at et2
  dsimp only at et2
  rw [k0, k1, k2, k3, k4, e0, e1, l0, l1, l2, l3, l4, l5, l6, l7, l9, l11, q0, q1, q2, q3, q4, q5, q6, q7, q9, q11] at et2
  obtain ⟨g0, g1, g2, ⟨a0, a1, a2, a4, a5, a6, a9, a11⟩, ⟨b0, b1, b2, b4, b5, b6, b9, b11⟩, gs, g6, g7, g8, g9⟩ := gtick_R2 (tN := tN) rfl h1.2 61 0 t _ _ _ _ _ _ _ _ _ _ _ _ _ _ _ _ _ _ (by omega) (by omega) hsp et2
  subst g6 g7 g8 g9
  subst g0
  have e60 : (nI tN).toInt = tN := nIt (by omega)
  have et0 : ((S 0).1 0).toInt = t := by rw [e0, nI_toInt (by omega)]
  refine (k_tick_ok hQ (nI tN) 0 o1 o2 o3 o4 o5 o6 o7 o8 o9 o10 o11 o12 o13 o14 o15 o16 o17 o18 o19 o20 o21 o22 o23 o24 o25 o26 o27 o28 o29 o30 o31 o32 o33 o34 et (isWithin_y (by rw [show (1 : Int32).toInt = 1 by decide]; omega) (by rw [show (60 : Int32).toInt = 60 by decide]; omega)) (by rw [leI, addI (by omega) (by omega), show (9999 : Int32).toInt = 9999 by decide]; omega)).imp (fun w2 q => ?_)
  rw [g1, ud_up hu4] at q
  refine ⟨r, _, _, q, by split <;> omega, ⟨k0, k1, k2, k3, k4⟩, ⟨g2, e1, ⟨a0, a1, a2, l3, a4, a5, a6, l7, a9, a11⟩, ⟨b0, b1, b2, q3, b4, b5, b6, q7, b9, b11⟩, gs⟩⟩
theorem k_tickNo_R {l : Launch} {D : va_G} {cyC cyI : ClassId} {Q : Nat → Nat} {T : List Int32} {t : Nat} {wa : va_W} (h : RW cyC cyI Q T t wa) (tN : Nat) (h1 : 1 ≤ tN ∧ tN ≤ 60) (ht : 9999 < t + tN ∧ t ≤ 9999) : KI l D cyC cyI yX7_tick wsX7_tick 6 130 [.ref (Q 0), .int (nI tN)] wa (-2) (RW cyC cyI Q T t) := by
  obtain ⟨r, S, u, hQ, hu4, hr, hs⟩ := h
  have e60 : (nI tN).toInt = tN := nIt (by omega)
  have et0 : ((S 0).1 0).toInt = t := by rw [hs.1, nI_toInt (by omega)]
  have hw : s_isWithin (nI tN) 1 60 = true := isWithin_y (by rw [show (1 : Int32).toInt = 1 by decide]; omega) (by rw [show (60 : Int32).toInt = 60 by decide]; omega)
  exact (k_tick_no hQ (nI tN) (-2) (by unfold s_tick_no; rw [if_pos hw]) (fun _ z => by rw [leI, addI (by omega) (by omega), show (9999 : Int32).toInt = 9999 by decide] at z; omega)).imp (fun w2 q => ⟨r, S, u, q, hu4, hr, hs⟩)
theorem k_count6_R {l : Launch} {D : va_G} {cyC cyI : ClassId} {Q : Nat → Nat} {T : List Int32} {t : Nat} {wa : va_W} (h : RW cyC cyI Q T t wa) (o : Int32) (ho : nI t = o) : KI l D cyC cyI yX7_count wsX7_count 1 21 [.ref (Q 0), .int 6] wa o (RW cyC cyI Q T t) := by
  obtain ⟨r, S, u, hQ, hu4, hr, hs⟩ := h
  exact (k_count hQ 6 o (by rw [← ho, ← hs.1]; rfl)).imp (fun w2 q => ⟨r, S, u, q, hu4, hr, hs⟩)
theorem k_been_R {l : Launch} {D : va_G} {cyC cyI : ClassId} {Q : Nat → Nat} {T : List Int32} {t : Nat} {wa : va_W} (h : RW cyC cyI Q T t wa) (h0 : 0 < t) (o : Int32) (ho : nI t = o) : KI l D cyC cyI yX7_been wsX7_been 3 65 [.ref (Q 0), .int 0, .int 2, .int 3] wa o (RW cyC cyI Q T t) := by
  obtain ⟨r, S, u, hQ, hu4, hr, hs⟩ := h
  refine (k_been_0 hQ 2 3 o ?_).imp (fun w2 q => ⟨r, S, u, q, hu4, hr, hs⟩)
  obtain ⟨-, -, -, -, hsp⟩ := hs
  rcases hsp with ⟨z, -⟩ | ⟨-, z1, z2, z3⟩
  · omega
  · unfold s_been_0 s_ticksIn
    rw [if_pos (by decide), if_pos (by decide), if_pos (by decide), z1, show s_nameOf 2 3 = 203 by decide +kernel, find_1 z2, ticks_1, z3, ho]
