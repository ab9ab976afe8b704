/-! TRIES -/
theorem tick_P {w A : Nat → Int32} {r0 r1 r2 r3 r4 pv tk l0 l1 l2 l3 l4 l5 l6 l7 l8 l9 l10 l11 q0 q1 q2 q3 q4 q5 q6 q7 q8 q9 q10 q11 m0 m1 m2 m4 m5 m6 m9 m11 n0 n1 n2 n4 n5 n6 n9 n11 set ret : Int32} {mb nb : Bool} (h : PaR w r0 r1 r2 r3 r4 pv tk l0 l1 l2 l3 l4 l5 l6 l7 l8 l9 l10 l11 q0 q1 q2 q3 q4 q5 q6 q7 q8 q9 q10 q11) (e : s_goesBy8 w = (set, A)) (ea : s_pairGoOn pv l0 l1 l2 l3 l4 l5 l6 l7 l8 l9 l10 l11 q0 q1 q2 q3 q4 q5 q6 q7 q8 q9 q10 q11 r0 r1 r2 r3 r4 = (ret, m0, m1, m2, m4, m5, m6, m9, m11, mb, n0, n1, n2, n4, n5, n6, n9, n11, nb)) : PaR A r0 r1 r2 r3 r4 pv (tk + 1) m0 m1 m2 l3 m4 m5 m6 l7 (l8 - 1) m9 (l10 - 1) m11 n0 n1 n2 q3 n4 n5 n6 q7 (q8 - 1) n9 (q10 - 1) n11 ∧ set = (if mb = true then (if nb = true then 3 else 1) else (if nb = true then 2 else 0)) ∧ (∀ i, 33 ≤ i → A i = w i) := by
  obtain ⟨hru, hl, hq, hb, hlb, hqb, hx⟩ := h
  obtain ⟨t1, t2, t3, t4, t5, t6, t7, t8⟩ := tick_eq hru hl hq hb hlb hqb hx e ea
  exact ⟨⟨t1, t2, t3, hb, t4, t5, t6⟩, t7.1, t8⟩
theorem grt_eq {g x : Int32} : (if x ≤ g then g else x) = (if g < x then x else g) := by
  by_cases c : x ≤ g
  · rw [if_pos c, if_neg (by rw [ltI]; rw [leI] at c; omega)]
  · rw [if_neg c, if_pos (bLtN2 c)]
theorem quiet_eq_0 {w : Nat → Int32} {r0 r1 r2 r3 r4 pv tk l0 l1 l2 l3 l4 l5 l6 l7 l8 l9 l10 l11 q0 q1 q2 q3 q4 q5 q6 q7 q8 q9 q10 q11 : Int32} (h : PaR w r0 r1 r2 r3 r4 pv tk l0 l1 l2 l3 l4 l5 l6 l7 l8 l9 l10 l11 q0 q1 q2 q3 q4 q5 q6 q7 q8 q9 q10 q11) : s_isQuiet8_0 w = (if s_isQuiet l1 l4 l5 l6 l9 l11 = true then 1 else 0) := by
  obtain ⟨h1, ⟨a0, a1, a2, a3, a4, a5, a6, a7, ⟨a8, -⟩⟩, ⟨b0, b1, b2, b3, b4, b5, b6, b7, ⟨b8, -⟩⟩, -⟩ := h
  have e1 : w 8 = l1 := a1
  have e4 : w 11 = l4 := a4
  have e5 : w 12 = l5 := a5
  have e6 : w 13 = l6 := a6
  have e8 : w 15 = stN l9 l11 := a8
  unfold s_isQuiet8_0 s_isQuiet
  rw [e1, e4, e5, e6, e8, size_eq, size_eq]
  have es : s_stepsToCome l9 l11 = stN l9 l11 := rfl
  rw [es]
  repeat' split
  all_goals first | rfl | (exfalso; contradiction) | contradiction
set_option maxHeartbeats 4000000 in
theorem gahead_R_0 {tn what nv nl3 nl7 nr3 nr7 r0 r1 r2 r3 r4 o0 b0 : Int32} {ag nw0 N Z : Nat → Int32} {X : _} (hK : tn ≤ nI 60) (hag : ∀ i, i < 33 → ag i = nw0 i) : ∀ (n j : Nat) (gr br : Int32) (tk wl0 wl1 wl2 wl4 wl5 wl6 wl8 wl9 wl10 wl11 wr0 wr1 wr2 wr4 wr5 wr6 wr8 wr9 wr10 wr11 : Int32) (wlb wrb : Bool) (ng : Nat → Int32), 61 ≤ j + n → j ≤ 60 → PaR ng r0 r1 r2 r3 r4 nv tk wl0 wl1 wl2 nl3 wl4 wl5 wl6 nl7 wl8 wl9 wl10 wl11 wr0 wr1 wr2 nr3 wr4 wr5 wr6 nr7 wr8 wr9 wr10 wr11 → (∀ i, 33 ≤ i → ng i = nw0 i) → g_ahead_0 nv nl3 nl7 nr3 nr7 r0 r1 r2 r3 r4 tn what n j gr br wl0 wl1 wl2 wl4 wl5 wl6 wl8 wl9 wl10 wl11 wlb wr0 wr1 wr2 wr4 wr5 wr6 wr8 wr9 wr10 wr11 wrb = (o0, X) → g_ahead8_0 tn what n j ng ag gr br = (b0, N, Z) → o0 = b0 ∧ ∀ i, N i = nw0 i := by
  intro n
  induction n with
  | zero => intro j gr br tk wl0 wl1 wl2 wl4 wl5 wl6 wl8 wl9 wl10 wl11 wr0 wr1 wr2 wr4 wr5 wr6 wr8 wr9 wr10 wr11 wlb wrb ng h1 h2; omega
  | succ n ih =>
    intro j gr br tk wl0 wl1 wl2 wl4 wl5 wl6 wl8 wl9 wl10 wl11 wr0 wr1 wr2 wr4 wr5 wr6 wr8 wr9 wr10 wr11 wlb wrb ng h1 h2 hP hg hc h8
    rw [g_ahead_0] at hc
    rw [g_ahead8_0] at h8
    by_cases c1 : tn ≤ nI j
    · rw [if_pos c1] at hc h8
      obtain ⟨A, eA⟩ := bEx1 (s_comesBack8 ng ag)
      rw [eA] at h8
      dsimp only at h8
      simp only [Prod.mk.injEq] at h8
      obtain ⟨u0, u1, u2⟩ := h8
      subst u0 u1
      refine ⟨?_, fun i => ?_⟩
      · have f0 : ng 7 = wl0 := hP.2.1.1
        have f1 : ng 8 = wl1 := hP.2.1.2.1
        have f2 : ng 9 = wl2 := hP.2.1.2.2.1
        have f4 : ng 11 = wl4 := hP.2.1.2.2.2.2.1
        unfold s_answer8_0
        rw [f0, f1, f2, f4]
        by_cases w0 : what = 0
        · rw [if_pos w0] at hc ⊢; exact (Prod.mk.inj hc).1.symm
        rw [if_neg w0] at hc ⊢
        by_cases w1 : what = 1
        · rw [if_pos w1] at hc ⊢; exact (Prod.mk.inj hc).1.symm
        rw [if_neg w1] at hc ⊢
        by_cases w2 : what = 2
        · rw [if_pos w2] at hc ⊢; exact (Prod.mk.inj hc).1.symm
        rw [if_neg w2] at hc ⊢
        by_cases w3 : what = 3
        · rw [if_pos w3] at hc ⊢; exact (Prod.mk.inj hc).1.symm
        rw [if_neg w3] at hc ⊢
        by_cases w4 : what = 4
        · rw [if_pos w4] at hc ⊢; exact (Prod.mk.inj hc).1.symm
        rw [if_neg w4] at hc ⊢
        exact (Prod.mk.inj hc).1.symm
      · rcases Nat.lt_or_ge i 33 with q | q
        · rw [(cbK eA i).1 q, hag i q]
        · rw [(cbK eA i).2 q, hg i q]
    · rw [if_neg c1] at hc h8
      have c3 := bNleS (by omega) (by decide) hK c1
      obtain ⟨a0, a1, a2, a3, a4, a5, a6, a7, a8, a9, a10, a11, a12, a13, a14, a15, a16, a17, a18, ea⟩ := bEx19 (s_pairGoOn nv wl0 wl1 wl2 nl3 wl4 wl5 wl6 nl7 wl8 wl9 wl10 wl11 wr0 wr1 wr2 nr3 wr4 wr5 wr6 nr7 wr8 wr9 wr10 wr11 r0 r1 r2 r3 r4)
      rw [ea] at hc
      dsimp only at hc
      obtain ⟨set, A, e1⟩ := bEx2 (s_goesBy8 ng)
      rw [e1] at h8
      dsimp only at h8
      obtain ⟨g1, g2, g3⟩ := tick_P hP e1 ea
      have g4 : A 11 = a4 := g1.2.1.2.2.2.2.1
      rw [g4, size_eq] at h8
      have hg2 : ∀ i, 33 ≤ i → A i = nw0 i := fun i hi => (g3 i hi).trans (hg i hi)
      have hmax : ∀ (z : Int32), g_ahead8_0 tn what n (j + 1) A ag (if gr < (if 0 ≤ a4 then a4 else 0 - a4) then (if 0 ≤ a4 then a4 else 0 - a4) else gr) z = (if (if 0 ≤ a4 then a4 else 0 - a4) ≤ gr then g_ahead8_0 tn what n (j + 1) A ag gr z else g_ahead8_0 tn what n (j + 1) A ag (if 0 ≤ a4 then a4 else 0 - a4) z) := by
        intro z
        rw [← grt_eq]
        generalize (if 0 ≤ a4 then a4 else 0 - a4) = ab
        split <;> rfl
      rw [← hmax] at h8
      subst g2
      cases a9 <;> cases a18
      all_goals simp only [Bool.false_eq_true, if_true, if_false] at hc h8
      · rw [show ((0 : Int32) >>> ((0 : Int32) &&& 31)) &&& 1 = 0 by decide] at h8
        exact ih (j + 1) _ _ _ _ _ _ _ _ _ _ _ _ _ _ _ _ _ _ _ _ _ _ _ _ _ _ (by omega) (by omega) g1 hg2 hc h8
      · rw [show ((2 : Int32) >>> ((0 : Int32) &&& 31)) &&& 1 = 0 by decide] at h8
        exact ih (j + 1) _ _ _ _ _ _ _ _ _ _ _ _ _ _ _ _ _ _ _ _ _ _ _ _ _ _ (by omega) (by omega) g1 hg2 hc h8
      · rw [show ((1 : Int32) >>> ((0 : Int32) &&& 31)) &&& 1 = 1 by decide] at h8
        exact ih (j + 1) _ _ _ _ _ _ _ _ _ _ _ _ _ _ _ _ _ _ _ _ _ _ _ _ _ _ (by omega) (by omega) g1 hg2 hc h8
      · rw [show ((3 : Int32) >>> ((0 : Int32) &&& 31)) &&& 1 = 1 by decide] at h8
        exact ih (j + 1) _ _ _ _ _ _ _ _ _ _ _ _ _ _ _ _ _ _ _ _ _ _ _ _ _ _ (by omega) (by omega) g1 hg2 hc h8
set_option maxHeartbeats 4000000 in
theorem gquiet_R_0 {nv nl3 nl7 nr3 nr7 r0 r1 r2 r3 r4 o0 b0 : Int32} {ag nw0 N Z : Nat → Int32} {X : _} (hag : ∀ i, i < 33 → ag i = nw0 i) : ∀ (n j : Nat) (tk wl0 wl1 wl2 wl4 wl5 wl6 wl8 wl9 wl10 wl11 wr0 wr1 wr2 wr4 wr5 wr6 wr8 wr9 wr10 wr11 : Int32) (wlb wrb : Bool) (ng : Nat → Int32), 61 ≤ j + n → j ≤ 60 → PaR ng r0 r1 r2 r3 r4 nv tk wl0 wl1 wl2 nl3 wl4 wl5 wl6 nl7 wl8 wl9 wl10 wl11 wr0 wr1 wr2 nr3 wr4 wr5 wr6 nr7 wr8 wr9 wr10 wr11 → (∀ i, 33 ≤ i → ng i = nw0 i) → g_quiet_0 nv nl3 nl7 nr3 nr7 r0 r1 r2 r3 r4 n j wl0 wl1 wl2 wl4 wl5 wl6 wl8 wl9 wl10 wl11 wlb wr0 wr1 wr2 wr4 wr5 wr6 wr8 wr9 wr10 wr11 wrb = (o0, X) → g_quiet8_0 n j ng ag = (b0, N, Z) → o0 = b0 ∧ ∀ i, N i = nw0 i := by
  intro n
  induction n with
  | zero => intro j tk wl0 wl1 wl2 wl4 wl5 wl6 wl8 wl9 wl10 wl11 wr0 wr1 wr2 wr4 wr5 wr6 wr8 wr9 wr10 wr11 wlb wrb ng h1 h2; omega
  | succ n ih =>
    intro j tk wl0 wl1 wl2 wl4 wl5 wl6 wl8 wl9 wl10 wl11 wr0 wr1 wr2 wr4 wr5 wr6 wr8 wr9 wr10 wr11 wlb wrb ng h1 h2 hP hg hc h8
    rw [g_quiet_0] at hc
    rw [g_quiet8_0] at h8
    have hq := quiet_eq_0 hP
    obtain ⟨B, eB⟩ := bEx1 (s_comesBack8 ng ag)
    have hB : ∀ i, B i = nw0 i := fun i => by
      rcases Nat.lt_or_ge i 33 with q | q
      · rw [(cbK eB i).1 q, hag i q]
      · rw [(cbK eB i).2 q, hg i q]
    rw [eB] at h8
    dsimp only at h8
    by_cases c1 : 60 ≤ nI j
    · rw [if_pos c1] at hc h8
      have c2 : 60 ≤ j := Nat.le_of_not_lt fun q => nI_ge q (by decide) c1
      have c3 : j = 60 := by omega
      by_cases k1 : s_isQuiet wl1 wl4 wl5 wl6 wl9 wl11 = true
      · rw [if_pos k1] at hc hq
        rw [if_pos hq] at h8
        simp only [Prod.mk.injEq] at h8
        obtain ⟨u0, u1, u2⟩ := h8
        subst u0 u1 c3
        exact ⟨(Prod.mk.inj hc).1.symm, hB⟩
      · rw [if_neg k1] at hc hq
        rw [if_neg (by rw [hq]; decide)] at h8
        simp only [Prod.mk.injEq] at h8
        obtain ⟨u0, u1, u2⟩ := h8
        subst u0 u1
        exact ⟨(Prod.mk.inj hc).1.symm, hB⟩
    · rw [if_neg c1] at hc h8
      have c3 := bNle (k := 60) rfl (by omega) (by decide) c1
      by_cases k1 : s_isQuiet wl1 wl4 wl5 wl6 wl9 wl11 = true
      · rw [if_pos k1] at hc hq
        rw [if_neg (by rw [hq]; decide), if_pos hq] at h8
        simp only [Prod.mk.injEq] at h8
        obtain ⟨u0, u1, u2⟩ := h8
        subst u0 u1
        exact ⟨(Prod.mk.inj hc).1.symm, hB⟩
      · rw [if_neg k1] at hc hq
        rw [if_pos hq] at h8
        obtain ⟨a0, a1, a2, a3, a4, a5, a6, a7, a8, a9, a10, a11, a12, a13, a14, a15, a16, a17, a18, ea⟩ := bEx19 (s_pairGoOn nv wl0 wl1 wl2 nl3 wl4 wl5 wl6 nl7 wl8 wl9 wl10 wl11 wr0 wr1 wr2 nr3 wr4 wr5 wr6 nr7 wr8 wr9 wr10 wr11 r0 r1 r2 r3 r4)
        rw [ea] at hc
        dsimp only at hc
        obtain ⟨set, A, e1⟩ := bEx2 (s_goesBy8 ng)
        rw [e1] at h8
        dsimp only at h8
        obtain ⟨g1, g2, g3⟩ := tick_P hP e1 ea
        exact ih (j + 1) _ _ _ _ _ _ _ _ _ _ _ _ _ _ _ _ _ _ _ _ _ _ _ _ (by omega) (by omega) g1 (fun i hi => (g3 i hi).trans (hg i hi)) hc h8
set_option maxHeartbeats 4000000 in
theorem gswing_R_0 {nv nl3 nl7 nr3 nr7 r0 r1 r2 r3 r4 o0 b0 : Int32} {ag nw0 N Z : Nat → Int32} {X : _} (hag : ∀ i, i < 33 → ag i = nw0 i) : ∀ (n j : Nat) (gr : Int32) (tk wl0 wl1 wl2 wl4 wl5 wl6 wl8 wl9 wl10 wl11 wr0 wr1 wr2 wr4 wr5 wr6 wr8 wr9 wr10 wr11 : Int32) (wlb wrb : Bool) (ng : Nat → Int32), 62 ≤ j + n → j ≤ 61 → PaR ng r0 r1 r2 r3 r4 nv tk wl0 wl1 wl2 nl3 wl4 wl5 wl6 nl7 wl8 wl9 wl10 wl11 wr0 wr1 wr2 nr3 wr4 wr5 wr6 nr7 wr8 wr9 wr10 wr11 → (∀ i, 33 ≤ i → ng i = nw0 i) → g_swingWithPause_0 nv nl3 nl7 nr3 nr7 r0 r1 r2 r3 r4 n j gr wl0 wl1 wl2 wl4 wl5 wl6 wl8 wl9 wl10 wl11 wlb wr0 wr1 wr2 wr4 wr5 wr6 wr8 wr9 wr10 wr11 wrb = (o0, X) → g_swingsBy8_0 n j ng ag gr = (b0, N, Z) → o0 = b0 ∧ ∀ i, N i = nw0 i := by
  intro n
  induction n with
  | zero => intro j gr tk wl0 wl1 wl2 wl4 wl5 wl6 wl8 wl9 wl10 wl11 wr0 wr1 wr2 wr4 wr5 wr6 wr8 wr9 wr10 wr11 wlb wrb ng h1 h2; omega
  | succ n ih =>
    intro j gr tk wl0 wl1 wl2 wl4 wl5 wl6 wl8 wl9 wl10 wl11 wr0 wr1 wr2 wr4 wr5 wr6 wr8 wr9 wr10 wr11 wlb wrb ng h1 h2 hP hg hc h8
    rw [g_swingWithPause_0] at hc
    rw [g_swingsBy8_0] at h8
    have e60 : (60 : Int32).toInt = 60 := by decide
    have e20 : (20 : Int32).toInt = 20 := by decide
    have e21 : (21 : Int32).toInt = 21 := by decide
    by_cases c1 : 60 < nI j
    · rw [if_pos c1] at hc h8
      obtain ⟨A, eA⟩ := bEx1 (s_comesBack8 ng ag)
      rw [eA] at h8
      dsimp only at h8
      simp only [Prod.mk.injEq] at h8
      obtain ⟨u0, u1, u2⟩ := h8
      subst u0 u1
      refine ⟨(Prod.mk.inj hc).1.symm, fun i => ?_⟩
      rcases Nat.lt_or_ge i 33 with q | q
      · rw [(cbK eA i).1 q, hag i q]
      · rw [(cbK eA i).2 q, hg i q]
    · rw [if_neg c1] at hc h8
      have c3 : j ≤ 60 := by rw [ltI, e60, nIt (by omega)] at c1; omega
      obtain ⟨a0, a1, a2, a3, a4, a5, a6, a7, a8, a9, a10, a11, a12, a13, a14, a15, a16, a17, a18, ea⟩ := bEx19 (s_pairGoOn nv wl0 wl1 wl2 nl3 wl4 wl5 wl6 nl7 wl8 wl9 wl10 wl11 wr0 wr1 wr2 nr3 wr4 wr5 wr6 nr7 wr8 wr9 wr10 wr11 r0 r1 r2 r3 r4)
      rw [ea] at hc
      dsimp only at hc
      obtain ⟨set, A, e1⟩ := bEx2 (s_goesBy8 ng)
      rw [e1] at h8
      dsimp only at h8
      obtain ⟨g1, g2, g3⟩ := tick_P hP e1 ea
      have g4 : A 11 = a4 := g1.2.1.2.2.2.2.1
      have hg2 : ∀ i, 33 ≤ i → A i = nw0 i := fun i hi => (g3 i hi).trans (hg i hi)
      by_cases c2 : j ≤ 20
      · rw [if_pos (by rw [ltI, e21, nIt (by omega)]; omega)] at hc
        rw [if_pos (by rw [leI, e20, nIt (by omega)]; omega)] at h8
        exact ih (j + 1) _ _ _ _ _ _ _ _ _ _ _ _ _ _ _ _ _ _ _ _ _ _ _ _ _ (by omega) (by omega) g1 hg2 hc h8
      · rw [if_neg (by rw [ltI, e21, nIt (by omega)]; omega)] at hc
        rw [if_neg (by rw [leI, e20, nIt (by omega)]; omega), g4, size_eq] at h8
        have hmax : g_swingsBy8_0 n (j + 1) A ag (if gr < (if 0 ≤ a4 then a4 else 0 - a4) then (if 0 ≤ a4 then a4 else 0 - a4) else gr) = (if (if 0 ≤ a4 then a4 else 0 - a4) ≤ gr then g_swingsBy8_0 n (j + 1) A ag gr else g_swingsBy8_0 n (j + 1) A ag (if 0 ≤ a4 then a4 else 0 - a4)) := by
          rw [← grt_eq]
          generalize (if 0 ≤ a4 then a4 else 0 - a4) = ab
          split <;> rfl
        rw [← hmax] at h8
        exact ih (j + 1) _ _ _ _ _ _ _ _ _ _ _ _ _ _ _ _ _ _ _ _ _ _ _ _ _ (by omega) (by omega) g1 hg2 hc h8
theorem swing_R_0 {nv tk nl0 nl1 nl2 nl3 nl4 nl5 nl6 nl7 nl8 nl9 nl10 nl11 nr0 nr1 nr2 nr3 nr4 nr5 nr6 nr7 nr8 nr9 nr10 nr11 r0 r1 r2 r3 r4 w pa o0 b0 : Int32} {nlb nrb : Bool} {nw az N Z : Nat → Int32} {X : _} (hP : PaR nw r0 r1 r2 r3 r4 nv tk nl0 nl1 nl2 nl3 nl4 nl5 nl6 nl7 nl8 nl9 nl10 nl11 nr0 nr1 nr2 nr3 nr4 nr5 nr6 nr7 nr8 nr9 nr10 nr11) (hp : 0 ≤ pa.toInt ∧ pa.toInt ≤ 20) (hc : s_swingWithPause_0 nv nl0 nl1 nl2 nl3 nl4 nl5 nl6 nl7 nl8 nl9 nl10 nl11 nlb nr0 nr1 nr2 nr3 nr4 nr5 nr6 nr7 nr8 nr9 nr10 nr11 nrb r0 r1 r2 r3 r4 w pa = (o0, X)) (h8 : s_swingsBy8_0 nw az w pa = (b0, N, Z)) : o0 = b0 ∧ N = nw := by
  unfold s_swingWithPause_0 at hc
  unfold s_swingsBy8_0 at h8
  obtain ⟨B, eB⟩ := bEx1 (s_laysAside8 nw az)
  rw [eB] at h8
  dsimp only at h8
  obtain ⟨c0, C, eC⟩ := bEx2 (s_commands8p_0 nw w pa)
  rw [eC] at h8
  dsimp only at h8
  obtain ⟨d0, d1, d2, d3, d4, d5, d6, d7, d8, ed⟩ := bEx9 (s_tellByHalves nv nl2 nl6 nl8 nl9 nl10 nl11 nr2 nr6 nr8 nr9 nr10 nr11 0 w pa)
  rw [ed] at hc
  dsimp only at hc
  obtain ⟨g1, g2, g3⟩ := tell_p_0 hP hp eC ed
  obtain ⟨e1, e2⟩ := gswing_R_0 (laK eB) 61 1 0 _ _ _ _ _ _ _ _ _ _ _ _ _ _ _ _ _ _ _ _ _ _ _ C (by omega) (by omega) g2 (fun i hi => g3 i hi) hc h8
  exact ⟨e1, funext e2⟩
set_option maxHeartbeats 4000000 in
theorem gbest_R_0 {nv tk nl0 nl1 nl2 nl3 nl4 nl5 nl6 nl7 nl8 nl9 nl10 nl11 nr0 nr1 nr2 nr3 nr4 nr5 nr6 nr7 nr8 nr9 nr10 nr11 r0 r1 r2 r3 r4 w what o0 b0 : Int32} {nlb nrb : Bool} {nw N Z : Nat → Int32} {X : _} (hP : PaR nw r0 r1 r2 r3 r4 nv tk nl0 nl1 nl2 nl3 nl4 nl5 nl6 nl7 nl8 nl9 nl10 nl11 nr0 nr1 nr2 nr3 nr4 nr5 nr6 nr7 nr8 nr9 nr10 nr11) : ∀ (n j : Nat) (bp lst wl0 wl1 wl2 wl4 wl5 wl6 wl8 wl9 wl10 wl11 wr0 wr1 wr2 wr4 wr5 wr6 wr8 wr9 wr10 wr11 : Int32) (wlb wrb : Bool) (ag : Nat → Int32), 22 ≤ j + n → 1 ≤ j → j ≤ 21 → g_best_0 nv nl0 nl1 nl2 nl3 nl4 nl5 nl6 nl7 nl8 nl9 nl10 nl11 nlb nr0 nr1 nr2 nr3 nr4 nr5 nr6 nr7 nr8 nr9 nr10 nr11 nrb r0 r1 r2 r3 r4 w what n j bp lst wl0 wl1 wl2 wl4 wl5 wl6 wl8 wl9 wl10 wl11 wlb wr0 wr1 wr2 wr4 wr5 wr6 wr8 wr9 wr10 wr11 wrb = (o0, X) → g_best8_0 w what n j nw ag bp lst = (b0, N, Z) → o0 = b0 ∧ N = nw := by
  intro n
  induction n with
  | zero => intro j bp lst wl0 wl1 wl2 wl4 wl5 wl6 wl8 wl9 wl10 wl11 wr0 wr1 wr2 wr4 wr5 wr6 wr8 wr9 wr10 wr11 wlb wrb ag h1 h2 h3; omega
  | succ n ih =>
    intro j bp lst wl0 wl1 wl2 wl4 wl5 wl6 wl8 wl9 wl10 wl11 wr0 wr1 wr2 wr4 wr5 wr6 wr8 wr9 wr10 wr11 wlb wrb ag h1 h2 h3 hc h8
    rw [g_best_0] at hc
    rw [g_best8_0] at h8
    by_cases c1 : 20 < nI j
    · rw [if_pos c1] at hc h8
      by_cases w0 : what = 0
      · rw [if_pos w0] at hc h8
        simp only [Prod.mk.injEq] at h8
        obtain ⟨u0, u1, u2⟩ := h8
        exact ⟨(Prod.mk.inj hc).1.symm.trans u0, u1.symm⟩
      · rw [if_neg w0] at hc h8
        simp only [Prod.mk.injEq] at h8
        obtain ⟨u0, u1, u2⟩ := h8
        exact ⟨(Prod.mk.inj hc).1.symm.trans u0, u1.symm⟩
    · rw [if_neg c1] at hc h8
      have c3 : j ≤ 20 := by rw [ltI, show (20 : Int32).toInt = 20 by decide, nIt (by omega)] at c1; omega
      obtain ⟨a0, a1, a2, a3, a4, a5, a6, a7, a8, a9, a10, a11, a12, a13, a14, a15, a16, a17, a18, a19, a20, a21, a22, ea⟩ := bEx23 (s_swingWithPause_0 nv nl0 nl1 nl2 nl3 nl4 nl5 nl6 nl7 nl8 nl9 nl10 nl11 nlb nr0 nr1 nr2 nr3 nr4 nr5 nr6 nr7 nr8 nr9 nr10 nr11 nrb r0 r1 r2 r3 r4 w (nI j))
      rw [ea] at hc
      dsimp only at hc
      obtain ⟨x0, x1, x2, ex⟩ := bEx3 (s_swingsBy8_0 nw ag w (nI j))
      rw [ex] at h8
      dsimp only at h8
      obtain ⟨g1, g2⟩ := swing_R_0 hP (by rw [nIt (by omega)]; omega) ea ex
      subst g1 g2
      by_cases c4 : lst ≤ a0
      · rw [if_pos c4] at hc h8
        exact ih (j + 1) _ _ _ _ _ _ _ _ _ _ _ _ _ _ _ _ _ _ _ _ _ _ _ _ _ (by omega) (by omega) (by omega) hc h8
      · rw [if_neg c4] at hc h8
        exact ih (j + 1) _ _ _ _ _ _ _ _ _ _ _ _ _ _ _ _ _ _ _ _ _ _ _ _ _ (by omega) (by omega) (by omega) hc h8
theorem best_R_0 {nv tk nl0 nl1 nl2 nl3 nl4 nl5 nl6 nl7 nl8 nl9 nl10 nl11 nr0 nr1 nr2 nr3 nr4 nr5 nr6 nr7 nr8 nr9 nr10 nr11 r0 r1 r2 r3 r4 w what o0 b0 tv tl0 tl1 tl2 tl3 tl4 tl5 tl6 tl7 tl8 tl9 tl10 tl11 tr0 tr1 tr2 tr3 tr4 tr5 tr6 tr7 tr8 tr9 tr10 tr11 : Int32} {nlb nrb tlb trb : Bool} {nw az N Z : Nat → Int32} {X : _} (hP : PaR nw r0 r1 r2 r3 r4 nv tk nl0 nl1 nl2 nl3 nl4 nl5 nl6 nl7 nl8 nl9 nl10 nl11 nr0 nr1 nr2 nr3 nr4 nr5 nr6 nr7 nr8 nr9 nr10 nr11) (hc : s_best_0 nv nl0 nl1 nl2 nl3 nl4 nl5 nl6 nl7 nl8 nl9 nl10 nl11 nlb nr0 nr1 nr2 nr3 nr4 nr5 nr6 nr7 nr8 nr9 nr10 nr11 nrb r0 r1 r2 r3 r4 tv tl0 tl1 tl2 tl3 tl4 tl5 tl6 tl7 tl8 tl9 tl10 tl11 tlb tr0 tr1 tr2 tr3 tr4 tr5 tr6 tr7 tr8 tr9 tr10 tr11 trb w what = (o0, X)) (h8 : s_best8_0 nw az w what = (b0, N, Z)) : o0 = b0 ∧ N = nw := by
  unfold s_best_0 at hc
  unfold s_best8_0 at h8
  rw [isCrane8_eq, in8_eq, in8_eq] at h8
  unfold s_isSpeed at hc
  by_cases k0 : s_isCrane 0 = true
  · rw [if_pos k0] at hc h8
    by_cases k1 : s_isWithin w (-40) 40 = true
    · rw [if_pos k1] at hc h8
      by_cases k2 : s_isWithin what 0 1 = true
      · rw [if_pos k2] at hc h8
        obtain ⟨a0, a1, a2, a3, a4, a5, a6, a7, a8, a9, a10, a11, a12, a13, a14, a15, a16, a17, a18, a19, a20, a21, a22, ea⟩ := bEx23 (s_swingWithPause_0 nv nl0 nl1 nl2 nl3 nl4 nl5 nl6 nl7 nl8 nl9 nl10 nl11 nlb nr0 nr1 nr2 nr3 nr4 nr5 nr6 nr7 nr8 nr9 nr10 nr11 nrb r0 r1 r2 r3 r4 w 0)
        rw [ea] at hc
        dsimp only at hc
        obtain ⟨x0, x1, x2, ex⟩ := bEx3 (s_swingsBy8_0 nw az w 0)
        rw [ex] at h8
        dsimp only at h8
        obtain ⟨g1, g2⟩ := swing_R_0 hP (by decide) ea ex
        subst g1 g2
        exact gbest_R_0 hP 21 1 _ _ _ _ _ _ _ _ _ _ _ _ _ _ _ _ _ _ _ _ _ _ _ _ _ (by omega) (by omega) (by omega) hc h8
      · rw [if_neg k2] at hc h8
        simp only [Prod.mk.injEq] at h8
        exact ⟨(Prod.mk.inj hc).1.symm.trans h8.1, h8.2.1.symm⟩
    · rw [if_neg k1] at hc h8
      simp only [Prod.mk.injEq] at h8
      exact ⟨(Prod.mk.inj hc).1.symm.trans h8.1, h8.2.1.symm⟩
  · rw [if_neg k0] at hc h8
    simp only [Prod.mk.injEq] at h8
    exact ⟨(Prod.mk.inj hc).1.symm.trans h8.1, h8.2.1.symm⟩
theorem ahead_R_0 {nv tk nl0 nl1 nl2 nl3 nl4 nl5 nl6 nl7 nl8 nl9 nl10 nl11 nr0 nr1 nr2 nr3 nr4 nr5 nr6 nr7 nr8 nr9 nr10 nr11 r0 r1 r2 r3 r4 tn what o0 b0 tv tl0 tl1 tl2 tl3 tl4 tl5 tl6 tl7 tl8 tl9 tl10 tl11 tr0 tr1 tr2 tr3 tr4 tr5 tr6 tr7 tr8 tr9 tr10 tr11 : Int32} {nlb nrb tlb trb : Bool} {nw az N Z : Nat → Int32} {X : _} (hP : PaR nw r0 r1 r2 r3 r4 nv tk nl0 nl1 nl2 nl3 nl4 nl5 nl6 nl7 nl8 nl9 nl10 nl11 nr0 nr1 nr2 nr3 nr4 nr5 nr6 nr7 nr8 nr9 nr10 nr11) (hc : s_ahead_0 nv nl0 nl1 nl2 nl3 nl4 nl5 nl6 nl7 nl8 nl9 nl10 nl11 nlb nr0 nr1 nr2 nr3 nr4 nr5 nr6 nr7 nr8 nr9 nr10 nr11 nrb r0 r1 r2 r3 r4 tv tl0 tl1 tl2 tl3 tl4 tl5 tl6 tl7 tl8 tl9 tl10 tl11 tlb tr0 tr1 tr2 tr3 tr4 tr5 tr6 tr7 tr8 tr9 tr10 tr11 trb tn what = (o0, X)) (h8 : s_ahead8_0 nw az tn what = (b0, N, Z)) : o0 = b0 ∧ N = nw := by
  unfold s_ahead_0 at hc
  unfold s_ahead8_0 at h8
  rw [isCrane8_eq, in8_eq, in8_eq] at h8
  by_cases k1 : s_isWithin tn 1 60 = true
  · rw [if_pos k1] at hc h8
    by_cases k0 : s_isCrane 0 = true
    · rw [if_pos k0] at hc h8
      by_cases k2 : s_isWithin what 0 5 = true
      · rw [if_pos k2] at hc h8
        obtain ⟨B, eB⟩ := bEx1 (s_laysAside8 nw az)
        rw [eB] at h8
        dsimp only at h8
        have hK : tn ≤ nI 60 := by rw [← in8_eq] at k1; exact (in8_iff.mp k1).2
        obtain ⟨e1, e2⟩ := gahead_R_0 hK (laK eB) 61 0 0 0 _ _ _ _ _ _ _ _ _ _ _ _ _ _ _ _ _ _ _ _ _ _ _ nw (by omega) (by omega) hP (fun i _ => rfl) hc h8
        exact ⟨e1, funext e2⟩
      · rw [if_neg k2] at hc h8
        simp only [Prod.mk.injEq] at h8
        exact ⟨(Prod.mk.inj hc).1.symm.trans h8.1, h8.2.1.symm⟩
    · rw [if_neg k0] at hc h8
      simp only [Prod.mk.injEq] at h8
      exact ⟨(Prod.mk.inj hc).1.symm.trans h8.1, h8.2.1.symm⟩
  · rw [if_neg k1] at hc h8
    simp only [Prod.mk.injEq] at h8
    exact ⟨(Prod.mk.inj hc).1.symm.trans h8.1, h8.2.1.symm⟩
theorem quiet_R_0 {nv tk nl0 nl1 nl2 nl3 nl4 nl5 nl6 nl7 nl8 nl9 nl10 nl11 nr0 nr1 nr2 nr3 nr4 nr5 nr6 nr7 nr8 nr9 nr10 nr11 r0 r1 r2 r3 r4 o0 b0 tv tl0 tl1 tl2 tl3 tl4 tl5 tl6 tl7 tl8 tl9 tl10 tl11 tr0 tr1 tr2 tr3 tr4 tr5 tr6 tr7 tr8 tr9 tr10 tr11 : Int32} {nlb nrb tlb trb : Bool} {nw az N Z : Nat → Int32} {X : _} (hP : PaR nw r0 r1 r2 r3 r4 nv tk nl0 nl1 nl2 nl3 nl4 nl5 nl6 nl7 nl8 nl9 nl10 nl11 nr0 nr1 nr2 nr3 nr4 nr5 nr6 nr7 nr8 nr9 nr10 nr11) (hc : s_quiet_0 nv nl0 nl1 nl2 nl3 nl4 nl5 nl6 nl7 nl8 nl9 nl10 nl11 nlb nr0 nr1 nr2 nr3 nr4 nr5 nr6 nr7 nr8 nr9 nr10 nr11 nrb r0 r1 r2 r3 r4 tv tl0 tl1 tl2 tl3 tl4 tl5 tl6 tl7 tl8 tl9 tl10 tl11 tlb tr0 tr1 tr2 tr3 tr4 tr5 tr6 tr7 tr8 tr9 tr10 tr11 trb = (o0, X)) (h8 : s_quiet8_0 nw az = (b0, N, Z)) : o0 = b0 ∧ N = nw := by
  unfold s_quiet_0 at hc
  unfold s_quiet8_0 at h8
  rw [isCrane8_eq] at h8
  by_cases k0 : s_isCrane 0 = true
  · rw [if_pos k0] at hc h8
    obtain ⟨B, eB⟩ := bEx1 (s_laysAside8 nw az)
    rw [eB] at h8
    dsimp only at h8
    obtain ⟨c0, C, eC⟩ := bEx2 (s_commands8n_0 nw 0)
    rw [eC] at h8
    dsimp only at h8
    obtain ⟨d0, d1, d2, d3, d4, d5, d6, d7, d8, ed⟩ := bEx9 (s_tellAtOnce nv nl6 nl8 nl9 nl10 nl11 nr6 nr8 nr9 nr10 nr11 0 0)
    rw [ed] at hc
    dsimp only at hc
    obtain ⟨g1, g2, g3⟩ := tell_n_0 hP eC ed
    obtain ⟨e1, e2⟩ := gquiet_R_0 (laK eB) 61 0 _ _ _ _ _ _ _ _ _ _ _ _ _ _ _ _ _ _ _ _ _ _ _ C (by omega) (by omega) g2 (fun i hi => g3 i hi) hc h8
    exact ⟨e1, funext e2⟩
  · rw [if_neg k0] at hc h8
    simp only [Prod.mk.injEq] at h8
    exact ⟨(Prod.mk.inj hc).1.symm.trans h8.1, h8.2.1.symm⟩
theorem quiet_eq_1 {w : Nat → Int32} {r0 r1 r2 r3 r4 pv tk l0 l1 l2 l3 l4 l5 l6 l7 l8 l9 l10 l11 q0 q1 q2 q3 q4 q5 q6 q7 q8 q9 q10 q11 : Int32} (h : PaR w r0 r1 r2 r3 r4 pv tk l0 l1 l2 l3 l4 l5 l6 l7 l8 l9 l10 l11 q0 q1 q2 q3 q4 q5 q6 q7 q8 q9 q10 q11) : s_isQuiet8_1 w = (if s_isQuiet q1 q4 q5 q6 q9 q11 = true then 1 else 0) := by
  obtain ⟨h1, ⟨a0, a1, a2, a3, a4, a5, a6, a7, ⟨a8, -⟩⟩, ⟨b0, b1, b2, b3, b4, b5, b6, b7, ⟨b8, -⟩⟩, -⟩ := h
  have e1 : w 21 = q1 := b1
  have e4 : w 24 = q4 := b4
  have e5 : w 25 = q5 := b5
  have e6 : w 26 = q6 := b6
  have e8 : w 28 = stN q9 q11 := b8
  unfold s_isQuiet8_1 s_isQuiet
  rw [e1, e4, e5, e6, e8, size_eq, size_eq]
  have es : s_stepsToCome q9 q11 = stN q9 q11 := rfl
  rw [es]
  repeat' split
  all_goals first | rfl | (exfalso; contradiction) | contradiction
set_option maxHeartbeats 4000000 in
theorem gahead_R_1 {tn what nv nl3 nl7 nr3 nr7 r0 r1 r2 r3 r4 o0 b0 : Int32} {ag nw0 N Z : Nat → Int32} {X : _} (hK : tn ≤ nI 60) (hag : ∀ i, i < 33 → ag i = nw0 i) : ∀ (n j : Nat) (gr br : Int32) (tk wl0 wl1 wl2 wl4 wl5 wl6 wl8 wl9 wl10 wl11 wr0 wr1 wr2 wr4 wr5 wr6 wr8 wr9 wr10 wr11 : Int32) (wlb wrb : Bool) (ng : Nat → Int32), 61 ≤ j + n → j ≤ 60 → PaR ng r0 r1 r2 r3 r4 nv tk wl0 wl1 wl2 nl3 wl4 wl5 wl6 nl7 wl8 wl9 wl10 wl11 wr0 wr1 wr2 nr3 wr4 wr5 wr6 nr7 wr8 wr9 wr10 wr11 → (∀ i, 33 ≤ i → ng i = nw0 i) → g_ahead_1 nv nl3 nl7 nr3 nr7 r0 r1 r2 r3 r4 tn what n j gr br wl0 wl1 wl2 wl4 wl5 wl6 wl8 wl9 wl10 wl11 wlb wr0 wr1 wr2 wr4 wr5 wr6 wr8 wr9 wr10 wr11 wrb = (o0, X) → g_ahead8_1 tn what n j ng ag gr br = (b0, N, Z) → o0 = b0 ∧ ∀ i, N i = nw0 i := by
  intro n
  induction n with
  | zero => intro j gr br tk wl0 wl1 wl2 wl4 wl5 wl6 wl8 wl9 wl10 wl11 wr0 wr1 wr2 wr4 wr5 wr6 wr8 wr9 wr10 wr11 wlb wrb ng h1 h2; omega
  | succ n ih =>
    intro j gr br tk wl0 wl1 wl2 wl4 wl5 wl6 wl8 wl9 wl10 wl11 wr0 wr1 wr2 wr4 wr5 wr6 wr8 wr9 wr10 wr11 wlb wrb ng h1 h2 hP hg hc h8
    rw [g_ahead_1] at hc
    rw [g_ahead8_1] at h8
    by_cases c1 : tn ≤ nI j
    · rw [if_pos c1] at hc h8
      obtain ⟨A, eA⟩ := bEx1 (s_comesBack8 ng ag)
      rw [eA] at h8
      dsimp only at h8
      simp only [Prod.mk.injEq] at h8
      obtain ⟨u0, u1, u2⟩ := h8
      subst u0 u1
      refine ⟨?_, fun i => ?_⟩
      · have f0 : ng 20 = wr0 := hP.2.2.1.1
        have f1 : ng 21 = wr1 := hP.2.2.1.2.1
        have f2 : ng 22 = wr2 := hP.2.2.1.2.2.1
        have f4 : ng 24 = wr4 := hP.2.2.1.2.2.2.2.1
        unfold s_answer8_1
        rw [f0, f1, f2, f4]
        by_cases w0 : what = 0
        · rw [if_pos w0] at hc ⊢; exact (Prod.mk.inj hc).1.symm
        rw [if_neg w0] at hc ⊢
        by_cases w1 : what = 1
        · rw [if_pos w1] at hc ⊢; exact (Prod.mk.inj hc).1.symm
        rw [if_neg w1] at hc ⊢
        by_cases w2 : what = 2
        · rw [if_pos w2] at hc ⊢; exact (Prod.mk.inj hc).1.symm
        rw [if_neg w2] at hc ⊢
        by_cases w3 : what = 3
        · rw [if_pos w3] at hc ⊢; exact (Prod.mk.inj hc).1.symm
        rw [if_neg w3] at hc ⊢
        by_cases w4 : what = 4
        · rw [if_pos w4] at hc ⊢; exact (Prod.mk.inj hc).1.symm
        rw [if_neg w4] at hc ⊢
        exact (Prod.mk.inj hc).1.symm
      · rcases Nat.lt_or_ge i 33 with q | q
        · rw [(cbK eA i).1 q, hag i q]
        · rw [(cbK eA i).2 q, hg i q]
    · rw [if_neg c1] at hc h8
      have c3 := bNleS (by omega) (by decide) hK c1
      obtain ⟨a0, a1, a2, a3, a4, a5, a6, a7, a8, a9, a10, a11, a12, a13, a14, a15, a16, a17, a18, ea⟩ := bEx19 (s_pairGoOn nv wl0 wl1 wl2 nl3 wl4 wl5 wl6 nl7 wl8 wl9 wl10 wl11 wr0 wr1 wr2 nr3 wr4 wr5 wr6 nr7 wr8 wr9 wr10 wr11 r0 r1 r2 r3 r4)
      rw [ea] at hc
      dsimp only at hc
      obtain ⟨set, A, e1⟩ := bEx2 (s_goesBy8 ng)
      rw [e1] at h8
      dsimp only at h8
      obtain ⟨g1, g2, g3⟩ := tick_P hP e1 ea
      have g4 : A 24 = a13 := g1.2.2.1.2.2.2.2.1
      rw [g4, size_eq] at h8
      have hg2 : ∀ i, 33 ≤ i → A i = nw0 i := fun i hi => (g3 i hi).trans (hg i hi)
      have hmax : ∀ (z : Int32), g_ahead8_1 tn what n (j + 1) A ag (if gr < (if 0 ≤ a13 then a13 else 0 - a13) then (if 0 ≤ a13 then a13 else 0 - a13) else gr) z = (if (if 0 ≤ a13 then a13 else 0 - a13) ≤ gr then g_ahead8_1 tn what n (j + 1) A ag gr z else g_ahead8_1 tn what n (j + 1) A ag (if 0 ≤ a13 then a13 else 0 - a13) z) := by
        intro z
        rw [← grt_eq]
        generalize (if 0 ≤ a13 then a13 else 0 - a13) = ab
        split <;> rfl
      rw [← hmax] at h8
      subst g2
      cases a9 <;> cases a18
      all_goals simp only [Bool.false_eq_true, if_true, if_false] at hc h8
      · rw [show ((0 : Int32) >>> ((1 : Int32) &&& 31)) &&& 1 = 0 by decide] at h8
        exact ih (j + 1) _ _ _ _ _ _ _ _ _ _ _ _ _ _ _ _ _ _ _ _ _ _ _ _ _ _ (by omega) (by omega) g1 hg2 hc h8
      · rw [show ((2 : Int32) >>> ((1 : Int32) &&& 31)) &&& 1 = 1 by decide] at h8
        exact ih (j + 1) _ _ _ _ _ _ _ _ _ _ _ _ _ _ _ _ _ _ _ _ _ _ _ _ _ _ (by omega) (by omega) g1 hg2 hc h8
      · rw [show ((1 : Int32) >>> ((1 : Int32) &&& 31)) &&& 1 = 0 by decide] at h8
        exact ih (j + 1) _ _ _ _ _ _ _ _ _ _ _ _ _ _ _ _ _ _ _ _ _ _ _ _ _ _ (by omega) (by omega) g1 hg2 hc h8
      · rw [show ((3 : Int32) >>> ((1 : Int32) &&& 31)) &&& 1 = 1 by decide] at h8
        exact ih (j + 1) _ _ _ _ _ _ _ _ _ _ _ _ _ _ _ _ _ _ _ _ _ _ _ _ _ _ (by omega) (by omega) g1 hg2 hc h8
set_option maxHeartbeats 4000000 in
theorem gquiet_R_1 {nv nl3 nl7 nr3 nr7 r0 r1 r2 r3 r4 o0 b0 : Int32} {ag nw0 N Z : Nat → Int32} {X : _} (hag : ∀ i, i < 33 → ag i = nw0 i) : ∀ (n j : Nat) (tk wl0 wl1 wl2 wl4 wl5 wl6 wl8 wl9 wl10 wl11 wr0 wr1 wr2 wr4 wr5 wr6 wr8 wr9 wr10 wr11 : Int32) (wlb wrb : Bool) (ng : Nat → Int32), 61 ≤ j + n → j ≤ 60 → PaR ng r0 r1 r2 r3 r4 nv tk wl0 wl1 wl2 nl3 wl4 wl5 wl6 nl7 wl8 wl9 wl10 wl11 wr0 wr1 wr2 nr3 wr4 wr5 wr6 nr7 wr8 wr9 wr10 wr11 → (∀ i, 33 ≤ i → ng i = nw0 i) → g_quiet_1 nv nl3 nl7 nr3 nr7 r0 r1 r2 r3 r4 n j wl0 wl1 wl2 wl4 wl5 wl6 wl8 wl9 wl10 wl11 wlb wr0 wr1 wr2 wr4 wr5 wr6 wr8 wr9 wr10 wr11 wrb = (o0, X) → g_quiet8_1 n j ng ag = (b0, N, Z) → o0 = b0 ∧ ∀ i, N i = nw0 i := by
  intro n
  induction n with
  | zero => intro j tk wl0 wl1 wl2 wl4 wl5 wl6 wl8 wl9 wl10 wl11 wr0 wr1 wr2 wr4 wr5 wr6 wr8 wr9 wr10 wr11 wlb wrb ng h1 h2; omega
  | succ n ih =>
    intro j tk wl0 wl1 wl2 wl4 wl5 wl6 wl8 wl9 wl10 wl11 wr0 wr1 wr2 wr4 wr5 wr6 wr8 wr9 wr10 wr11 wlb wrb ng h1 h2 hP hg hc h8
    rw [g_quiet_1] at hc
    rw [g_quiet8_1] at h8
    have hq := quiet_eq_1 hP
    obtain ⟨B, eB⟩ := bEx1 (s_comesBack8 ng ag)
    have hB : ∀ i, B i = nw0 i := fun i => by
      rcases Nat.lt_or_ge i 33 with q | q
      · rw [(cbK eB i).1 q, hag i q]
      · rw [(cbK eB i).2 q, hg i q]
    rw [eB] at h8
    dsimp only at h8
    by_cases c1 : 60 ≤ nI j
    · rw [if_pos c1] at hc h8
      have c2 : 60 ≤ j := Nat.le_of_not_lt fun q => nI_ge q (by decide) c1
      have c3 : j = 60 := by omega
      by_cases k1 : s_isQuiet wr1 wr4 wr5 wr6 wr9 wr11 = true
      · rw [if_pos k1] at hc hq
        rw [if_pos hq] at h8
        simp only [Prod.mk.injEq] at h8
        obtain ⟨u0, u1, u2⟩ := h8
        subst u0 u1 c3
        exact ⟨(Prod.mk.inj hc).1.symm, hB⟩
      · rw [if_neg k1] at hc hq
        rw [if_neg (by rw [hq]; decide)] at h8
        simp only [Prod.mk.injEq] at h8
        obtain ⟨u0, u1, u2⟩ := h8
        subst u0 u1
        exact ⟨(Prod.mk.inj hc).1.symm, hB⟩
    · rw [if_neg c1] at hc h8
      have c3 := bNle (k := 60) rfl (by omega) (by decide) c1
      by_cases k1 : s_isQuiet wr1 wr4 wr5 wr6 wr9 wr11 = true
      · rw [if_pos k1] at hc hq
        rw [if_neg (by rw [hq]; decide), if_pos hq] at h8
        simp only [Prod.mk.injEq] at h8
        obtain ⟨u0, u1, u2⟩ := h8
        subst u0 u1
        exact ⟨(Prod.mk.inj hc).1.symm, hB⟩
      · rw [if_neg k1] at hc hq
        rw [if_pos hq] at h8
        obtain ⟨a0, a1, a2, a3, a4, a5, a6, a7, a8, a9, a10, a11, a12, a13, a14, a15, a16, a17, a18, ea⟩ := bEx19 (s_pairGoOn nv wl0 wl1 wl2 nl3 wl4 wl5 wl6 nl7 wl8 wl9 wl10 wl11 wr0 wr1 wr2 nr3 wr4 wr5 wr6 nr7 wr8 wr9 wr10 wr11 r0 r1 r2 r3 r4)
        rw [ea] at hc
        dsimp only at hc
        obtain ⟨set, A, e1⟩ := bEx2 (s_goesBy8 ng)
        rw [e1] at h8
        dsimp only at h8
        obtain ⟨g1, g2, g3⟩ := tick_P hP e1 ea
        exact ih (j + 1) _ _ _ _ _ _ _ _ _ _ _ _ _ _ _ _ _ _ _ _ _ _ _ _ (by omega) (by omega) g1 (fun i hi => (g3 i hi).trans (hg i hi)) hc h8
set_option maxHeartbeats 4000000 in
theorem gswing_R_1 {nv nl3 nl7 nr3 nr7 r0 r1 r2 r3 r4 o0 b0 : Int32} {ag nw0 N Z : Nat → Int32} {X : _} (hag : ∀ i, i < 33 → ag i = nw0 i) : ∀ (n j : Nat) (gr : Int32) (tk wl0 wl1 wl2 wl4 wl5 wl6 wl8 wl9 wl10 wl11 wr0 wr1 wr2 wr4 wr5 wr6 wr8 wr9 wr10 wr11 : Int32) (wlb wrb : Bool) (ng : Nat → Int32), 62 ≤ j + n → j ≤ 61 → PaR ng r0 r1 r2 r3 r4 nv tk wl0 wl1 wl2 nl3 wl4 wl5 wl6 nl7 wl8 wl9 wl10 wl11 wr0 wr1 wr2 nr3 wr4 wr5 wr6 nr7 wr8 wr9 wr10 wr11 → (∀ i, 33 ≤ i → ng i = nw0 i) → g_swingWithPause_1 nv nl3 nl7 nr3 nr7 r0 r1 r2 r3 r4 n j gr wl0 wl1 wl2 wl4 wl5 wl6 wl8 wl9 wl10 wl11 wlb wr0 wr1 wr2 wr4 wr5 wr6 wr8 wr9 wr10 wr11 wrb = (o0, X) → g_swingsBy8_1 n j ng ag gr = (b0, N, Z) → o0 = b0 ∧ ∀ i, N i = nw0 i := by
  intro n
  induction n with
  | zero => intro j gr tk wl0 wl1 wl2 wl4 wl5 wl6 wl8 wl9 wl10 wl11 wr0 wr1 wr2 wr4 wr5 wr6 wr8 wr9 wr10 wr11 wlb wrb ng h1 h2; omega
  | succ n ih =>
    intro j gr tk wl0 wl1 wl2 wl4 wl5 wl6 wl8 wl9 wl10 wl11 wr0 wr1 wr2 wr4 wr5 wr6 wr8 wr9 wr10 wr11 wlb wrb ng h1 h2 hP hg hc h8
    rw [g_swingWithPause_1] at hc
    rw [g_swingsBy8_1] at h8
    have e60 : (60 : Int32).toInt = 60 := by decide
    have e20 : (20 : Int32).toInt = 20 := by decide
    have e21 : (21 : Int32).toInt = 21 := by decide
    by_cases c1 : 60 < nI j
    · rw [if_pos c1] at hc h8
      obtain ⟨A, eA⟩ := bEx1 (s_comesBack8 ng ag)
      rw [eA] at h8
      dsimp only at h8
      simp only [Prod.mk.injEq] at h8
      obtain ⟨u0, u1, u2⟩ := h8
      subst u0 u1
      refine ⟨(Prod.mk.inj hc).1.symm, fun i => ?_⟩
      rcases Nat.lt_or_ge i 33 with q | q
      · rw [(cbK eA i).1 q, hag i q]
      · rw [(cbK eA i).2 q, hg i q]
    · rw [if_neg c1] at hc h8
      have c3 : j ≤ 60 := by rw [ltI, e60, nIt (by omega)] at c1; omega
      obtain ⟨a0, a1, a2, a3, a4, a5, a6, a7, a8, a9, a10, a11, a12, a13, a14, a15, a16, a17, a18, ea⟩ := bEx19 (s_pairGoOn nv wl0 wl1 wl2 nl3 wl4 wl5 wl6 nl7 wl8 wl9 wl10 wl11 wr0 wr1 wr2 nr3 wr4 wr5 wr6 nr7 wr8 wr9 wr10 wr11 r0 r1 r2 r3 r4)
      rw [ea] at hc
      dsimp only at hc
      obtain ⟨set, A, e1⟩ := bEx2 (s_goesBy8 ng)
      rw [e1] at h8
      dsimp only at h8
      obtain ⟨g1, g2, g3⟩ := tick_P hP e1 ea
      have g4 : A 24 = a13 := g1.2.2.1.2.2.2.2.1
      have hg2 : ∀ i, 33 ≤ i → A i = nw0 i := fun i hi => (g3 i hi).trans (hg i hi)
      by_cases c2 : j ≤ 20
      · rw [if_pos (by rw [ltI, e21, nIt (by omega)]; omega)] at hc
        rw [if_pos (by rw [leI, e20, nIt (by omega)]; omega)] at h8
        exact ih (j + 1) _ _ _ _ _ _ _ _ _ _ _ _ _ _ _ _ _ _ _ _ _ _ _ _ _ (by omega) (by omega) g1 hg2 hc h8
      · rw [if_neg (by rw [ltI, e21, nIt (by omega)]; omega)] at hc
        rw [if_neg (by rw [leI, e20, nIt (by omega)]; omega), g4, size_eq] at h8
        have hmax : g_swingsBy8_1 n (j + 1) A ag (if gr < (if 0 ≤ a13 then a13 else 0 - a13) then (if 0 ≤ a13 then a13 else 0 - a13) else gr) = (if (if 0 ≤ a13 then a13 else 0 - a13) ≤ gr then g_swingsBy8_1 n (j + 1) A ag gr else g_swingsBy8_1 n (j + 1) A ag (if 0 ≤ a13 then a13 else 0 - a13)) := by
          rw [← grt_eq]
          generalize (if 0 ≤ a13 then a13 else 0 - a13) = ab
          split <;> rfl
        rw [← hmax] at h8
        exact ih (j + 1) _ _ _ _ _ _ _ _ _ _ _ _ _ _ _ _ _ _ _ _ _ _ _ _ _ (by omega) (by omega) g1 hg2 hc h8
theorem swing_R_1 {nv tk nl0 nl1 nl2 nl3 nl4 nl5 nl6 nl7 nl8 nl9 nl10 nl11 nr0 nr1 nr2 nr3 nr4 nr5 nr6 nr7 nr8 nr9 nr10 nr11 r0 r1 r2 r3 r4 w pa o0 b0 : Int32} {nlb nrb : Bool} {nw az N Z : Nat → Int32} {X : _} (hP : PaR nw r0 r1 r2 r3 r4 nv tk nl0 nl1 nl2 nl3 nl4 nl5 nl6 nl7 nl8 nl9 nl10 nl11 nr0 nr1 nr2 nr3 nr4 nr5 nr6 nr7 nr8 nr9 nr10 nr11) (hp : 0 ≤ pa.toInt ∧ pa.toInt ≤ 20) (hc : s_swingWithPause_1 nv nl0 nl1 nl2 nl3 nl4 nl5 nl6 nl7 nl8 nl9 nl10 nl11 nlb nr0 nr1 nr2 nr3 nr4 nr5 nr6 nr7 nr8 nr9 nr10 nr11 nrb r0 r1 r2 r3 r4 w pa = (o0, X)) (h8 : s_swingsBy8_1 nw az w pa = (b0, N, Z)) : o0 = b0 ∧ N = nw := by
  unfold s_swingWithPause_1 at hc
  unfold s_swingsBy8_1 at h8
  obtain ⟨B, eB⟩ := bEx1 (s_laysAside8 nw az)
  rw [eB] at h8
  dsimp only at h8
  obtain ⟨c0, C, eC⟩ := bEx2 (s_commands8p_1 nw w pa)
  rw [eC] at h8
  dsimp only at h8
  obtain ⟨d0, d1, d2, d3, d4, d5, d6, d7, d8, ed⟩ := bEx9 (s_tellByHalves nv nl2 nl6 nl8 nl9 nl10 nl11 nr2 nr6 nr8 nr9 nr10 nr11 1 w pa)
  rw [ed] at hc
  dsimp only at hc
  obtain ⟨g1, g2, g3⟩ := tell_p_1 hP hp eC ed
  obtain ⟨e1, e2⟩ := gswing_R_1 (laK eB) 61 1 0 _ _ _ _ _ _ _ _ _ _ _ _ _ _ _ _ _ _ _ _ _ _ _ C (by omega) (by omega) g2 (fun i hi => g3 i hi) hc h8
  exact ⟨e1, funext e2⟩
set_option maxHeartbeats 4000000 in
theorem gbest_R_1 {nv tk nl0 nl1 nl2 nl3 nl4 nl5 nl6 nl7 nl8 nl9 nl10 nl11 nr0 nr1 nr2 nr3 nr4 nr5 nr6 nr7 nr8 nr9 nr10 nr11 r0 r1 r2 r3 r4 w what o0 b0 : Int32} {nlb nrb : Bool} {nw N Z : Nat → Int32} {X : _} (hP : PaR nw r0 r1 r2 r3 r4 nv tk nl0 nl1 nl2 nl3 nl4 nl5 nl6 nl7 nl8 nl9 nl10 nl11 nr0 nr1 nr2 nr3 nr4 nr5 nr6 nr7 nr8 nr9 nr10 nr11) : ∀ (n j : Nat) (bp lst wl0 wl1 wl2 wl4 wl5 wl6 wl8 wl9 wl10 wl11 wr0 wr1 wr2 wr4 wr5 wr6 wr8 wr9 wr10 wr11 : Int32) (wlb wrb : Bool) (ag : Nat → Int32), 22 ≤ j + n → 1 ≤ j → j ≤ 21 → g_best_1 nv nl0 nl1 nl2 nl3 nl4 nl5 nl6 nl7 nl8 nl9 nl10 nl11 nlb nr0 nr1 nr2 nr3 nr4 nr5 nr6 nr7 nr8 nr9 nr10 nr11 nrb r0 r1 r2 r3 r4 w what n j bp lst wl0 wl1 wl2 wl4 wl5 wl6 wl8 wl9 wl10 wl11 wlb wr0 wr1 wr2 wr4 wr5 wr6 wr8 wr9 wr10 wr11 wrb = (o0, X) → g_best8_1 w what n j nw ag bp lst = (b0, N, Z) → o0 = b0 ∧ N = nw := by
  intro n
  induction n with
  | zero => intro j bp lst wl0 wl1 wl2 wl4 wl5 wl6 wl8 wl9 wl10 wl11 wr0 wr1 wr2 wr4 wr5 wr6 wr8 wr9 wr10 wr11 wlb wrb ag h1 h2 h3; omega
  | succ n ih =>
    intro j bp lst wl0 wl1 wl2 wl4 wl5 wl6 wl8 wl9 wl10 wl11 wr0 wr1 wr2 wr4 wr5 wr6 wr8 wr9 wr10 wr11 wlb wrb ag h1 h2 h3 hc h8
    rw [g_best_1] at hc
    rw [g_best8_1] at h8
    by_cases c1 : 20 < nI j
    · rw [if_pos c1] at hc h8
      by_cases w0 : what = 0
      · rw [if_pos w0] at hc h8
        simp only [Prod.mk.injEq] at h8
        obtain ⟨u0, u1, u2⟩ := h8
        exact ⟨(Prod.mk.inj hc).1.symm.trans u0, u1.symm⟩
      · rw [if_neg w0] at hc h8
        simp only [Prod.mk.injEq] at h8
        obtain ⟨u0, u1, u2⟩ := h8
        exact ⟨(Prod.mk.inj hc).1.symm.trans u0, u1.symm⟩
    · rw [if_neg c1] at hc h8
      have c3 : j ≤ 20 := by rw [ltI, show (20 : Int32).toInt = 20 by decide, nIt (by omega)] at c1; omega
      obtain ⟨a0, a1, a2, a3, a4, a5, a6, a7, a8, a9, a10, a11, a12, a13, a14, a15, a16, a17, a18, a19, a20, a21, a22, ea⟩ := bEx23 (s_swingWithPause_1 nv nl0 nl1 nl2 nl3 nl4 nl5 nl6 nl7 nl8 nl9 nl10 nl11 nlb nr0 nr1 nr2 nr3 nr4 nr5 nr6 nr7 nr8 nr9 nr10 nr11 nrb r0 r1 r2 r3 r4 w (nI j))
      rw [ea] at hc
      dsimp only at hc
      obtain ⟨x0, x1, x2, ex⟩ := bEx3 (s_swingsBy8_1 nw ag w (nI j))
      rw [ex] at h8
      dsimp only at h8
      obtain ⟨g1, g2⟩ := swing_R_1 hP (by rw [nIt (by omega)]; omega) ea ex
      subst g1 g2
      by_cases c4 : lst ≤ a0
      · rw [if_pos c4] at hc h8
        exact ih (j + 1) _ _ _ _ _ _ _ _ _ _ _ _ _ _ _ _ _ _ _ _ _ _ _ _ _ (by omega) (by omega) (by omega) hc h8
      · rw [if_neg c4] at hc h8
        exact ih (j + 1) _ _ _ _ _ _ _ _ _ _ _ _ _ _ _ _ _ _ _ _ _ _ _ _ _ (by omega) (by omega) (by omega) hc h8
theorem best_R_1 {nv tk nl0 nl1 nl2 nl3 nl4 nl5 nl6 nl7 nl8 nl9 nl10 nl11 nr0 nr1 nr2 nr3 nr4 nr5 nr6 nr7 nr8 nr9 nr10 nr11 r0 r1 r2 r3 r4 w what o0 b0 tv tl0 tl1 tl2 tl3 tl4 tl5 tl6 tl7 tl8 tl9 tl10 tl11 tr0 tr1 tr2 tr3 tr4 tr5 tr6 tr7 tr8 tr9 tr10 tr11 : Int32} {nlb nrb tlb trb : Bool} {nw az N Z : Nat → Int32} {X : _} (hP : PaR nw r0 r1 r2 r3 r4 nv tk nl0 nl1 nl2 nl3 nl4 nl5 nl6 nl7 nl8 nl9 nl10 nl11 nr0 nr1 nr2 nr3 nr4 nr5 nr6 nr7 nr8 nr9 nr10 nr11) (hc : s_best_1 nv nl0 nl1 nl2 nl3 nl4 nl5 nl6 nl7 nl8 nl9 nl10 nl11 nlb nr0 nr1 nr2 nr3 nr4 nr5 nr6 nr7 nr8 nr9 nr10 nr11 nrb r0 r1 r2 r3 r4 tv tl0 tl1 tl2 tl3 tl4 tl5 tl6 tl7 tl8 tl9 tl10 tl11 tlb tr0 tr1 tr2 tr3 tr4 tr5 tr6 tr7 tr8 tr9 tr10 tr11 trb w what = (o0, X)) (h8 : s_best8_1 nw az w what = (b0, N, Z)) : o0 = b0 ∧ N = nw := by
  unfold s_best_1 at hc
  unfold s_best8_1 at h8
  rw [isCrane8_eq, in8_eq, in8_eq] at h8
  unfold s_isSpeed at hc
  by_cases k0 : s_isCrane 1 = true
  · rw [if_pos k0] at hc h8
    by_cases k1 : s_isWithin w (-40) 40 = true
    · rw [if_pos k1] at hc h8
      by_cases k2 : s_isWithin what 0 1 = true
      · rw [if_pos k2] at hc h8
        obtain ⟨a0, a1, a2, a3, a4, a5, a6, a7, a8, a9, a10, a11, a12, a13, a14, a15, a16, a17, a18, a19, a20, a21, a22, ea⟩ := bEx23 (s_swingWithPause_1 nv nl0 nl1 nl2 nl3 nl4 nl5 nl6 nl7 nl8 nl9 nl10 nl11 nlb nr0 nr1 nr2 nr3 nr4 nr5 nr6 nr7 nr8 nr9 nr10 nr11 nrb r0 r1 r2 r3 r4 w 0)
        rw [ea] at hc
        dsimp only at hc
        obtain ⟨x0, x1, x2, ex⟩ := bEx3 (s_swingsBy8_1 nw az w 0)
        rw [ex] at h8
        dsimp only at h8
        obtain ⟨g1, g2⟩ := swing_R_1 hP (by decide) ea ex
        subst g1 g2
        exact gbest_R_1 hP 21 1 _ _ _ _ _ _ _ _ _ _ _ _ _ _ _ _ _ _ _ _ _ _ _ _ _ (by omega) (by omega) (by omega) hc h8
      · rw [if_neg k2] at hc h8
        simp only [Prod.mk.injEq] at h8
        exact ⟨(Prod.mk.inj hc).1.symm.trans h8.1, h8.2.1.symm⟩
    · rw [if_neg k1] at hc h8
      simp only [Prod.mk.injEq] at h8
      exact ⟨(Prod.mk.inj hc).1.symm.trans h8.1, h8.2.1.symm⟩
  · rw [if_neg k0] at hc h8
    simp only [Prod.mk.injEq] at h8
    exact ⟨(Prod.mk.inj hc).1.symm.trans h8.1, h8.2.1.symm⟩
theorem ahead_R_1 {nv tk nl0 nl1 nl2 nl3 nl4 nl5 nl6 nl7 nl8 nl9 nl10 nl11 nr0 nr1 nr2 nr3 nr4 nr5 nr6 nr7 nr8 nr9 nr10 nr11 r0 r1 r2 r3 r4 tn what o0 b0 tv tl0 tl1 tl2 tl3 tl4 tl5 tl6 tl7 tl8 tl9 tl10 tl11 tr0 tr1 tr2 tr3 tr4 tr5 tr6 tr7 tr8 tr9 tr10 tr11 : Int32} {nlb nrb tlb trb : Bool} {nw az N Z : Nat → Int32} {X : _} (hP : PaR nw r0 r1 r2 r3 r4 nv tk nl0 nl1 nl2 nl3 nl4 nl5 nl6 nl7 nl8 nl9 nl10 nl11 nr0 nr1 nr2 nr3 nr4 nr5 nr6 nr7 nr8 nr9 nr10 nr11) (hc : s_ahead_1 nv nl0 nl1 nl2 nl3 nl4 nl5 nl6 nl7 nl8 nl9 nl10 nl11 nlb nr0 nr1 nr2 nr3 nr4 nr5 nr6 nr7 nr8 nr9 nr10 nr11 nrb r0 r1 r2 r3 r4 tv tl0 tl1 tl2 tl3 tl4 tl5 tl6 tl7 tl8 tl9 tl10 tl11 tlb tr0 tr1 tr2 tr3 tr4 tr5 tr6 tr7 tr8 tr9 tr10 tr11 trb tn what = (o0, X)) (h8 : s_ahead8_1 nw az tn what = (b0, N, Z)) : o0 = b0 ∧ N = nw := by
  unfold s_ahead_1 at hc
  unfold s_ahead8_1 at h8
  rw [isCrane8_eq, in8_eq, in8_eq] at h8
  by_cases k1 : s_isWithin tn 1 60 = true
  · rw [if_pos k1] at hc h8
    by_cases k0 : s_isCrane 1 = true
    · rw [if_pos k0] at hc h8
      by_cases k2 : s_isWithin what 0 5 = true
      · rw [if_pos k2] at hc h8
        obtain ⟨B, eB⟩ := bEx1 (s_laysAside8 nw az)
        rw [eB] at h8
        dsimp only at h8
        have hK : tn ≤ nI 60 := by rw [← in8_eq] at k1; exact (in8_iff.mp k1).2
        obtain ⟨e1, e2⟩ := gahead_R_1 hK (laK eB) 61 0 0 0 _ _ _ _ _ _ _ _ _ _ _ _ _ _ _ _ _ _ _ _ _ _ _ nw (by omega) (by omega) hP (fun i _ => rfl) hc h8
        exact ⟨e1, funext e2⟩
      · rw [if_neg k2] at hc h8
        simp only [Prod.mk.injEq] at h8
        exact ⟨(Prod.mk.inj hc).1.symm.trans h8.1, h8.2.1.symm⟩
    · rw [if_neg k0] at hc h8
      simp only [Prod.mk.injEq] at h8
      exact ⟨(Prod.mk.inj hc).1.symm.trans h8.1, h8.2.1.symm⟩
  · rw [if_neg k1] at hc h8
    simp only [Prod.mk.injEq] at h8
    exact ⟨(Prod.mk.inj hc).1.symm.trans h8.1, h8.2.1.symm⟩
theorem quiet_R_1 {nv tk nl0 nl1 nl2 nl3 nl4 nl5 nl6 nl7 nl8 nl9 nl10 nl11 nr0 nr1 nr2 nr3 nr4 nr5 nr6 nr7 nr8 nr9 nr10 nr11 r0 r1 r2 r3 r4 o0 b0 tv tl0 tl1 tl2 tl3 tl4 tl5 tl6 tl7 tl8 tl9 tl10 tl11 tr0 tr1 tr2 tr3 tr4 tr5 tr6 tr7 tr8 tr9 tr10 tr11 : Int32} {nlb nrb tlb trb : Bool} {nw az N Z : Nat → Int32} {X : _} (hP : PaR nw r0 r1 r2 r3 r4 nv tk nl0 nl1 nl2 nl3 nl4 nl5 nl6 nl7 nl8 nl9 nl10 nl11 nr0 nr1 nr2 nr3 nr4 nr5 nr6 nr7 nr8 nr9 nr10 nr11) (hc : s_quiet_1 nv nl0 nl1 nl2 nl3 nl4 nl5 nl6 nl7 nl8 nl9 nl10 nl11 nlb nr0 nr1 nr2 nr3 nr4 nr5 nr6 nr7 nr8 nr9 nr10 nr11 nrb r0 r1 r2 r3 r4 tv tl0 tl1 tl2 tl3 tl4 tl5 tl6 tl7 tl8 tl9 tl10 tl11 tlb tr0 tr1 tr2 tr3 tr4 tr5 tr6 tr7 tr8 tr9 tr10 tr11 trb = (o0, X)) (h8 : s_quiet8_1 nw az = (b0, N, Z)) : o0 = b0 ∧ N = nw := by
  unfold s_quiet_1 at hc
  unfold s_quiet8_1 at h8
  rw [isCrane8_eq] at h8
  by_cases k0 : s_isCrane 1 = true
  · rw [if_pos k0] at hc h8
    obtain ⟨B, eB⟩ := bEx1 (s_laysAside8 nw az)
    rw [eB] at h8
    dsimp only at h8
    obtain ⟨c0, C, eC⟩ := bEx2 (s_commands8n_1 nw 0)
    rw [eC] at h8
    dsimp only at h8
    obtain ⟨d0, d1, d2, d3, d4, d5, d6, d7, d8, ed⟩ := bEx9 (s_tellAtOnce nv nl6 nl8 nl9 nl10 nl11 nr6 nr8 nr9 nr10 nr11 1 0)
    rw [ed] at hc
    dsimp only at hc
    obtain ⟨g1, g2, g3⟩ := tell_n_1 hP eC ed
    obtain ⟨e1, e2⟩ := gquiet_R_1 (laK eB) 61 0 _ _ _ _ _ _ _ _ _ _ _ _ _ _ _ _ _ _ _ _ _ _ _ C (by omega) (by omega) g2 (fun i hi => g3 i hi) hc h8
    exact ⟨e1, funext e2⟩
  · rw [if_neg k0] at hc h8
    simp only [Prod.mk.injEq] at h8
    exact ⟨(Prod.mk.inj hc).1.symm.trans h8.1, h8.2.1.symm⟩
