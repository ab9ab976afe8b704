theorem PaR_GI {w : Nat → Int32} {r0 r1 r2 r3 r4 pv tk l0 l1 l2 l3 l4 l5 l6 l7 l8 l9 l10 l11 q0 q1 q2 q3 q4 q5 q6 q7 q8 q9 q10 q11 : Int32} (h : PaR w r0 r1 r2 r3 r4 pv tk l0 l1 l2 l3 l4 l5 l6 l7 l8 l9 l10 l11 q0 q1 q2 q3 q4 q5 q6 q7 q8 q9 q10 q11) : GI w := by
  obtain ⟨⟨h0, h1, h2, h3, h4, h5, h6⟩, ⟨a0, a1, a2, a3, a4, a5, a6, a7, ⟨a8, -⟩⟩, ⟨b0, b1, b2, b3, b4, b5, b6, b7, ⟨b8, -⟩⟩, ⟨-, -, x2, -⟩, ⟨-, y2, -, y7⟩, ⟨-, z2, -, z7⟩, -⟩ := h
  have a2 : w 9 = l2 := a2
  have a7 : w 14 = l7 := a7
  have a8 : w 15 = stN l9 l11 := a8
  have b2 : w 22 = q2 := b2
  have b7 : w 27 = q7 := b7
  have b8 : w 28 = stN q9 q11 := b8
  have e1 : (1 : Int32).toInt = 1 := by decide
  have e10 : (10 : Int32).toInt = 10 := by decide
  have e60 : (60 : Int32).toInt = 60 := by decide
  unfold GI
  rw [h2, a2, a7, a8, b2, b7, b8, leI, leI, leI, leI, leI, leI, leI, leI, leI, e1, e10, e60]
  exact ⟨x2.1, stN_cases l9 l11, stN_cases q9 q11, y2, z2, y7, z7⟩
set_option maxHeartbeats 4000000 in
/-- a tick of a story -/
theorem goOn_R {w : Nat → Int32} {k1 k2 : Nat} {ret r0 r1 r2 r3 r4 pv tk l0 l1 l2 l3 l4 l5 l6 l7 l8 l9 l10 l11 q0 q1 q2 q3 q4 q5 q6 q7 q8 q9 q10 q11 m0 m1 m2 m4 m5 m6 m9 m11 n0 n1 n2 n4 n5 n6 n9 n11 sm zm sm2 zm2 : Int32} {mb nb : Bool} {sf sg zf zg sf2 sg2 zf2 zg2 : Nat → Int32} (hP : PaR w r0 r1 r2 r3 r4 pv tk l0 l1 l2 l3 l4 l5 l6 l7 l8 l9 l10 l11 q0 q1 q2 q3 q4 q5 q6 q7 q8 q9 q10 q11) (hS : SpR w 33 k1 sm sf sg) (hZ : SpR w 274 k2 zm zf zg)
    (hc : s_storyGoOn pv l0 l1 l2 l3 l4 l5 l6 l7 l8 l9 l10 l11 q0 q1 q2 q3 q4 q5 q6 q7 q8 q9 q10 q11 sm sf sg zm zf zg r0 r1 r2 r3 r4 = (ret, m0, m1, m2, m4, m5, m6, m9, m11, mb, n0, n1, n2, n4, n5, n6, n9, n11, nb, sm2, sf2, sg2, zm2, zf2, zg2)) :
    TOK w ∧ PaR (tkS w) r0 r1 r2 r3 r4 pv (tk + 1) m0 m1 m2 l3 m4 m5 m6 l7 (l8 - 1) m9 (l10 - 1) m11 n0 n1 n2 q3 n4 n5 n6 q7 (q8 - 1) n9 (q10 - 1) n11 ∧ (∃ k, SpR (tkS w) 33 k sm2 sf2 sg2) ∧ (∃ k, SpR (tkS w) 274 k zm2 zf2 zg2) ∧ ((s_goesBy8 w).1 &&& (1 : Int32)) + ((s_goesBy8 w).1 >>> ((1 : Int32) &&& (31 : Int32))) = ret := by
  have hG := PaR_GI hP
  obtain ⟨hru, hl, hq, hb, hlb, hqb, hx⟩ := hP
  unfold s_storyGoOn at hc
  obtain ⟨a0, a1, a2, a3, a4, a5, a6, a7, a8, a9, a10, a11, a12, a13, a14, a15, a16, a17, a18, ea⟩ := bEx19 (s_pairGoOn pv l0 l1 l2 l3 l4 l5 l6 l7 l8 l9 l10 l11 q0 q1 q2 q3 q4 q5 q6 q7 q8 q9 q10 q11 r0 r1 r2 r3 r4)
  rw [ea] at hc
  dsimp only at hc
  obtain ⟨b0, b1, b2, eb⟩ := bEx3 (s_addTick sm sf sg a1 a3)
  rw [eb] at hc
  dsimp only at hc
  obtain ⟨c0, c1, c2, ec⟩ := bEx3 (s_addTick zm zf zg a10 a12)
  rw [ec] at hc
  dsimp only at hc
  simp only [Prod.mk.injEq] at hc
  obtain ⟨u0, u1, u2, u3, u4, u5, u6, u7, u8, u9, u10, u11, u12, u13, u14, u15, u16, u17, u18, u19, u20, u21, u22, u23, u24⟩ := hc
  subst u0 u1 u2 u3 u4 u5 u6 u7 u8 u9 u10 u11 u12 u13 u14 u15 u16 u17 u18 u19 u20 u21 u22 u23 u24
  obtain ⟨set, A, e1⟩ := bEx2 (s_goesBy8 w)
  obtain ⟨t1, t2, t3, t4, t5, t6, t7, t8⟩ := tick_eq hru hl hq hb hlb hqb hx e1 ea
  have hSA : SpR A 33 k1 sm sf sg := SpR_congr hS (fun i h1 h2 => t8 i (by omega))
  have hZA : SpR A 274 k2 zm zf zg := SpR_congr hZ (fun i h1 h2 => t8 i (by omega))
  have g1 : mmO A 33 = k1 := by unfold mmO; rw [hSA.2.2.1, nIt (by have := hSA.1; omega)]; omega
  obtain ⟨B, e2⟩ := bEx1 (s_counts8_0 A k1)
  have xb := t6
  obtain ⟨x1, x2, x3⟩ := xb
  have hb' := hb
  obtain ⟨v0, v1, -⟩ := hb'
  have d1 := counts_eq_0 (A := B) (o0 := b0) (o1 := b1) (o2 := b2) hSA (show A 7 = a1 from t2.1) (show A 9 = a3 from t2.2.2.1) ⟨x1, by omega⟩ t4.2.1
  obtain ⟨d2, d3⟩ := d1
  obtain ⟨⟨m2, d4⟩, d5⟩ := d3 e2 eb
  have hZB : SpR B 274 k2 zm zf zg := SpR_congr hZA (fun i h1 h2 => d5 i (by omega))
  have g2 : mmO B 274 = k2 := by unfold mmO; rw [hZB.2.2.1, nIt (by have := hZB.1; omega)]; omega
  obtain ⟨C, e3⟩ := bEx1 (s_counts8_1 B k2)
  have d6 := counts_eq_1 (A := C) (o0 := c0) (o1 := c1) (o2 := c2) hZB (show B 20 = a10 from (d5 20 (by omega)).trans t3.1) (show B 22 = a12 from (d5 22 (by omega)).trans t3.2.2.1) ⟨by omega, by omega⟩ t5.2.1
  obtain ⟨d7, d8⟩ := d6
  obtain ⟨⟨m3, d9⟩, d10⟩ := d8 e3 ec
  have e2' : s_counts8_0 A (mmO A 33) = (B, ()) := by rw [g1]; exact e2
  have e3' : s_counts8_1 B (mmO B 274) = (C, ()) := by rw [g2]; exact e3
  have hT : tkS w = C := tkE e1 e2' e3'
  rw [hT, e1]
  refine ⟨⟨hG, fun s' A' h' => ?_⟩, ?_, ⟨m2, SpR_congr d4 (fun i h1 h2 => d10 i (by omega))⟩, ⟨m3, d9⟩, ?_⟩
  · rw [e1] at h'
    have h1 := (Prod.mk.inj h').2
    subst h1
    rw [g1]
    refine ⟨⟨hSA.2.2.1, hSA.1, d2⟩, fun B' h' => ?_⟩
    rw [e2] at h'
    have h1 := (Prod.mk.inj h').1
    subst h1
    rw [g2]
    exact ⟨hZB.2.2.1, hZB.1, d7⟩
  · exact PaR_congr (w := A) ⟨t1, t2, t3, hb, t4, t5, t6⟩ (fun i hi => (d10 i (by omega)).trans (d5 i (by omega)))
  · obtain ⟨z1, z2⟩ := t7
    rw [z1, z2]
    dsimp only
    cases a9 <;> cases a18 <;> decide
theorem StoR_next {w : Nat → Int32} {s : Sto} {r : Nat → Int32} (h : StoR w s r) : TOK w ∧ ∃ s2 : Sto, StoR (tkS w) s2 r := by
  obtain ⟨h1, ⟨k1, h2⟩, ⟨k2, h3⟩⟩ := h
  obtain ⟨a0, a1, a2, a3, a4, a5, a6, a7, a8, a9, a10, a11, a12, a13, a14, a15, a16, a17, a18, a19, a20, a21, a22, a23, a24, ea⟩ := bEx25 (s_storyGoOn (s.1 1) (s.1 2) (s.1 3) (s.1 4) (s.1 5) (s.1 6) (s.1 7) (s.1 8) (s.1 9) (s.1 10) (s.1 11) (s.1 12) (s.1 13) (s.1 14) (s.1 15) (s.1 16) (s.1 17) (s.1 18) (s.1 19) (s.1 20) (s.1 21) (s.1 22) (s.1 23) (s.1 24) (s.1 25) (s.1 26) (s.2.2 0) (s.2.2 1) (s.1 27) (s.2.2 2) (s.2.2 3) (r 0) (r 1) (r 2) (r 3) (r 4))
  obtain ⟨g1, g2, g3, g4, g5⟩ := goOn_R h1 h2 h3 ea
  exact ⟨g1, (mk28 (s.1 0 + 1) (s.1 1) a1 a2 a3 (s.1 5) a4 a5 a6 (s.1 9) (s.1 10 - 1) a7 (s.1 12 - 1) a8 a10 a11 a12 (s.1 17) a13 a14 a15 (s.1 21) (s.1 22 - 1) a16 (s.1 24 - 1) a17 a19 a22, mkB a9 a18, mk4 a20 a21 a23 a24), g2, g3, g4⟩
theorem StoR_TOK : ∀ (i : Nat) {w : Nat → Int32} {s : Sto} {r : Nat → Int32}, StoR w s r → TOK (tkI i w) := by
  intro i
  induction i with
  | zero => intro w s r h; exact (StoR_next h).1
  | succ i ih =>
    intro w s r h
    obtain ⟨-, s2, h2⟩ := StoR_next h
    exact ih h2
set_option maxHeartbeats 4000000 in
theorem gtick_R {tn nv nl3 nl7 nr3 nr7 r0 r1 r2 r3 r4 cg b0 c2 : Int32} {pg N P : Nat → Int32} {o0 o1 o2 o3 o4 o5 o6 o7 o8 o9 o10 o11 o12 o14 o15 o16 o17 o18 o19 o20 o21 o22 o23 o25 o28 : Int32} {o13 o24 : Bool} {o26 o27 o29 o30 o31 o32 o33 o34 : Nat → Int32} (hK : tn ≤ nI 60) : ∀ (n j : Nat) (br u9 wk wl0 wl1 wl2 wl4 wl5 wl6 wl8 wl9 wl10 wl11 wr0 wr1 wr2 wr4 wr5 wr6 wr8 wr9 wr10 wr11 wsm wzm : Int32) (wlb wrb : Bool) (wsf wsg wzf wzg v0 v1 v2 v3 ng : Nat → Int32) (k1 k2 : Nat), 61 ≤ j + n → j ≤ 60 →
    PaR ng r0 r1 r2 r3 r4 nv wk wl0 wl1 wl2 nl3 wl4 wl5 wl6 nl7 wl8 wl9 wl10 wl11 wr0 wr1 wr2 nr3 wr4 wr5 wr6 nr7 wr8 wr9 wr10 wr11 → SpR ng 33 k1 wsm wsf wsg → SpR ng 274 k2 wzm wzf wzg →
    g_tick nv nl3 nl7 nr3 nr7 r0 r1 r2 r3 r4 tn n j br u9 wk wl0 wl1 wl2 wl4 wl5 wl6 wl8 wl9 wl10 wl11 wlb wr0 wr1 wr2 wr4 wr5 wr6 wr8 wr9 wr10 wr11 wrb wsm wsf wsg wzm wzf wzg v0 v1 v2 v3 = (o0, o1, o2, o3, o4, o5, o6, o7, o8, o9, o10, o11, o12, o13, o14, o15, o16, o17, o18, o19, o20, o21, o22, o23, o24, o25, o26, o27, o28, o29, o30, o31, o32, o33, o34) → g_tick8 tn n j ng cg pg br = (b0, c2, N, P) →
    o0 = b0 ∧ o1 = u9 ∧ c2 = cg ∧ P = pg ∧ PaR N r0 r1 r2 r3 r4 nv o2 o3 o4 o5 nl3 o6 o7 o8 nl7 o9 o10 o11 o12 o14 o15 o16 nr3 o17 o18 o19 nr7 o20 o21 o22 o23 ∧ (∃ k, SpR N 33 k o25 o26 o27) ∧ (∃ k, SpR N 274 k o28 o29 o30) ∧ o31 = v0 ∧ o32 = v1 ∧ o33 = v2 ∧ o34 = v3 := by
  intro n
  induction n with
  | zero => intro j br u9 wk wl0 wl1 wl2 wl4 wl5 wl6 wl8 wl9 wl10 wl11 wr0 wr1 wr2 wr4 wr5 wr6 wr8 wr9 wr10 wr11 wsm wzm wlb wrb wsf wsg wzf wzg v0 v1 v2 v3 ng k1 k2 h1 h2; omega
  | succ n ih =>
    intro j br u9 wk wl0 wl1 wl2 wl4 wl5 wl6 wl8 wl9 wl10 wl11 wr0 wr1 wr2 wr4 wr5 wr6 wr8 wr9 wr10 wr11 wsm wzm wlb wrb wsf wsg wzf wzg v0 v1 v2 v3 ng k1 k2 h1 h2 hP hS hZ hc h8
    rw [g_tick] at hc
    rw [g_tick8] at h8
    by_cases c1 : tn ≤ nI j
    · rw [if_pos c1] at hc h8
      simp only [Prod.mk.injEq] at hc h8
      obtain ⟨u0, u1, u2, u3, u4, u5, u6, u7, u8, u9, u10, u11, u12, u13, u14, u15, u16, u17, u18, u19, u20, u21, u22, u23, u24, u25, u26, u27, u28, u29, u30, u31, u32, u33, u34⟩ := hc
      obtain ⟨w0, w1, w2, w3⟩ := h8
      subst u0 u1 u2 u3 u4 u5 u6 u7 u8 u9 u10 u11 u12 u13 u14 u15 u16 u17 u18 u19 u20 u21 u22 u23 u24 u25 u26 u27 u28 u29 u30 u31 u32 u33 u34 w0 w1 w2 w3
      exact ⟨rfl, rfl, rfl, rfl, hP, ⟨k1, hS⟩, ⟨k2, hZ⟩, rfl, rfl, rfl, rfl⟩
    · rw [if_neg c1] at hc h8
      have c3 := bNleS (by omega) (by decide) hK c1
      obtain ⟨a0, a1, a2, a3, a4, a5, a6, a7, a8, a9, a10, a11, a12, a13, a14, a15, a16, a17, a18, a19, a20, a21, a22, a23, a24, ea⟩ := bEx25 (s_storyGoOn nv wl0 wl1 wl2 nl3 wl4 wl5 wl6 nl7 wl8 wl9 wl10 wl11 wr0 wr1 wr2 nr3 wr4 wr5 wr6 nr7 wr8 wr9 wr10 wr11 wsm wsf wsg wzm wzf wzg r0 r1 r2 r3 r4)
      rw [ea] at hc
      dsimp only at hc
      obtain ⟨g1, g2, ⟨m1, g3⟩, ⟨m2, g4⟩, g5⟩ := goOn_R hP hS hZ ea
      obtain ⟨set, A, e1⟩ := bEx2 (s_goesBy8 ng)
      rw [e1] at h8 g5
      dsimp only at h8 g5
      obtain ⟨B, e2⟩ := bEx1 (s_counts8_0 A (mmO A 33))
      rw [e2] at h8
      dsimp only at h8
      obtain ⟨C, e3⟩ := bEx1 (s_counts8_1 B (mmO B 274))
      rw [e3] at h8
      dsimp only at h8
      rw [tkE e1 e2 e3] at g2 g3 g4
      rw [g5] at h8
      exact ih (j + 1) _ _ _ _ _ _ _ _ _ _ _ _ _ _ _ _ _ _ _ _ _ _ _ _ _ _ _ _ _ _ _ _ _ _ _ _ m1 m2 (by omega) (by omega) g2 g3 g4 hc h8
