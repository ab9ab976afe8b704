theorem mk28_id (f : Nat → Int32) : ∀ i, i < 28 → mk28 (f 0) (f 1) (f 2) (f 3) (f 4) (f 5) (f 6) (f 7) (f 8) (f 9) (f 10) (f 11) (f 12) (f 13) (f 14) (f 15) (f 16) (f 17) (f 18) (f 19) (f 20) (f 21) (f 22) (f 23) (f 24) (f 25) (f 26) (f 27) i = f i := by
  intro i hi
  iterate 28 (rcases i with _ | i; · rfl)
  omega
theorem keep_all {nw ps P r : Nat → Int32} {ch c2 ud : Int32} {n p1 p2 p3 p4 : Sto} {o0 o1 o2 o3 : Nat → Int32} (hS : StoR nw n r) (hu : ud = ch) (hp : PastR ch ps r p1 p2 p3 p4) (hk : s_keepForUndo (n.1 26) (n.2.2 0) (n.2.2 1) (n.1 27) (n.2.2 2) (n.2.2 3) (p4.2.2 0) (p4.2.2 1) (p4.2.2 2) (p4.2.2 3) = (o0, o1, o2, o3)) (h8 : s_keeps8 ch nw ps = (c2, P)) : PastR c2 P r (mk28 (n.1 0) (n.1 1) (n.1 2) (n.1 3) (n.1 4) (n.1 5) (n.1 6) (n.1 7) (n.1 8) (n.1 9) (n.1 10) (n.1 11) (n.1 12) (n.1 13) (n.1 14) (n.1 15) (n.1 16) (n.1 17) (n.1 18) (n.1 19) (n.1 20) (n.1 21) (n.1 22) (n.1 23) (n.1 24) (n.1 25) (n.1 26) (n.1 27), mkB (n.2.1 0) (n.2.1 1), mk4 o0 o1 o2 o3) p1 p2 p3 ∧ (if 4 < (ud + 1) then 4 else (ud + 1)) = c2 := by
  have h := keep_R hp (StoR_copy (x := mkB (n.2.1 0) (n.2.1 1)) (y := mk28 (n.1 0) (n.1 1) (n.1 2) (n.1 3) (n.1 4) (n.1 5) (n.1 6) (n.1 7) (n.1 8) (n.1 9) (n.1 10) (n.1 11) (n.1 12) (n.1 13) (n.1 14) (n.1 15) (n.1 16) (n.1 17) (n.1 18) (n.1 19) (n.1 20) (n.1 21) (n.1 22) (n.1 23) (n.1 24) (n.1 25) (n.1 26) (n.1 27)) hS hk (mk28_id n.1)) h8
  rw [hu]
  exact h
theorem PaR_u10 {w : Nat → Int32} {r0 r1 r2 r3 r4 pv tk l0 l1 l2 l3 l4 l5 l6 l7 l8 l9 l10 l11 q0 q1 q2 q3 q4 q5 q6 q7 q8 q9 q10 q11 v : Int32} (h : PaR w r0 r1 r2 r3 r4 pv tk l0 l1 l2 l3 l4 l5 l6 l7 l8 l9 l10 l11 q0 q1 q2 q3 q4 q5 q6 q7 q8 q9 q10 q11) (hv : 0 ≤ v.toInt ∧ v.toInt ≤ 99) : PaR (upd w 10 v) r0 r1 r2 r3 r4 pv tk l0 l1 l2 v l4 l5 l6 l7 l8 l9 l10 l11 q0 q1 q2 q3 q4 q5 q6 q7 q8 q9 q10 q11 := by
  obtain ⟨h1, h2, h3, h4, h5, h6, h7⟩ := h
  obtain ⟨a0, a1, a2, a3, a4, a5, a6, a7, a8⟩ := h2
  obtain ⟨y1, y2, y3, y7⟩ := h5
  exact ⟨RuR_congr h1 (fun i hi => upd_ne (by omega)), ⟨(upd_ne (by decide)).trans a0, (upd_ne (by decide)).trans a1, (upd_ne (by decide)).trans a2, upd_eq, (upd_ne (by decide)).trans a4, (upd_ne (by decide)).trans a5, (upd_ne (by decide)).trans a6, (upd_ne (by decide)).trans a7, (by rw [show (upd w 10 v) (7 + 8) = w (7 + 8) from upd_ne (by decide), show (upd w 10 v) (7 + 9) = w (7 + 9) from upd_ne (by decide), show (upd w 10 v) (7 + 10) = w (7 + 10) from upd_ne (by decide), show (upd w 10 v) (7 + 11) = w (7 + 11) from upd_ne (by decide), show (upd w 10 v) (7 + 12) = w (7 + 12) from upd_ne (by decide)]; exact a8)⟩, CrR_congr h3 (fun i h1 h2 => upd_ne (by omega)), h4, ⟨y1, y2, hv, y7⟩, h6, h7⟩
theorem PaR_u14 {w : Nat → Int32} {r0 r1 r2 r3 r4 pv tk l0 l1 l2 l3 l4 l5 l6 l7 l8 l9 l10 l11 q0 q1 q2 q3 q4 q5 q6 q7 q8 q9 q10 q11 v : Int32} (h : PaR w r0 r1 r2 r3 r4 pv tk l0 l1 l2 l3 l4 l5 l6 l7 l8 l9 l10 l11 q0 q1 q2 q3 q4 q5 q6 q7 q8 q9 q10 q11) (hv : 10 ≤ v.toInt ∧ v.toInt ≤ 60) : PaR (upd w 14 v) r0 r1 r2 r3 r4 pv tk l0 l1 l2 l3 l4 l5 l6 v l8 l9 l10 l11 q0 q1 q2 q3 q4 q5 q6 q7 q8 q9 q10 q11 := by
  obtain ⟨h1, h2, h3, h4, h5, h6, h7⟩ := h
  obtain ⟨a0, a1, a2, a3, a4, a5, a6, a7, a8⟩ := h2
  obtain ⟨y1, y2, y3, y7⟩ := h5
  exact ⟨RuR_congr h1 (fun i hi => upd_ne (by omega)), ⟨(upd_ne (by decide)).trans a0, (upd_ne (by decide)).trans a1, (upd_ne (by decide)).trans a2, (upd_ne (by decide)).trans a3, (upd_ne (by decide)).trans a4, (upd_ne (by decide)).trans a5, (upd_ne (by decide)).trans a6, upd_eq, (by rw [show (upd w 14 v) (7 + 8) = w (7 + 8) from upd_ne (by decide), show (upd w 14 v) (7 + 9) = w (7 + 9) from upd_ne (by decide), show (upd w 14 v) (7 + 10) = w (7 + 10) from upd_ne (by decide), show (upd w 14 v) (7 + 11) = w (7 + 11) from upd_ne (by decide), show (upd w 14 v) (7 + 12) = w (7 + 12) from upd_ne (by decide)]; exact a8)⟩, CrR_congr h3 (fun i h1 h2 => upd_ne (by omega)), h4, ⟨y1, y2, y3, hv⟩, h6, h7⟩
theorem PaR_u23 {w : Nat → Int32} {r0 r1 r2 r3 r4 pv tk l0 l1 l2 l3 l4 l5 l6 l7 l8 l9 l10 l11 q0 q1 q2 q3 q4 q5 q6 q7 q8 q9 q10 q11 v : Int32} (h : PaR w r0 r1 r2 r3 r4 pv tk l0 l1 l2 l3 l4 l5 l6 l7 l8 l9 l10 l11 q0 q1 q2 q3 q4 q5 q6 q7 q8 q9 q10 q11) (hv : 0 ≤ v.toInt ∧ v.toInt ≤ 99) : PaR (upd w 23 v) r0 r1 r2 r3 r4 pv tk l0 l1 l2 l3 l4 l5 l6 l7 l8 l9 l10 l11 q0 q1 q2 v q4 q5 q6 q7 q8 q9 q10 q11 := by
  obtain ⟨h1, h2, h3, h4, h5, h6, h7⟩ := h
  obtain ⟨a0, a1, a2, a3, a4, a5, a6, a7, a8⟩ := h3
  obtain ⟨y1, y2, y3, y7⟩ := h6
  exact ⟨RuR_congr h1 (fun i hi => upd_ne (by omega)), CrR_congr h2 (fun i h1 h2 => upd_ne (by omega)), ⟨(upd_ne (by decide)).trans a0, (upd_ne (by decide)).trans a1, (upd_ne (by decide)).trans a2, upd_eq, (upd_ne (by decide)).trans a4, (upd_ne (by decide)).trans a5, (upd_ne (by decide)).trans a6, (upd_ne (by decide)).trans a7, (by rw [show (upd w 23 v) (20 + 8) = w (20 + 8) from upd_ne (by decide), show (upd w 23 v) (20 + 9) = w (20 + 9) from upd_ne (by decide), show (upd w 23 v) (20 + 10) = w (20 + 10) from upd_ne (by decide), show (upd w 23 v) (20 + 11) = w (20 + 11) from upd_ne (by decide), show (upd w 23 v) (20 + 12) = w (20 + 12) from upd_ne (by decide)]; exact a8)⟩, h4, h5, ⟨y1, y2, hv, y7⟩, h7⟩
theorem PaR_u27 {w : Nat → Int32} {r0 r1 r2 r3 r4 pv tk l0 l1 l2 l3 l4 l5 l6 l7 l8 l9 l10 l11 q0 q1 q2 q3 q4 q5 q6 q7 q8 q9 q10 q11 v : Int32} (h : PaR w r0 r1 r2 r3 r4 pv tk l0 l1 l2 l3 l4 l5 l6 l7 l8 l9 l10 l11 q0 q1 q2 q3 q4 q5 q6 q7 q8 q9 q10 q11) (hv : 10 ≤ v.toInt ∧ v.toInt ≤ 60) : PaR (upd w 27 v) r0 r1 r2 r3 r4 pv tk l0 l1 l2 l3 l4 l5 l6 l7 l8 l9 l10 l11 q0 q1 q2 q3 q4 q5 q6 v q8 q9 q10 q11 := by
  obtain ⟨h1, h2, h3, h4, h5, h6, h7⟩ := h
  obtain ⟨a0, a1, a2, a3, a4, a5, a6, a7, a8⟩ := h3
  obtain ⟨y1, y2, y3, y7⟩ := h6
  exact ⟨RuR_congr h1 (fun i hi => upd_ne (by omega)), CrR_congr h2 (fun i h1 h2 => upd_ne (by omega)), ⟨(upd_ne (by decide)).trans a0, (upd_ne (by decide)).trans a1, (upd_ne (by decide)).trans a2, (upd_ne (by decide)).trans a3, (upd_ne (by decide)).trans a4, (upd_ne (by decide)).trans a5, (upd_ne (by decide)).trans a6, upd_eq, (by rw [show (upd w 27 v) (20 + 8) = w (20 + 8) from upd_ne (by decide), show (upd w 27 v) (20 + 9) = w (20 + 9) from upd_ne (by decide), show (upd w 27 v) (20 + 10) = w (20 + 10) from upd_ne (by decide), show (upd w 27 v) (20 + 11) = w (20 + 11) from upd_ne (by decide), show (upd w 27 v) (20 + 12) = w (20 + 12) from upd_ne (by decide)]; exact a8)⟩, h4, h5, ⟨y1, y2, y3, hv⟩, h7⟩
theorem PaR_u5 {w : Nat → Int32} {r0 r1 r2 r3 r4 pv tk l0 l1 l2 l3 l4 l5 l6 l7 l8 l9 l10 l11 q0 q1 q2 q3 q4 q5 q6 q7 q8 q9 q10 q11 v : Int32} (h : PaR w r0 r1 r2 r3 r4 pv tk l0 l1 l2 l3 l4 l5 l6 l7 l8 l9 l10 l11 q0 q1 q2 q3 q4 q5 q6 q7 q8 q9 q10 q11) (hv : v = -4 ∨ 0 ≤ v.toInt ∧ v.toInt ≤ 20) : PaR (upd w 5 v) r0 r1 r2 r3 r4 v tk l0 l1 l2 l3 l4 l5 l6 l7 l8 l9 l10 l11 q0 q1 q2 q3 q4 q5 q6 q7 q8 q9 q10 q11 := by
  obtain ⟨⟨b0, b1, b2, b3, b4, b5, b6⟩, h2, h3, ⟨c0, c1, c2, c3, c4, c5⟩, h5⟩ := h
  exact ⟨⟨(upd_ne (by decide)).trans b0, (upd_ne (by decide)).trans b1, (upd_ne (by decide)).trans b2, (upd_ne (by decide)).trans b3, (upd_ne (by decide)).trans b4, upd_eq, (upd_ne (by decide)).trans b6⟩, CrR_congr h2 (fun i h1 h2 => upd_ne (by omega)), CrR_congr h3 (fun i h1 h2 => upd_ne (by omega)), ⟨c0, c1, c2, c3, c4, hv⟩, h5⟩
theorem target_0 {w ps P : Nat → Int32} {r0 r1 r2 r3 r4 pv tk l0 l1 l2 l3 l4 l5 l6 l7 l8 l9 l10 l11 q0 q1 q2 q3 q4 q5 q6 q7 q8 q9 q10 q11 rp ch c2 x y : Int32} (h : PaR w r0 r1 r2 r3 r4 pv tk l0 l1 l2 l3 l4 l5 l6 l7 l8 l9 l10 l11 q0 q1 q2 q3 q4 q5 q6 q7 q8 q9 q10 q11) (hr : s_isRope rp = true) (ha : s_aim pv l7 q7 0 rp = (x, y)) (hk : s_keeps8 ch w ps = (c2, P)) :
    (s_aimsAt pv l7 q7 0 rp = true → s_target8_0 ch w ps rp = (-2, ch, w, ps)) ∧ (¬ s_aimsAt pv l7 q7 0 rp = true → ∃ A, s_target8_0 ch w ps rp = (l7, c2, A, P) ∧ PaR A r0 r1 r2 r3 r4 pv tk l0 l1 l2 l3 l4 l5 l6 x l8 l9 l10 l11 q0 q1 q2 q3 q4 q5 q6 y q8 q9 q10 q11 ∧ (∀ i, 33 ≤ i → A i = w i)) := by
  have hco := co_iff h.2.2.2.1
  have g5 : w 5 = pv := h.1.2.2.2.2.2.1
  have g14 : w 14 = l7 := h.2.1.2.2.2.2.2.2.2.1
  have g27 : w 27 = q7 := h.2.2.1.2.2.2.2.2.2.2.1
  have hb := wiI (show s_isWithin rp 10 60 = true from hr) (show (10 : Int32).toInt = 10 by decide) (show (60 : Int32).toInt = 60 by decide)
  have u14 : ∀ i, 33 ≤ i → (upd w 14 rp) i = w i := fun i hi => upd_ne (by omega)
  have u27 : ∀ i, 33 ≤ i → (upd w 27 rp) i = w i := fun i hi => upd_ne (by omega)
  have uu : ∀ i, 33 ≤ i → (upd (upd w 14 rp) 27 rp) i = w i := fun i hi => (upd_ne (by omega)).trans (upd_ne (by omega))
  have k5 : (upd w 14 rp) 5 = pv := (upd_ne (by decide)).trans g5
  have hc1 : s_isCrane8 0 = true := by decide
  have lh : s_leftHeeds pv 0 = true := by unfold s_leftHeeds; rw [if_pos rfl]
  unfold s_target8_0
  unfold s_aim at ha
  unfold s_aimsAt
  rw [if_pos hc1, in8_eq, if_pos (show s_isWithin rp 10 60 = true from hr), hk, g14, g27]
  dsimp only
  by_cases c1 : pv = (-4)
  · have nc : ¬ s_isCoupled pv = true := fun q => hco.mp q c1
    have rh : ¬ s_rightHeeds pv 0 = true := by unfold s_rightHeeds; rw [if_neg (by decide), if_neg nc]; decide
    have hh : ¬ s_heeds8_10 w = true := by unfold s_heeds8_10; rw [if_pos (by rw [g5]; exact c1)]; decide
    have hh2 : ¬ s_heeds8_10 (upd w 14 rp) = true := by unfold s_heeds8_10; rw [if_pos (by rw [k5]; exact c1)]; decide
    simp only [if_pos lh, if_neg rh] at ha
    have zq1 := (Prod.mk.inj ha).1
    have zq2 := (Prod.mk.inj ha).2
    subst zq1 zq2
    simp only [if_pos lh, if_neg rh, if_neg hh, if_neg hh2]
    by_cases d1 : l7 = rp
    · rw [if_pos d1, if_pos d1]
      exact ⟨fun _ => rfl, fun q => absurd rfl q⟩
    · rw [if_neg d1, if_neg d1]
      exact ⟨fun q => absurd q (by decide), fun _ => ⟨_, rfl, PaR_u14 h hb, u14⟩⟩
  · have nc : s_isCoupled pv = true := hco.mpr c1
    have rh : s_rightHeeds pv 0 = true := by unfold s_rightHeeds; rw [if_neg (by decide), if_pos nc]
    have hh : s_heeds8_10 w = true := by unfold s_heeds8_10; rw [if_neg (by rw [g5]; exact c1)]
    have hh2 : s_heeds8_10 (upd w 14 rp) = true := by unfold s_heeds8_10; rw [if_neg (by rw [k5]; exact c1)]
    simp only [if_pos lh, if_pos rh] at ha
    have zq1 := (Prod.mk.inj ha).1
    have zq2 := (Prod.mk.inj ha).2
    subst zq1 zq2
    simp only [if_pos lh, if_pos rh, if_pos hh, if_pos hh2]
    by_cases d1 : l7 = rp
    · rw [if_pos d1, if_pos d1]
      by_cases d2 : q7 = rp
      · rw [if_pos d2, if_pos d2]
        exact ⟨fun _ => rfl, fun q => absurd rfl q⟩
      · rw [if_neg d2, if_neg d2]
        exact ⟨fun q => absurd q (by decide), fun _ => ⟨_, rfl, PaR_u27 (PaR_u14 h hb) hb, uu⟩⟩
    · rw [if_neg d1, if_neg d1]
      exact ⟨fun q => absurd q (by decide), fun _ => ⟨_, rfl, PaR_u27 (PaR_u14 h hb) hb, uu⟩⟩
theorem target_1 {w ps P : Nat → Int32} {r0 r1 r2 r3 r4 pv tk l0 l1 l2 l3 l4 l5 l6 l7 l8 l9 l10 l11 q0 q1 q2 q3 q4 q5 q6 q7 q8 q9 q10 q11 rp ch c2 x y : Int32} (h : PaR w r0 r1 r2 r3 r4 pv tk l0 l1 l2 l3 l4 l5 l6 l7 l8 l9 l10 l11 q0 q1 q2 q3 q4 q5 q6 q7 q8 q9 q10 q11) (hr : s_isRope rp = true) (ha : s_aim pv l7 q7 1 rp = (x, y)) (hk : s_keeps8 ch w ps = (c2, P)) :
    (s_aimsAt pv l7 q7 1 rp = true → s_target8_1 ch w ps rp = (-2, ch, w, ps)) ∧ (¬ s_aimsAt pv l7 q7 1 rp = true → ∃ A, s_target8_1 ch w ps rp = (q7, c2, A, P) ∧ PaR A r0 r1 r2 r3 r4 pv tk l0 l1 l2 l3 l4 l5 l6 x l8 l9 l10 l11 q0 q1 q2 q3 q4 q5 q6 y q8 q9 q10 q11 ∧ (∀ i, 33 ≤ i → A i = w i)) := by
  have hco := co_iff h.2.2.2.1
  have g5 : w 5 = pv := h.1.2.2.2.2.2.1
  have g14 : w 14 = l7 := h.2.1.2.2.2.2.2.2.2.1
  have g27 : w 27 = q7 := h.2.2.1.2.2.2.2.2.2.2.1
  have hb := wiI (show s_isWithin rp 10 60 = true from hr) (show (10 : Int32).toInt = 10 by decide) (show (60 : Int32).toInt = 60 by decide)
  have u14 : ∀ i, 33 ≤ i → (upd w 14 rp) i = w i := fun i hi => upd_ne (by omega)
  have u27 : ∀ i, 33 ≤ i → (upd w 27 rp) i = w i := fun i hi => upd_ne (by omega)
  have uu : ∀ i, 33 ≤ i → (upd (upd w 14 rp) 27 rp) i = w i := fun i hi => (upd_ne (by omega)).trans (upd_ne (by omega))
  have k5 : (upd w 14 rp) 5 = pv := (upd_ne (by decide)).trans g5
  have hc1 : s_isCrane8 1 = true := by decide
  have lh : s_rightHeeds pv 1 = true := by unfold s_rightHeeds; rw [if_pos rfl]
  unfold s_target8_1
  unfold s_aim at ha
  unfold s_aimsAt
  rw [if_pos hc1, in8_eq, if_pos (show s_isWithin rp 10 60 = true from hr), hk, g14, g27]
  dsimp only
  by_cases c1 : pv = (-4)
  · have nc : ¬ s_isCoupled pv = true := fun q => hco.mp q c1
    have rh : ¬ s_leftHeeds pv 1 = true := by unfold s_leftHeeds; rw [if_neg (by decide), if_neg nc]; decide
    have hh : ¬ s_heeds8_01 w = true := by unfold s_heeds8_01; rw [if_pos (by rw [g5]; exact c1)]; decide
    have hh2 : ¬ s_heeds8_01 (upd w 14 rp) = true := by unfold s_heeds8_01; rw [if_pos (by rw [k5]; exact c1)]; decide
    simp only [if_pos lh, if_neg rh] at ha
    have zq1 := (Prod.mk.inj ha).1
    have zq2 := (Prod.mk.inj ha).2
    subst zq1 zq2
    simp only [if_pos lh, if_neg rh, if_neg hh, if_neg hh2]
    by_cases d1 : q7 = rp
    · rw [if_pos d1, if_pos d1]
      exact ⟨fun _ => rfl, fun q => absurd rfl q⟩
    · rw [if_neg d1, if_neg d1]
      exact ⟨fun q => absurd q (by decide), fun _ => ⟨_, rfl, PaR_u27 h hb, u27⟩⟩
  · have nc : s_isCoupled pv = true := hco.mpr c1
    have rh : s_leftHeeds pv 1 = true := by unfold s_leftHeeds; rw [if_neg (by decide), if_pos nc]
    have hh : s_heeds8_01 w = true := by unfold s_heeds8_01; rw [if_neg (by rw [g5]; exact c1)]
    have hh2 : s_heeds8_01 (upd w 14 rp) = true := by unfold s_heeds8_01; rw [if_neg (by rw [k5]; exact c1)]
    simp only [if_pos lh, if_pos rh] at ha
    have zq1 := (Prod.mk.inj ha).1
    have zq2 := (Prod.mk.inj ha).2
    subst zq1 zq2
    simp only [if_pos lh, if_pos rh, if_pos hh, if_pos hh2]
    by_cases d1 : l7 = rp
    · rw [if_pos d1, if_pos d1]
      by_cases d2 : q7 = rp
      · rw [if_pos d2, if_pos d2]
        exact ⟨fun _ => rfl, fun q => absurd rfl q⟩
      · rw [if_neg d2, if_neg d2]
        exact ⟨fun q => absurd q (by decide), fun _ => ⟨_, rfl, PaR_u27 (PaR_u14 h hb) hb, uu⟩⟩
    · rw [if_neg d1, if_neg d1]
      exact ⟨fun q => absurd q (by decide), fun _ => ⟨_, rfl, PaR_u27 (PaR_u14 h hb) hb, uu⟩⟩
section SIMS2
variable (l : Launch) (D : va_G) (cyC cyI : ClassId) (Q K : Nat → Nat)
set_option maxHeartbeats 4000000 in
theorem sim_command_0 (w : Int32) : Sim l D cyC cyI Q K yX7_command wsX7_command yX8_command wsX8_command [.int 0, .int w] := by
  rintro wa wb ⟨R, E, N, P1, P2, P3, P4, r, d, n, p1, p2, p3, p4, t, tb, ud, xn, xi, xc, nw, rd, az, ps, tx, td, ch, le, sp, rfl, rfl, hR⟩
  have hR0 := hR
  obtain ⟨hS, hu, hp, k, ht⟩ := hR0
  have hS0 := hS
  obtain ⟨hP, ⟨k1, hk1⟩, ⟨k2, hk2⟩⟩ := hS0
  obtain ⟨o0, o1, o2, o3, ek⟩ := bEx4 (s_keepForUndo (n.1 26) (n.2.2 0) (n.2.2 1) (n.1 27) (n.2.2 2) (n.2.2 3) (p4.2.2 0) (p4.2.2 1) (p4.2.2 2) (p4.2.2 3))
  obtain ⟨c2, P, e8⟩ := bEx2 (s_keeps8 ch nw ps)
  obtain ⟨q1, q2⟩ := keep_all hS hu hp ek e8
  have hch := PastR_ch hp
  by_cases hw : s_isSpeed w = true
  · obtain ⟨d0, d1, d2, d3, d4, d5, d6, d7, d8, ed⟩ := bEx9 (s_tellAtOnce (n.1 1) (n.1 8) (n.1 10) (n.1 11) (n.1 12) (n.1 13) (n.1 20) (n.1 22) (n.1 23) (n.1 24) (n.1 25) 0 w)
    obtain ⟨ret8, A, eA⟩ := bEx2 (s_commands8n_0 nw w)
    obtain ⟨g1, g2, g3⟩ := tell_n_0 hP eA ed
    have fa : s_command_ok (n.1 1) (n.1 8) (n.1 10) (n.1 11) (n.1 12) (n.1 13) (n.1 20) (n.1 22) (n.1 23) (n.1 24) (n.1 25) (n.1 26) (n.2.2 0) (n.2.2 1) (n.1 27) (n.2.2 2) (n.2.2 3) (p4.2.2 0) (p4.2.2 1) (p4.2.2 2) (p4.2.2 3) 0 w = (d0, d1, d2, d3, d4, d5, d6, d7, d8, o0, o1, o2, o3) := by
      unfold s_command_ok
      rw [ek]
      dsimp only
      rw [ed]
    have fb : s_command8_0 ch nw ps w = (ret8, c2, A, P) := by
      unfold s_command8_0
      rw [if_pos (show s_isCrane8 0 = true by decide), in8_eq, if_pos (show s_isWithin w (-40) 40 = true from hw), e8]
      dsimp only
      rw [eA]
    exact Sim.of (f_command_ok l D cyC cyI Q R E N P1 P2 P3 P4 r d n p1 p2 p3 p4 t tb ud xn xi xc 0 w _ _ _ _ _ _ _ _ _ _ _ _ _ fa (by decide) hw) (f_command8_0 l D cyC cyI K nw rd az ps tx td ch le sp w _ _ _ _ fb hch) wM_perm g1 (Inv.mk ⟨⟨g2, ⟨k1, SpR_congr hk1 (fun i h _ => g3 i (by omega))⟩, ⟨k2, SpR_congr hk2 (fun i h _ => g3 i (by omega))⟩⟩, q2, q1, k, ht⟩) ⟨rfl, rfl⟩ ⟨Nat.le_of_ble_eq_true rfl, Nat.le_of_ble_eq_true rfl⟩ ⟨rfl, rfl⟩ ⟨Nat.le_of_ble_eq_true rfl, Nat.le_of_ble_eq_true rfl⟩
  · have fb : s_command8_0 ch nw ps w = (-1, ch, nw, ps) := by
      unfold s_command8_0
      rw [if_pos (show s_isCrane8 0 = true by decide), in8_eq, if_neg (show ¬ s_isWithin w (-40) 40 = true from hw)]
    exact Sim.of (f_command_no l D cyC cyI Q R E N P1 P2 P3 P4 r d n p1 p2 p3 p4 t tb ud xn xi xc 0 w (-1) (by unfold s_command_no; rw [if_pos (by decide)]) (fun _ => hw)) (f_command8_0 l D cyC cyI K nw rd az ps tx td ch le sp w _ _ _ _ fb hch) wM_perm rfl (Inv.mk hR) ⟨rfl, rfl⟩ ⟨Nat.le_of_ble_eq_true rfl, Nat.le_of_ble_eq_true rfl⟩ ⟨rfl, rfl⟩ ⟨Nat.le_of_ble_eq_true rfl, Nat.le_of_ble_eq_true rfl⟩
set_option maxHeartbeats 4000000 in
theorem sim_shape_0 (w : Int32) (pa : Int32) : Sim l D cyC cyI Q K yX7_shape wsX7_shape yX8_shape wsX8_shape [.int 0, .int w, .int pa] := by
  rintro wa wb ⟨R, E, N, P1, P2, P3, P4, r, d, n, p1, p2, p3, p4, t, tb, ud, xn, xi, xc, nw, rd, az, ps, tx, td, ch, le, sp, rfl, rfl, hR⟩
  have hR0 := hR
  obtain ⟨hS, hu, hp, k, ht⟩ := hR0
  have hS0 := hS
  obtain ⟨hP, ⟨k1, hk1⟩, ⟨k2, hk2⟩⟩ := hS0
  obtain ⟨o0, o1, o2, o3, ek⟩ := bEx4 (s_keepForUndo (n.1 26) (n.2.2 0) (n.2.2 1) (n.1 27) (n.2.2 2) (n.2.2 3) (p4.2.2 0) (p4.2.2 1) (p4.2.2 2) (p4.2.2 3))
  obtain ⟨c2, P, e8⟩ := bEx2 (s_keeps8 ch nw ps)
  obtain ⟨q1, q2⟩ := keep_all hS hu hp ek e8
  have hch := PastR_ch hp
  by_cases hw : s_isSpeed w = true
  · by_cases hq : s_isWithin pa (-1) 20 = true
    · have hG := PaR_GI hP
      obtain ⟨d0, d1, d2, d3, d4, d5, d6, d7, d8, ed⟩ := bEx9 (s_tellByHalves (n.1 1) (n.1 4) (n.1 8) (n.1 10) (n.1 11) (n.1 12) (n.1 13) (n.1 16) (n.1 20) (n.1 22) (n.1 23) (n.1 24) (n.1 25) 0 w pa)
      have fa : s_shape_ok (n.1 1) (n.1 4) (n.1 8) (n.1 10) (n.1 11) (n.1 12) (n.1 13) (n.1 16) (n.1 20) (n.1 22) (n.1 23) (n.1 24) (n.1 25) (n.1 26) (n.2.2 0) (n.2.2 1) (n.1 27) (n.2.2 2) (n.2.2 3) (p4.2.2 0) (p4.2.2 1) (p4.2.2 2) (p4.2.2 3) 0 w pa = (d0, d1, d2, d3, d4, d5, d6, d7, d8, o0, o1, o2, o3) := by
        unfold s_shape_ok
        rw [ek]
        dsimp only
        rw [ed]
      by_cases hz : 0 ≤ pa
      · have hpa : 0 ≤ pa.toInt ∧ pa.toInt ≤ 20 := ⟨by rw [leI, zI] at hz; exact hz, (wiI hq (show (-1 : Int32).toInt = -1 by decide) (show (20 : Int32).toInt = 20 by decide)).2⟩
        obtain ⟨ret8, A, eA⟩ := bEx2 (s_commands8p_0 nw w pa)
        obtain ⟨g1, g2, g3⟩ := tell_p_0 hP hpa eA ed
        have fb : s_shape8_0 ch nw ps w pa = (ret8, c2, A, P) := by
          unfold s_shape8_0
          rw [if_pos (show s_isCrane8 0 = true by decide), in8_eq, in8_eq, if_pos (show s_isWithin w (-40) 40 = true from hw), if_pos hq, e8]
          dsimp only
          rw [if_pos hz, eA]
        exact Sim.of (f_shape_ok l D cyC cyI Q R E N P1 P2 P3 P4 r d n p1 p2 p3 p4 t tb ud xn xi xc 0 w pa _ _ _ _ _ _ _ _ _ _ _ _ _ fa (by decide) hw hq) (f_shape8_0 l D cyC cyI K nw rd az ps tx td ch le sp w pa _ _ _ _ fb hch hG) wM_perm g1 (Inv.mk ⟨⟨g2, ⟨k1, SpR_congr hk1 (fun i h _ => g3 i (by omega))⟩, ⟨k2, SpR_congr hk2 (fun i h _ => g3 i (by omega))⟩⟩, q2, q1, k, ht⟩) ⟨rfl, rfl⟩ ⟨Nat.le_of_ble_eq_true rfl, Nat.le_of_ble_eq_true rfl⟩ ⟨rfl, rfl⟩ ⟨Nat.le_of_ble_eq_true rfl, Nat.le_of_ble_eq_true rfl⟩
      · obtain ⟨ret8, A, eA⟩ := bEx2 (s_shapes8_0 nw w)
        obtain ⟨g1, g2, g3⟩ := tell_s_0 hP hz eA ed
        have fb : s_shape8_0 ch nw ps w pa = (ret8, c2, A, P) := by
          unfold s_shape8_0
          rw [if_pos (show s_isCrane8 0 = true by decide), in8_eq, in8_eq, if_pos (show s_isWithin w (-40) 40 = true from hw), if_pos hq, e8]
          dsimp only
          rw [if_neg hz, eA]
        exact Sim.of (f_shape_ok l D cyC cyI Q R E N P1 P2 P3 P4 r d n p1 p2 p3 p4 t tb ud xn xi xc 0 w pa _ _ _ _ _ _ _ _ _ _ _ _ _ fa (by decide) hw hq) (f_shape8_0 l D cyC cyI K nw rd az ps tx td ch le sp w pa _ _ _ _ fb hch hG) wM_perm g1 (Inv.mk ⟨⟨g2, ⟨k1, SpR_congr hk1 (fun i h _ => g3 i (by omega))⟩, ⟨k2, SpR_congr hk2 (fun i h _ => g3 i (by omega))⟩⟩, q2, q1, k, ht⟩) ⟨rfl, rfl⟩ ⟨Nat.le_of_ble_eq_true rfl, Nat.le_of_ble_eq_true rfl⟩ ⟨rfl, rfl⟩ ⟨Nat.le_of_ble_eq_true rfl, Nat.le_of_ble_eq_true rfl⟩
    · have fb : s_shape8_0 ch nw ps w pa = (-1, ch, nw, ps) := by
        unfold s_shape8_0
        rw [if_pos (show s_isCrane8 0 = true by decide), in8_eq, in8_eq, if_pos (show s_isWithin w (-40) 40 = true from hw), if_neg hq]
      exact Sim.of (f_shape_no l D cyC cyI Q R E N P1 P2 P3 P4 r d n p1 p2 p3 p4 t tb ud xn xi xc 0 w pa (-1) (by unfold s_shape_no; rw [if_pos (by decide), if_pos hw]) (fun _ _ => hq)) (f_shape8_0 l D cyC cyI K nw rd az ps tx td ch le sp w pa _ _ _ _ fb hch (PaR_GI hP)) wM_perm rfl (Inv.mk hR) ⟨rfl, rfl⟩ ⟨Nat.le_of_ble_eq_true rfl, Nat.le_of_ble_eq_true rfl⟩ ⟨rfl, rfl⟩ ⟨Nat.le_of_ble_eq_true rfl, Nat.le_of_ble_eq_true rfl⟩
  · have fb : s_shape8_0 ch nw ps w pa = (-1, ch, nw, ps) := by
      unfold s_shape8_0
      rw [if_pos (show s_isCrane8 0 = true by decide), in8_eq, if_neg (show ¬ s_isWithin w (-40) 40 = true from hw)]
    exact Sim.of (f_shape_no l D cyC cyI Q R E N P1 P2 P3 P4 r d n p1 p2 p3 p4 t tb ud xn xi xc 0 w pa (-1) (by unfold s_shape_no; rw [if_pos (by decide), if_neg hw]) (fun _ q => absurd q hw)) (f_shape8_0 l D cyC cyI K nw rd az ps tx td ch le sp w pa _ _ _ _ fb hch (PaR_GI hP)) wM_perm rfl (Inv.mk hR) ⟨rfl, rfl⟩ ⟨Nat.le_of_ble_eq_true rfl, Nat.le_of_ble_eq_true rfl⟩ ⟨rfl, rfl⟩ ⟨Nat.le_of_ble_eq_true rfl, Nat.le_of_ble_eq_true rfl⟩
set_option maxHeartbeats 4000000 in
theorem sim_target_0 (rp : Int32) : Sim l D cyC cyI Q K yX7_target wsX7_target yX8_target wsX8_target [.int 0, .int rp] := by
  rintro wa wb ⟨R, E, N, P1, P2, P3, P4, r, d, n, p1, p2, p3, p4, t, tb, ud, xn, xi, xc, nw, rd, az, ps, tx, td, ch, le, sp, rfl, rfl, hR⟩
  have hR0 := hR
  obtain ⟨hS, hu, hp, k, ht⟩ := hR0
  have hS0 := hS
  obtain ⟨hP, ⟨k1, hk1⟩, ⟨k2, hk2⟩⟩ := hS0
  obtain ⟨o0, o1, o2, o3, ek⟩ := bEx4 (s_keepForUndo (n.1 26) (n.2.2 0) (n.2.2 1) (n.1 27) (n.2.2 2) (n.2.2 3) (p4.2.2 0) (p4.2.2 1) (p4.2.2 2) (p4.2.2 3))
  obtain ⟨c2, P, e8⟩ := bEx2 (s_keeps8 ch nw ps)
  obtain ⟨q1, q2⟩ := keep_all hS hu hp ek e8
  have hch := PastR_ch hp
  by_cases hr : s_isRope rp = true
  · obtain ⟨x, y, ea⟩ := bEx2 (s_aim (n.1 1) (n.1 9) (n.1 21) 0 rp)
    obtain ⟨g1, g2⟩ := target_0 hP hr ea e8
    by_cases ha : s_aimsAt (n.1 1) (n.1 9) (n.1 21) 0 rp = true
    · exact Sim.of (f_target_0_no l D cyC cyI Q R E N P1 P2 P3 P4 r d n p1 p2 p3 p4 t tb ud xn xi xc rp (-2) (by unfold s_target_0_no; rw [if_pos (by decide), if_pos hr]) (fun _ _ q => q ha)) (f_target8_0 l D cyC cyI K nw rd az ps tx td ch le sp rp _ _ _ _ (g1 ha) hch) wM_perm rfl (Inv.mk hR) ⟨rfl, rfl⟩ ⟨Nat.le_of_ble_eq_true rfl, Nat.le_of_ble_eq_true rfl⟩ ⟨rfl, rfl⟩ ⟨Nat.le_of_ble_eq_true rfl, Nat.le_of_ble_eq_true rfl⟩
    · obtain ⟨A, fb, g3, g4⟩ := g2 ha
      have fa : s_target_0_ok (n.1 1) (n.1 9) (n.1 21) (n.1 26) (n.2.2 0) (n.2.2 1) (n.1 27) (n.2.2 2) (n.2.2 3) (p4.2.2 0) (p4.2.2 1) (p4.2.2 2) (p4.2.2 3) rp = (n.1 9, x, y, o0, o1, o2, o3) := by
        unfold s_target_0_ok
        rw [ek]
        dsimp only
        rw [ea]
      exact Sim.of (f_target_0_ok l D cyC cyI Q R E N P1 P2 P3 P4 r d n p1 p2 p3 p4 t tb ud xn xi xc rp _ _ _ _ _ _ _ fa (by decide) hr ha) (f_target8_0 l D cyC cyI K nw rd az ps tx td ch le sp rp _ _ _ _ fb hch) wM_perm rfl (Inv.mk ⟨⟨g3, ⟨k1, SpR_congr hk1 (fun i h _ => g4 i (by omega))⟩, ⟨k2, SpR_congr hk2 (fun i h _ => g4 i (by omega))⟩⟩, q2, q1, k, ht⟩) ⟨rfl, rfl⟩ ⟨Nat.le_of_ble_eq_true rfl, Nat.le_of_ble_eq_true rfl⟩ ⟨rfl, rfl⟩ ⟨Nat.le_of_ble_eq_true rfl, Nat.le_of_ble_eq_true rfl⟩
  · have fb : s_target8_0 ch nw ps rp = (-1, ch, nw, ps) := by
      unfold s_target8_0
      rw [if_pos (show s_isCrane8 0 = true by decide), in8_eq, if_neg (show ¬ s_isWithin rp 10 60 = true from hr)]
    exact Sim.of (f_target_0_no l D cyC cyI Q R E N P1 P2 P3 P4 r d n p1 p2 p3 p4 t tb ud xn xi xc rp (-1) (by unfold s_target_0_no; rw [if_pos (by decide), if_neg hr]) (fun _ q => absurd q hr)) (f_target8_0 l D cyC cyI K nw rd az ps tx td ch le sp rp _ _ _ _ fb hch) wM_perm rfl (Inv.mk hR) ⟨rfl, rfl⟩ ⟨Nat.le_of_ble_eq_true rfl, Nat.le_of_ble_eq_true rfl⟩ ⟨rfl, rfl⟩ ⟨Nat.le_of_ble_eq_true rfl, Nat.le_of_ble_eq_true rfl⟩
set_option maxHeartbeats 4000000 in
theorem sim_load_0 (m : Int32) : Sim l D cyC cyI Q K yX7_load wsX7_load yX8_load wsX8_load [.int 0, .int m] := by
  rintro wa wb ⟨R, E, N, P1, P2, P3, P4, r, d, n, p1, p2, p3, p4, t, tb, ud, xn, xi, xc, nw, rd, az, ps, tx, td, ch, le, sp, rfl, rfl, hR⟩
  have hR0 := hR
  obtain ⟨hS, hu, hp, k, ht⟩ := hR0
  have hS0 := hS
  obtain ⟨hP, ⟨k1, hk1⟩, ⟨k2, hk2⟩⟩ := hS0
  obtain ⟨o0, o1, o2, o3, ek⟩ := bEx4 (s_keepForUndo (n.1 26) (n.2.2 0) (n.2.2 1) (n.1 27) (n.2.2 2) (n.2.2 3) (p4.2.2 0) (p4.2.2 1) (p4.2.2 2) (p4.2.2 3))
  obtain ⟨c2, P, e8⟩ := bEx2 (s_keeps8 ch nw ps)
  obtain ⟨q1, q2⟩ := keep_all hS hu hp ek e8
  have hch := PastR_ch hp
  have e10 : nw 10 = n.1 5 := hP.2.1.2.2.2.1
  by_cases hr : s_isWithin m 0 99 = true
  · have hb := wiI hr (show (0 : Int32).toInt = 0 by decide) (show (99 : Int32).toInt = 99 by decide)
    by_cases ha : n.1 5 = m
    · have fb : s_load8_0 ch nw ps m = (-2, ch, nw, ps) := by
        unfold s_load8_0
        rw [if_pos (show s_isCrane8 0 = true by decide), in8_eq, if_pos hr, e10, if_pos ha]
      exact Sim.of (f_load_0_no l D cyC cyI Q R E N P1 P2 P3 P4 r d n p1 p2 p3 p4 t tb ud xn xi xc m (-2) (by unfold s_load_0_no; rw [if_pos (by decide), if_pos hr]) (fun _ _ q => q ha)) (f_load8_0 l D cyC cyI K nw rd az ps tx td ch le sp m _ _ _ _ fb hch) wM_perm rfl (Inv.mk hR) ⟨rfl, rfl⟩ ⟨Nat.le_of_ble_eq_true rfl, Nat.le_of_ble_eq_true rfl⟩ ⟨rfl, rfl⟩ ⟨Nat.le_of_ble_eq_true rfl, Nat.le_of_ble_eq_true rfl⟩
    · have fb : s_load8_0 ch nw ps m = (n.1 5, c2, upd nw 10 m, P) := by
        unfold s_load8_0
        rw [if_pos (show s_isCrane8 0 = true by decide), in8_eq, if_pos hr, e10, if_neg ha, e8]
      have fa : s_load_0_ok (n.1 5) (n.1 26) (n.2.2 0) (n.2.2 1) (n.1 27) (n.2.2 2) (n.2.2 3) (p4.2.2 0) (p4.2.2 1) (p4.2.2 2) (p4.2.2 3) = (n.1 5, o0, o1, o2, o3) := by
        unfold s_load_0_ok
        rw [ek]
      have g4 : ∀ i, 33 ≤ i → (upd nw 10 m) i = nw i := fun i hi => upd_ne (by omega)
      exact Sim.of (f_load_0_ok l D cyC cyI Q R E N P1 P2 P3 P4 r d n p1 p2 p3 p4 t tb ud xn xi xc m _ _ _ _ _ fa (by decide) hr ha) (f_load8_0 l D cyC cyI K nw rd az ps tx td ch le sp m _ _ _ _ fb hch) wM_perm rfl (Inv.mk ⟨⟨PaR_u10 hP hb, ⟨k1, SpR_congr hk1 (fun i h _ => g4 i (by omega))⟩, ⟨k2, SpR_congr hk2 (fun i h _ => g4 i (by omega))⟩⟩, q2, q1, k, ht⟩) ⟨rfl, rfl⟩ ⟨Nat.le_of_ble_eq_true rfl, Nat.le_of_ble_eq_true rfl⟩ ⟨rfl, rfl⟩ ⟨Nat.le_of_ble_eq_true rfl, Nat.le_of_ble_eq_true rfl⟩
  · have fb : s_load8_0 ch nw ps m = (-1, ch, nw, ps) := by
      unfold s_load8_0
      rw [if_pos (show s_isCrane8 0 = true by decide), in8_eq, if_neg hr]
    exact Sim.of (f_load_0_no l D cyC cyI Q R E N P1 P2 P3 P4 r d n p1 p2 p3 p4 t tb ud xn xi xc m (-1) (by unfold s_load_0_no; rw [if_pos (by decide), if_neg hr]) (fun _ q => absurd q hr)) (f_load8_0 l D cyC cyI K nw rd az ps tx td ch le sp m _ _ _ _ fb hch) wM_perm rfl (Inv.mk hR) ⟨rfl, rfl⟩ ⟨Nat.le_of_ble_eq_true rfl, Nat.le_of_ble_eq_true rfl⟩ ⟨rfl, rfl⟩ ⟨Nat.le_of_ble_eq_true rfl, Nat.le_of_ble_eq_true rfl⟩
set_option maxHeartbeats 4000000 in
theorem sim_command_1 (w : Int32) : Sim l D cyC cyI Q K yX7_command wsX7_command yX8_command wsX8_command [.int 1, .int w] := by
  rintro wa wb ⟨R, E, N, P1, P2, P3, P4, r, d, n, p1, p2, p3, p4, t, tb, ud, xn, xi, xc, nw, rd, az, ps, tx, td, ch, le, sp, rfl, rfl, hR⟩
  have hR0 := hR
  obtain ⟨hS, hu, hp, k, ht⟩ := hR0
  have hS0 := hS
  obtain ⟨hP, ⟨k1, hk1⟩, ⟨k2, hk2⟩⟩ := hS0
  obtain ⟨o0, o1, o2, o3, ek⟩ := bEx4 (s_keepForUndo (n.1 26) (n.2.2 0) (n.2.2 1) (n.1 27) (n.2.2 2) (n.2.2 3) (p4.2.2 0) (p4.2.2 1) (p4.2.2 2) (p4.2.2 3))
  obtain ⟨c2, P, e8⟩ := bEx2 (s_keeps8 ch nw ps)
  obtain ⟨q1, q2⟩ := keep_all hS hu hp ek e8
  have hch := PastR_ch hp
  by_cases hw : s_isSpeed w = true
  · obtain ⟨d0, d1, d2, d3, d4, d5, d6, d7, d8, ed⟩ := bEx9 (s_tellAtOnce (n.1 1) (n.1 8) (n.1 10) (n.1 11) (n.1 12) (n.1 13) (n.1 20) (n.1 22) (n.1 23) (n.1 24) (n.1 25) 1 w)
    obtain ⟨ret8, A, eA⟩ := bEx2 (s_commands8n_1 nw w)
    obtain ⟨g1, g2, g3⟩ := tell_n_1 hP eA ed
    have fa : s_command_ok (n.1 1) (n.1 8) (n.1 10) (n.1 11) (n.1 12) (n.1 13) (n.1 20) (n.1 22) (n.1 23) (n.1 24) (n.1 25) (n.1 26) (n.2.2 0) (n.2.2 1) (n.1 27) (n.2.2 2) (n.2.2 3) (p4.2.2 0) (p4.2.2 1) (p4.2.2 2) (p4.2.2 3) 1 w = (d0, d1, d2, d3, d4, d5, d6, d7, d8, o0, o1, o2, o3) := by
      unfold s_command_ok
      rw [ek]
      dsimp only
      rw [ed]
    have fb : s_command8_1 ch nw ps w = (ret8, c2, A, P) := by
      unfold s_command8_1
      rw [if_pos (show s_isCrane8 1 = true by decide), in8_eq, if_pos (show s_isWithin w (-40) 40 = true from hw), e8]
      dsimp only
      rw [eA]
    exact Sim.of (f_command_ok l D cyC cyI Q R E N P1 P2 P3 P4 r d n p1 p2 p3 p4 t tb ud xn xi xc 1 w _ _ _ _ _ _ _ _ _ _ _ _ _ fa (by decide) hw) (f_command8_1 l D cyC cyI K nw rd az ps tx td ch le sp w _ _ _ _ fb hch) wM_perm g1 (Inv.mk ⟨⟨g2, ⟨k1, SpR_congr hk1 (fun i h _ => g3 i (by omega))⟩, ⟨k2, SpR_congr hk2 (fun i h _ => g3 i (by omega))⟩⟩, q2, q1, k, ht⟩) ⟨rfl, rfl⟩ ⟨Nat.le_of_ble_eq_true rfl, Nat.le_of_ble_eq_true rfl⟩ ⟨rfl, rfl⟩ ⟨Nat.le_of_ble_eq_true rfl, Nat.le_of_ble_eq_true rfl⟩
  · have fb : s_command8_1 ch nw ps w = (-1, ch, nw, ps) := by
      unfold s_command8_1
      rw [if_pos (show s_isCrane8 1 = true by decide), in8_eq, if_neg (show ¬ s_isWithin w (-40) 40 = true from hw)]
    exact Sim.of (f_command_no l D cyC cyI Q R E N P1 P2 P3 P4 r d n p1 p2 p3 p4 t tb ud xn xi xc 1 w (-1) (by unfold s_command_no; rw [if_pos (by decide)]) (fun _ => hw)) (f_command8_1 l D cyC cyI K nw rd az ps tx td ch le sp w _ _ _ _ fb hch) wM_perm rfl (Inv.mk hR) ⟨rfl, rfl⟩ ⟨Nat.le_of_ble_eq_true rfl, Nat.le_of_ble_eq_true rfl⟩ ⟨rfl, rfl⟩ ⟨Nat.le_of_ble_eq_true rfl, Nat.le_of_ble_eq_true rfl⟩
set_option maxHeartbeats 4000000 in
theorem sim_shape_1 (w : Int32) (pa : Int32) : Sim l D cyC cyI Q K yX7_shape wsX7_shape yX8_shape wsX8_shape [.int 1, .int w, .int pa] := by
  rintro wa wb ⟨R, E, N, P1, P2, P3, P4, r, d, n, p1, p2, p3, p4, t, tb, ud, xn, xi, xc, nw, rd, az, ps, tx, td, ch, le, sp, rfl, rfl, hR⟩
  have hR0 := hR
  obtain ⟨hS, hu, hp, k, ht⟩ := hR0
  have hS0 := hS
  obtain ⟨hP, ⟨k1, hk1⟩, ⟨k2, hk2⟩⟩ := hS0
  obtain ⟨o0, o1, o2, o3, ek⟩ := bEx4 (s_keepForUndo (n.1 26) (n.2.2 0) (n.2.2 1) (n.1 27) (n.2.2 2) (n.2.2 3) (p4.2.2 0) (p4.2.2 1) (p4.2.2 2) (p4.2.2 3))
  obtain ⟨c2, P, e8⟩ := bEx2 (s_keeps8 ch nw ps)
  obtain ⟨q1, q2⟩ := keep_all hS hu hp ek e8
  have hch := PastR_ch hp
  by_cases hw : s_isSpeed w = true
  · by_cases hq : s_isWithin pa (-1) 20 = true
    · have hG := PaR_GI hP
      obtain ⟨d0, d1, d2, d3, d4, d5, d6, d7, d8, ed⟩ := bEx9 (s_tellByHalves (n.1 1) (n.1 4) (n.1 8) (n.1 10) (n.1 11) (n.1 12) (n.1 13) (n.1 16) (n.1 20) (n.1 22) (n.1 23) (n.1 24) (n.1 25) 1 w pa)
      have fa : s_shape_ok (n.1 1) (n.1 4) (n.1 8) (n.1 10) (n.1 11) (n.1 12) (n.1 13) (n.1 16) (n.1 20) (n.1 22) (n.1 23) (n.1 24) (n.1 25) (n.1 26) (n.2.2 0) (n.2.2 1) (n.1 27) (n.2.2 2) (n.2.2 3) (p4.2.2 0) (p4.2.2 1) (p4.2.2 2) (p4.2.2 3) 1 w pa = (d0, d1, d2, d3, d4, d5, d6, d7, d8, o0, o1, o2, o3) := by
        unfold s_shape_ok
        rw [ek]
        dsimp only
        rw [ed]
      by_cases hz : 0 ≤ pa
      · have hpa : 0 ≤ pa.toInt ∧ pa.toInt ≤ 20 := ⟨by rw [leI, zI] at hz; exact hz, (wiI hq (show (-1 : Int32).toInt = -1 by decide) (show (20 : Int32).toInt = 20 by decide)).2⟩
        obtain ⟨ret8, A, eA⟩ := bEx2 (s_commands8p_1 nw w pa)
        obtain ⟨g1, g2, g3⟩ := tell_p_1 hP hpa eA ed
        have fb : s_shape8_1 ch nw ps w pa = (ret8, c2, A, P) := by
          unfold s_shape8_1
          rw [if_pos (show s_isCrane8 1 = true by decide), in8_eq, in8_eq, if_pos (show s_isWithin w (-40) 40 = true from hw), if_pos hq, e8]
          dsimp only
          rw [if_pos hz, eA]
        exact Sim.of (f_shape_ok l D cyC cyI Q R E N P1 P2 P3 P4 r d n p1 p2 p3 p4 t tb ud xn xi xc 1 w pa _ _ _ _ _ _ _ _ _ _ _ _ _ fa (by decide) hw hq) (f_shape8_1 l D cyC cyI K nw rd az ps tx td ch le sp w pa _ _ _ _ fb hch hG) wM_perm g1 (Inv.mk ⟨⟨g2, ⟨k1, SpR_congr hk1 (fun i h _ => g3 i (by omega))⟩, ⟨k2, SpR_congr hk2 (fun i h _ => g3 i (by omega))⟩⟩, q2, q1, k, ht⟩) ⟨rfl, rfl⟩ ⟨Nat.le_of_ble_eq_true rfl, Nat.le_of_ble_eq_true rfl⟩ ⟨rfl, rfl⟩ ⟨Nat.le_of_ble_eq_true rfl, Nat.le_of_ble_eq_true rfl⟩
      · obtain ⟨ret8, A, eA⟩ := bEx2 (s_shapes8_1 nw w)
        obtain ⟨g1, g2, g3⟩ := tell_s_1 hP hz eA ed
        have fb : s_shape8_1 ch nw ps w pa = (ret8, c2, A, P) := by
          unfold s_shape8_1
          rw [if_pos (show s_isCrane8 1 = true by decide), in8_eq, in8_eq, if_pos (show s_isWithin w (-40) 40 = true from hw), if_pos hq, e8]
          dsimp only
          rw [if_neg hz, eA]
        exact Sim.of (f_shape_ok l D cyC cyI Q R E N P1 P2 P3 P4 r d n p1 p2 p3 p4 t tb ud xn xi xc 1 w pa _ _ _ _ _ _ _ _ _ _ _ _ _ fa (by decide) hw hq) (f_shape8_1 l D cyC cyI K nw rd az ps tx td ch le sp w pa _ _ _ _ fb hch hG) wM_perm g1 (Inv.mk ⟨⟨g2, ⟨k1, SpR_congr hk1 (fun i h _ => g3 i (by omega))⟩, ⟨k2, SpR_congr hk2 (fun i h _ => g3 i (by omega))⟩⟩, q2, q1, k, ht⟩) ⟨rfl, rfl⟩ ⟨Nat.le_of_ble_eq_true rfl, Nat.le_of_ble_eq_true rfl⟩ ⟨rfl, rfl⟩ ⟨Nat.le_of_ble_eq_true rfl, Nat.le_of_ble_eq_true rfl⟩
    · have fb : s_shape8_1 ch nw ps w pa = (-1, ch, nw, ps) := by
        unfold s_shape8_1
        rw [if_pos (show s_isCrane8 1 = true by decide), in8_eq, in8_eq, if_pos (show s_isWithin w (-40) 40 = true from hw), if_neg hq]
      exact Sim.of (f_shape_no l D cyC cyI Q R E N P1 P2 P3 P4 r d n p1 p2 p3 p4 t tb ud xn xi xc 1 w pa (-1) (by unfold s_shape_no; rw [if_pos (by decide), if_pos hw]) (fun _ _ => hq)) (f_shape8_1 l D cyC cyI K nw rd az ps tx td ch le sp w pa _ _ _ _ fb hch (PaR_GI hP)) wM_perm rfl (Inv.mk hR) ⟨rfl, rfl⟩ ⟨Nat.le_of_ble_eq_true rfl, Nat.le_of_ble_eq_true rfl⟩ ⟨rfl, rfl⟩ ⟨Nat.le_of_ble_eq_true rfl, Nat.le_of_ble_eq_true rfl⟩
  · have fb : s_shape8_1 ch nw ps w pa = (-1, ch, nw, ps) := by
      unfold s_shape8_1
      rw [if_pos (show s_isCrane8 1 = true by decide), in8_eq, if_neg (show ¬ s_isWithin w (-40) 40 = true from hw)]
    exact Sim.of (f_shape_no l D cyC cyI Q R E N P1 P2 P3 P4 r d n p1 p2 p3 p4 t tb ud xn xi xc 1 w pa (-1) (by unfold s_shape_no; rw [if_pos (by decide), if_neg hw]) (fun _ q => absurd q hw)) (f_shape8_1 l D cyC cyI K nw rd az ps tx td ch le sp w pa _ _ _ _ fb hch (PaR_GI hP)) wM_perm rfl (Inv.mk hR) ⟨rfl, rfl⟩ ⟨Nat.le_of_ble_eq_true rfl, Nat.le_of_ble_eq_true rfl⟩ ⟨rfl, rfl⟩ ⟨Nat.le_of_ble_eq_true rfl, Nat.le_of_ble_eq_true rfl⟩
set_option maxHeartbeats 4000000 in
theorem sim_target_1 (rp : Int32) : Sim l D cyC cyI Q K yX7_target wsX7_target yX8_target wsX8_target [.int 1, .int rp] := by
  rintro wa wb ⟨R, E, N, P1, P2, P3, P4, r, d, n, p1, p2, p3, p4, t, tb, ud, xn, xi, xc, nw, rd, az, ps, tx, td, ch, le, sp, rfl, rfl, hR⟩
  have hR0 := hR
  obtain ⟨hS, hu, hp, k, ht⟩ := hR0
  have hS0 := hS
  obtain ⟨hP, ⟨k1, hk1⟩, ⟨k2, hk2⟩⟩ := hS0
  obtain ⟨o0, o1, o2, o3, ek⟩ := bEx4 (s_keepForUndo (n.1 26) (n.2.2 0) (n.2.2 1) (n.1 27) (n.2.2 2) (n.2.2 3) (p4.2.2 0) (p4.2.2 1) (p4.2.2 2) (p4.2.2 3))
  obtain ⟨c2, P, e8⟩ := bEx2 (s_keeps8 ch nw ps)
  obtain ⟨q1, q2⟩ := keep_all hS hu hp ek e8
  have hch := PastR_ch hp
  by_cases hr : s_isRope rp = true
  · obtain ⟨x, y, ea⟩ := bEx2 (s_aim (n.1 1) (n.1 9) (n.1 21) 1 rp)
    obtain ⟨g1, g2⟩ := target_1 hP hr ea e8
    by_cases ha : s_aimsAt (n.1 1) (n.1 9) (n.1 21) 1 rp = true
    · exact Sim.of (f_target_1_no l D cyC cyI Q R E N P1 P2 P3 P4 r d n p1 p2 p3 p4 t tb ud xn xi xc rp (-2) (by unfold s_target_1_no; rw [if_pos (by decide), if_pos hr]) (fun _ _ q => q ha)) (f_target8_1 l D cyC cyI K nw rd az ps tx td ch le sp rp _ _ _ _ (g1 ha) hch) wM_perm rfl (Inv.mk hR) ⟨rfl, rfl⟩ ⟨Nat.le_of_ble_eq_true rfl, Nat.le_of_ble_eq_true rfl⟩ ⟨rfl, rfl⟩ ⟨Nat.le_of_ble_eq_true rfl, Nat.le_of_ble_eq_true rfl⟩
    · obtain ⟨A, fb, g3, g4⟩ := g2 ha
      have fa : s_target_1_ok (n.1 1) (n.1 9) (n.1 21) (n.1 26) (n.2.2 0) (n.2.2 1) (n.1 27) (n.2.2 2) (n.2.2 3) (p4.2.2 0) (p4.2.2 1) (p4.2.2 2) (p4.2.2 3) rp = (n.1 21, x, y, o0, o1, o2, o3) := by
        unfold s_target_1_ok
        rw [ek]
        dsimp only
        rw [ea]
      exact Sim.of (f_target_1_ok l D cyC cyI Q R E N P1 P2 P3 P4 r d n p1 p2 p3 p4 t tb ud xn xi xc rp _ _ _ _ _ _ _ fa (by decide) hr ha) (f_target8_1 l D cyC cyI K nw rd az ps tx td ch le sp rp _ _ _ _ fb hch) wM_perm rfl (Inv.mk ⟨⟨g3, ⟨k1, SpR_congr hk1 (fun i h _ => g4 i (by omega))⟩, ⟨k2, SpR_congr hk2 (fun i h _ => g4 i (by omega))⟩⟩, q2, q1, k, ht⟩) ⟨rfl, rfl⟩ ⟨Nat.le_of_ble_eq_true rfl, Nat.le_of_ble_eq_true rfl⟩ ⟨rfl, rfl⟩ ⟨Nat.le_of_ble_eq_true rfl, Nat.le_of_ble_eq_true rfl⟩
  · have fb : s_target8_1 ch nw ps rp = (-1, ch, nw, ps) := by
      unfold s_target8_1
      rw [if_pos (show s_isCrane8 1 = true by decide), in8_eq, if_neg (show ¬ s_isWithin rp 10 60 = true from hr)]
    exact Sim.of (f_target_1_no l D cyC cyI Q R E N P1 P2 P3 P4 r d n p1 p2 p3 p4 t tb ud xn xi xc rp (-1) (by unfold s_target_1_no; rw [if_pos (by decide), if_neg hr]) (fun _ q => absurd q hr)) (f_target8_1 l D cyC cyI K nw rd az ps tx td ch le sp rp _ _ _ _ fb hch) wM_perm rfl (Inv.mk hR) ⟨rfl, rfl⟩ ⟨Nat.le_of_ble_eq_true rfl, Nat.le_of_ble_eq_true rfl⟩ ⟨rfl, rfl⟩ ⟨Nat.le_of_ble_eq_true rfl, Nat.le_of_ble_eq_true rfl⟩
set_option maxHeartbeats 4000000 in
theorem sim_load_1 (m : Int32) : Sim l D cyC cyI Q K yX7_load wsX7_load yX8_load wsX8_load [.int 1, .int m] := by
  rintro wa wb ⟨R, E, N, P1, P2, P3, P4, r, d, n, p1, p2, p3, p4, t, tb, ud, xn, xi, xc, nw, rd, az, ps, tx, td, ch, le, sp, rfl, rfl, hR⟩
  have hR0 := hR
  obtain ⟨hS, hu, hp, k, ht⟩ := hR0
  have hS0 := hS
  obtain ⟨hP, ⟨k1, hk1⟩, ⟨k2, hk2⟩⟩ := hS0
  obtain ⟨o0, o1, o2, o3, ek⟩ := bEx4 (s_keepForUndo (n.1 26) (n.2.2 0) (n.2.2 1) (n.1 27) (n.2.2 2) (n.2.2 3) (p4.2.2 0) (p4.2.2 1) (p4.2.2 2) (p4.2.2 3))
  obtain ⟨c2, P, e8⟩ := bEx2 (s_keeps8 ch nw ps)
  obtain ⟨q1, q2⟩ := keep_all hS hu hp ek e8
  have hch := PastR_ch hp
  have e10 : nw 23 = n.1 17 := hP.2.2.1.2.2.2.1
  by_cases hr : s_isWithin m 0 99 = true
  · have hb := wiI hr (show (0 : Int32).toInt = 0 by decide) (show (99 : Int32).toInt = 99 by decide)
    by_cases ha : n.1 17 = m
    · have fb : s_load8_1 ch nw ps m = (-2, ch, nw, ps) := by
        unfold s_load8_1
        rw [if_pos (show s_isCrane8 1 = true by decide), in8_eq, if_pos hr, e10, if_pos ha]
      exact Sim.of (f_load_1_no l D cyC cyI Q R E N P1 P2 P3 P4 r d n p1 p2 p3 p4 t tb ud xn xi xc m (-2) (by unfold s_load_1_no; rw [if_pos (by decide), if_pos hr]) (fun _ _ q => q ha)) (f_load8_1 l D cyC cyI K nw rd az ps tx td ch le sp m _ _ _ _ fb hch) wM_perm rfl (Inv.mk hR) ⟨rfl, rfl⟩ ⟨Nat.le_of_ble_eq_true rfl, Nat.le_of_ble_eq_true rfl⟩ ⟨rfl, rfl⟩ ⟨Nat.le_of_ble_eq_true rfl, Nat.le_of_ble_eq_true rfl⟩
    · have fb : s_load8_1 ch nw ps m = (n.1 17, c2, upd nw 23 m, P) := by
        unfold s_load8_1
        rw [if_pos (show s_isCrane8 1 = true by decide), in8_eq, if_pos hr, e10, if_neg ha, e8]
      have fa : s_load_1_ok (n.1 17) (n.1 26) (n.2.2 0) (n.2.2 1) (n.1 27) (n.2.2 2) (n.2.2 3) (p4.2.2 0) (p4.2.2 1) (p4.2.2 2) (p4.2.2 3) = (n.1 17, o0, o1, o2, o3) := by
        unfold s_load_1_ok
        rw [ek]
      have g4 : ∀ i, 33 ≤ i → (upd nw 23 m) i = nw i := fun i hi => upd_ne (by omega)
      exact Sim.of (f_load_1_ok l D cyC cyI Q R E N P1 P2 P3 P4 r d n p1 p2 p3 p4 t tb ud xn xi xc m _ _ _ _ _ fa (by decide) hr ha) (f_load8_1 l D cyC cyI K nw rd az ps tx td ch le sp m _ _ _ _ fb hch) wM_perm rfl (Inv.mk ⟨⟨PaR_u23 hP hb, ⟨k1, SpR_congr hk1 (fun i h _ => g4 i (by omega))⟩, ⟨k2, SpR_congr hk2 (fun i h _ => g4 i (by omega))⟩⟩, q2, q1, k, ht⟩) ⟨rfl, rfl⟩ ⟨Nat.le_of_ble_eq_true rfl, Nat.le_of_ble_eq_true rfl⟩ ⟨rfl, rfl⟩ ⟨Nat.le_of_ble_eq_true rfl, Nat.le_of_ble_eq_true rfl⟩
  · have fb : s_load8_1 ch nw ps m = (-1, ch, nw, ps) := by
      unfold s_load8_1
      rw [if_pos (show s_isCrane8 1 = true by decide), in8_eq, if_neg hr]
    exact Sim.of (f_load_1_no l D cyC cyI Q R E N P1 P2 P3 P4 r d n p1 p2 p3 p4 t tb ud xn xi xc m (-1) (by unfold s_load_1_no; rw [if_pos (by decide), if_neg hr]) (fun _ q => absurd q hr)) (f_load8_1 l D cyC cyI K nw rd az ps tx td ch le sp m _ _ _ _ fb hch) wM_perm rfl (Inv.mk hR) ⟨rfl, rfl⟩ ⟨Nat.le_of_ble_eq_true rfl, Nat.le_of_ble_eq_true rfl⟩ ⟨rfl, rfl⟩ ⟨Nat.le_of_ble_eq_true rfl, Nat.le_of_ble_eq_true rfl⟩
set_option maxHeartbeats 4000000 in
theorem sim_couple (lv : Int32) : Sim l D cyC cyI Q K yX7_couple wsX7_couple yX8_couple wsX8_couple [.int lv] := by
  rintro wa wb ⟨R, E, N, P1, P2, P3, P4, r, d, n, p1, p2, p3, p4, t, tb, ud, xn, xi, xc, nw, rd, az, ps, tx, td, ch, le, sp, rfl, rfl, hR⟩
  have hR0 := hR
  obtain ⟨hS, hu, hp, k, ht⟩ := hR0
  have hS0 := hS
  obtain ⟨hP, ⟨k1, hk1⟩, ⟨k2, hk2⟩⟩ := hS0
  obtain ⟨o0, o1, o2, o3, ek⟩ := bEx4 (s_keepForUndo (n.1 26) (n.2.2 0) (n.2.2 1) (n.1 27) (n.2.2 2) (n.2.2 3) (p4.2.2 0) (p4.2.2 1) (p4.2.2 2) (p4.2.2 3))
  obtain ⟨c2, P, e8⟩ := bEx2 (s_keeps8 ch nw ps)
  obtain ⟨q1, q2⟩ := keep_all hS hu hp ek e8
  have hch := PastR_ch hp
  have e5 : nw 5 = n.1 1 := hP.1.2.2.2.2.2.1
  by_cases hr : s_isWithin lv (-1) 20 = true
  · have hb := wiI hr (show (-1 : Int32).toInt = -1 by decide) (show (20 : Int32).toInt = 20 by decide)
    by_cases hz : 0 ≤ lv
    · have hz' : 0 ≤ lv.toInt := by rw [leI, zI] at hz; exact hz
      by_cases ha : n.1 1 = lv
      · have fb : s_couple8 ch nw ps lv = (-2, ch, nw, ps) := by
          unfold s_couple8
          rw [in8_eq, if_pos hr, if_pos hz, e5, if_pos ha]
        exact Sim.of (f_coupleOn_no l D cyC cyI Q R E N P1 P2 P3 P4 r d n p1 p2 p3 p4 t tb ud xn xi xc lv (-2) (by unfold s_coupleOn_no; rw [if_pos hr]) hz (fun _ q => q ha)) (f_couple8 l D cyC cyI K nw rd az ps tx td ch le sp lv _ _ _ _ fb hch) wM_perm rfl (Inv.mk hR) ⟨rfl, rfl⟩ ⟨Nat.le_of_ble_eq_true rfl, Nat.le_of_ble_eq_true rfl⟩ ⟨rfl, rfl⟩ ⟨Nat.le_of_ble_eq_true rfl, Nat.le_of_ble_eq_true rfl⟩
      · have fb : s_couple8 ch nw ps lv = (n.1 1, c2, upd nw 5 lv, P) := by
          unfold s_couple8
          rw [in8_eq, if_pos hr, if_pos hz, e5, if_neg ha, e8]
        have fa : s_coupleOn_ok (n.1 1) (n.1 26) (n.2.2 0) (n.2.2 1) (n.1 27) (n.2.2 2) (n.2.2 3) (p4.2.2 0) (p4.2.2 1) (p4.2.2 2) (p4.2.2 3) = (n.1 1, o0, o1, o2, o3) := by
          unfold s_coupleOn_ok
          rw [ek]
        have g4 : ∀ i, 33 ≤ i → (upd nw 5 lv) i = nw i := fun i hi => upd_ne (by omega)
        exact Sim.of (f_coupleOn_ok l D cyC cyI Q R E N P1 P2 P3 P4 r d n p1 p2 p3 p4 t tb ud xn xi xc lv _ _ _ _ _ fa hr hz ha) (f_couple8 l D cyC cyI K nw rd az ps tx td ch le sp lv _ _ _ _ fb hch) wM_perm rfl (Inv.mk ⟨⟨PaR_u5 hP (Or.inr ⟨hz', hb.2⟩), ⟨k1, SpR_congr hk1 (fun i h _ => g4 i (by omega))⟩, ⟨k2, SpR_congr hk2 (fun i h _ => g4 i (by omega))⟩⟩, q2, q1, k, ht⟩) ⟨rfl, rfl⟩ ⟨Nat.le_of_ble_eq_true rfl, Nat.le_of_ble_eq_true rfl⟩ ⟨rfl, rfl⟩ ⟨Nat.le_of_ble_eq_true rfl, Nat.le_of_ble_eq_true rfl⟩
    · by_cases ha : n.1 1 = (-4)
      · have fb : s_couple8 ch nw ps lv = (-2, ch, nw, ps) := by
          unfold s_couple8
          rw [in8_eq, if_pos hr, if_neg hz, e5, if_pos ha]
        exact Sim.of (f_coupleOff_no l D cyC cyI Q R E N P1 P2 P3 P4 r d n p1 p2 p3 p4 t tb ud xn xi xc lv (-2) (by unfold s_coupleOff_no; rw [if_pos hr]) hz (fun _ q => q ha)) (f_couple8 l D cyC cyI K nw rd az ps tx td ch le sp lv _ _ _ _ fb hch) wM_perm rfl (Inv.mk hR) ⟨rfl, rfl⟩ ⟨Nat.le_of_ble_eq_true rfl, Nat.le_of_ble_eq_true rfl⟩ ⟨rfl, rfl⟩ ⟨Nat.le_of_ble_eq_true rfl, Nat.le_of_ble_eq_true rfl⟩
      · have fb : s_couple8 ch nw ps lv = (n.1 1, c2, upd nw 5 (-4), P) := by
          unfold s_couple8
          rw [in8_eq, if_pos hr, if_neg hz, e5, if_neg ha, e8]
        have fa : s_coupleOff_ok (n.1 1) (n.1 26) (n.2.2 0) (n.2.2 1) (n.1 27) (n.2.2 2) (n.2.2 3) (p4.2.2 0) (p4.2.2 1) (p4.2.2 2) (p4.2.2 3) = (n.1 1, o0, o1, o2, o3) := by
          unfold s_coupleOff_ok
          rw [ek]
        have g4 : ∀ i, 33 ≤ i → (upd nw 5 (-4)) i = nw i := fun i hi => upd_ne (by omega)
        exact Sim.of (f_coupleOff_ok l D cyC cyI Q R E N P1 P2 P3 P4 r d n p1 p2 p3 p4 t tb ud xn xi xc lv _ _ _ _ _ fa hr hz ha) (f_couple8 l D cyC cyI K nw rd az ps tx td ch le sp lv _ _ _ _ fb hch) wM_perm rfl (Inv.mk ⟨⟨PaR_u5 hP (Or.inl rfl), ⟨k1, SpR_congr hk1 (fun i h _ => g4 i (by omega))⟩, ⟨k2, SpR_congr hk2 (fun i h _ => g4 i (by omega))⟩⟩, q2, q1, k, ht⟩) ⟨rfl, rfl⟩ ⟨Nat.le_of_ble_eq_true rfl, Nat.le_of_ble_eq_true rfl⟩ ⟨rfl, rfl⟩ ⟨Nat.le_of_ble_eq_true rfl, Nat.le_of_ble_eq_true rfl⟩
  · have fb : s_couple8 ch nw ps lv = (-1, ch, nw, ps) := by
      unfold s_couple8
      rw [in8_eq, if_neg hr]
    by_cases hz : 0 ≤ lv
    · exact Sim.of (f_coupleOn_no l D cyC cyI Q R E N P1 P2 P3 P4 r d n p1 p2 p3 p4 t tb ud xn xi xc lv (-1) (by unfold s_coupleOn_no; rw [if_neg hr]) hz (fun q => absurd q hr)) (f_couple8 l D cyC cyI K nw rd az ps tx td ch le sp lv _ _ _ _ fb hch) wM_perm rfl (Inv.mk hR) ⟨rfl, rfl⟩ ⟨Nat.le_of_ble_eq_true rfl, Nat.le_of_ble_eq_true rfl⟩ ⟨rfl, rfl⟩ ⟨Nat.le_of_ble_eq_true rfl, Nat.le_of_ble_eq_true rfl⟩
    · exact Sim.of (f_coupleOff_no l D cyC cyI Q R E N P1 P2 P3 P4 r d n p1 p2 p3 p4 t tb ud xn xi xc lv (-1) (by unfold s_coupleOff_no; rw [if_neg hr]) hz (fun q => absurd q hr)) (f_couple8 l D cyC cyI K nw rd az ps tx td ch le sp lv _ _ _ _ fb hch) wM_perm rfl (Inv.mk hR) ⟨rfl, rfl⟩ ⟨Nat.le_of_ble_eq_true rfl, Nat.le_of_ble_eq_true rfl⟩ ⟨rfl, rfl⟩ ⟨Nat.le_of_ble_eq_true rfl, Nat.le_of_ble_eq_true rfl⟩
set_option maxHeartbeats 4000000 in
theorem sim_tick (tn : Int32) : Sim l D cyC cyI Q K yX7_tick wsX7_tick yX8_tick wsX8_tick [.int tn] := by
  rintro wa wb ⟨R, E, N, P1, P2, P3, P4, r, d, n, p1, p2, p3, p4, t, tb, ud, xn, xi, xc, nw, rd, az, ps, tx, td, ch, le, sp, rfl, rfl, hR⟩
  have hR0 := hR
  obtain ⟨hS, hu, hp, k, ht⟩ := hR0
  have hS0 := hS
  obtain ⟨hP, ⟨k1, hk1⟩, ⟨k2, hk2⟩⟩ := hS0
  obtain ⟨o0, o1, o2, o3, ek⟩ := bEx4 (s_keepForUndo (n.1 26) (n.2.2 0) (n.2.2 1) (n.1 27) (n.2.2 2) (n.2.2 3) (p4.2.2 0) (p4.2.2 1) (p4.2.2 2) (p4.2.2 3))
  obtain ⟨c2, P, e8⟩ := bEx2 (s_keeps8 ch nw ps)
  obtain ⟨q1, q2⟩ := keep_all hS hu hp ek e8
  have hch := PastR_ch hp
  have e6 : nw 6 = n.1 0 := hP.1.2.2.2.2.2.2
  have hT : ∀ i, TOK (tkI i nw) := fun i => StoR_TOK i hS
  by_cases hr : s_isWithin tn 1 60 = true
  · by_cases hz : n.1 0 + tn ≤ 9999
    · obtain ⟨a0, a1, a2, a3, a4, a5, a6, a7, a8, a9, a10, a11, a12, a13, a14, a15, a16, a17, a18, a19, a20, a21, a22, a23, a24, a25, a26, a27, a28, a29, a30, a31, a32, a33, a34, ea⟩ := bEx35 (g_tick (n.1 1) (n.1 5) (n.1 9) (n.1 17) (n.1 21) (r 0) (r 1) (r 2) (r 3) (r 4) tn 61 0 0 (if 4 < (ud + 1) then 4 else (ud + 1)) (n.1 0) (n.1 2) (n.1 3) (n.1 4) (n.1 6) (n.1 7) (n.1 8) (n.1 10) (n.1 11) (n.1 12) (n.1 13) (n.2.1 0) (n.1 14) (n.1 15) (n.1 16) (n.1 18) (n.1 19) (n.1 20) (n.1 22) (n.1 23) (n.1 24) (n.1 25) (n.2.1 1) (n.1 26) (n.2.2 0) (n.2.2 1) (n.1 27) (n.2.2 2) (n.2.2 3) o0 o1 o2 o3)
      obtain ⟨b0, b1, b2, b3, eb⟩ := bEx4 (g_tick8 tn 61 0 nw c2 P 0)
      have fa : s_tick_ok ud (n.1 0) (n.1 1) (n.1 2) (n.1 3) (n.1 4) (n.1 5) (n.1 6) (n.1 7) (n.1 8) (n.1 9) (n.1 10) (n.1 11) (n.1 12) (n.1 13) (n.2.1 0) (n.1 14) (n.1 15) (n.1 16) (n.1 17) (n.1 18) (n.1 19) (n.1 20) (n.1 21) (n.1 22) (n.1 23) (n.1 24) (n.1 25) (n.2.1 1) (n.1 26) (n.2.2 0) (n.2.2 1) (n.1 27) (n.2.2 2) (n.2.2 3) (p4.2.2 0) (p4.2.2 1) (p4.2.2 2) (p4.2.2 3) (r 0) (r 1) (r 2) (r 3) (r 4) tn = (a0, a1, a2, a3, a4, a5, a6, a7, a8, a9, a10, a11, a12, a13, a14, a15, a16, a17, a18, a19, a20, a21, a22, a23, a24, a25, a26, a27, a28, a29, a30, a31, a32, a33, a34) := by
        unfold s_tick_ok
        rw [ek]
        exact ea
      have fb : s_tick8 ch nw ps tn = (b0, b1, b2, b3) := by
        unfold s_tick8
        rw [in8_eq, if_pos hr, e6, if_pos hz, e8]
        exact eb
      have hK : tn ≤ nI 60 := by rw [← in8_eq] at hr; exact (in8_iff.mp hr).2
      obtain ⟨g0, g1, g2, g3, g4, ⟨m1, g5⟩, ⟨m2, g6⟩, g7, g8, g9, g10⟩ := gtick_R hK 61 0 _ _ _ _ _ _ _ _ _ _ _ _ _ _ _ _ _ _ _ _ _ _ _ _ _ _ _ _ _ _ _ _ _ _ _ _ k1 k2 (by omega) (by omega) hP hk1 hk2 ea eb
      subst g7 g8 g9 g10 g2 g3
      exact Sim.of (f_tick_ok l D cyC cyI Q R E N P1 P2 P3 P4 r d n p1 p2 p3 p4 t tb ud xn xi xc tn _ _ _ _ _ _ _ _ _ _ _ _ _ _ _ _ _ _ _ _ _ _ _ _ _ _ _ _ _ _ _ _ _ _ _ fa hr hz) (f_tick8 l D cyC cyI K nw rd az ps tx td ch le sp tn _ _ _ _ fb hch hT) wM_perm g0 (Inv.mk ⟨⟨g4, ⟨m1, g5⟩, ⟨m2, g6⟩⟩, g1.trans q2, q1, k, ht⟩) ⟨rfl, rfl⟩ ⟨Nat.le_of_ble_eq_true rfl, Nat.le_of_ble_eq_true rfl⟩ ⟨rfl, rfl⟩ ⟨Nat.le_of_ble_eq_true rfl, Nat.le_of_ble_eq_true rfl⟩
    · have fb : s_tick8 ch nw ps tn = (-2, ch, nw, ps) := by
        unfold s_tick8
        rw [in8_eq, if_pos hr, e6, if_neg hz]
      exact Sim.of (f_tick_no l D cyC cyI Q R E N P1 P2 P3 P4 r d n p1 p2 p3 p4 t tb ud xn xi xc tn (-2) (by unfold s_tick_no; rw [if_pos hr]) (fun _ => hz)) (f_tick8 l D cyC cyI K nw rd az ps tx td ch le sp tn _ _ _ _ fb hch hT) wM_perm rfl (Inv.mk hR) ⟨rfl, rfl⟩ ⟨Nat.le_of_ble_eq_true rfl, Nat.le_of_ble_eq_true rfl⟩ ⟨rfl, rfl⟩ ⟨Nat.le_of_ble_eq_true rfl, Nat.le_of_ble_eq_true rfl⟩
  · have fb : s_tick8 ch nw ps tn = (-1, ch, nw, ps) := by
      unfold s_tick8
      rw [in8_eq, if_neg hr]
    exact Sim.of (f_tick_no l D cyC cyI Q R E N P1 P2 P3 P4 r d n p1 p2 p3 p4 t tb ud xn xi xc tn (-1) (by unfold s_tick_no; rw [if_neg hr]) (fun q => absurd q hr)) (f_tick8 l D cyC cyI K nw rd az ps tx td ch le sp tn _ _ _ _ fb hch hT) wM_perm rfl (Inv.mk hR) ⟨rfl, rfl⟩ ⟨Nat.le_of_ble_eq_true rfl, Nat.le_of_ble_eq_true rfl⟩ ⟨rfl, rfl⟩ ⟨Nat.le_of_ble_eq_true rfl, Nat.le_of_ble_eq_true rfl⟩
end SIMS2
