/-! COMMANDS: steps told at once or by two halves -/
def Plan (b : Nat) (w A : Nat → Int32) (tk a8 b1 a10 b2 : Int32) : Prop := StR (A b) (A (b + 1)) (A (b + 2)) (A (b + 3)) (A (b + 4)) tk a8 b1 a10 b2 ∧ (∀ i, (i < b ∨ b + 4 < i) → A i = w i)
theorem plan0 {w A1 A2 : Nat → Int32} {tk a8 b1 a10 b2 t1 t2 : Int32} (h1 : s_addsStep8_0 (upd (upd (upd (upd (upd w 15 0) 16 0) 17 0) 18 0) 19 0) t1 b1 = (A1, ())) (h2 : s_addsStep8_0 A1 t2 b2 = (A2, ())) (k1 : b1 ≠ 0 → t1 = tk + a8 ∧ 1 ≤ a8.toInt ∧ a8.toInt ≤ 100) (k2 : b2 ≠ 0 → t2 = tk + a10 ∧ 1 ≤ a10.toInt ∧ a10.toInt ≤ 100) : Plan 15 w A2 tk a8 b1 a10 b2 := by
  have f : ∀ i, (i < 15 ∨ 15 + 4 < i) → A2 i = w i := by
    intro i hi
    rw [asR_0 h2 i (by omega), asR_0 h1 i (by omega), upd_ne (by omega), upd_ne (by omega), upd_ne (by omega), upd_ne (by omega), upd_ne (by omega)]
  refine ⟨?_, f⟩
  have e0 : ((upd (upd (upd (upd (upd w 15 0) 16 0) 17 0) 18 0) 19 0)) 15 = 0 := by rw [upd_ne (by decide), upd_ne (by decide), upd_ne (by decide), upd_ne (by decide), upd_eq]
  show StR (A2 15) (A2 16) (A2 17) (A2 18) (A2 19) tk a8 b1 a10 b2
  generalize (upd (upd (upd (upd (upd w 15 0) 16 0) 17 0) 18 0) 19 0) = W0 at *
  have E1 : A1 = (s_addsStep8_0 W0 t1 b1).1 := by rw [h1]
  have E2 : A2 = (s_addsStep8_0 A1 t2 b2).1 := by rw [h2]
  unfold s_addsStep8_0 at E1 E2
  rw [if_pos e0] at E1
  unfold s_addsStep8_00 at E1
  by_cases c1 : b1 = 0
  · rw [if_pos c1] at E1
    have E1 : A1 = W0 := E1
    rw [if_pos (by rw [E1]; exact e0)] at E2
    unfold s_addsStep8_00 at E2
    by_cases c2 : b2 = 0
    · rw [if_pos c2] at E2
      have E2 : A2 = A1 := E2
      refine ⟨?_, fun q => absurd c1 q, fun _ q => absurd c2 q, fun q => absurd c1 q, fun q => absurd c1 q, fun q => absurd c2 q⟩
      rw [E2, E1, e0, c1, c2, stN_00]
    · rw [if_neg c2] at E2
      have E2 : A2 = upd (upd (upd A1 16 t2) 17 b2) 15 1 := E2
      have x0 : A2 15 = 1 := by rw [E2, upd_eq]
      have x1 : A2 16 = t2 := by rw [E2, upd_ne (by decide), upd_ne (by decide), upd_eq]
      have x2 : A2 17 = b2 := by rw [E2, upd_ne (by decide), upd_eq]
      refine ⟨?_, fun q => absurd c1 q, fun _ _ => ⟨x1.trans (k2 c2).1, x2⟩, fun q => absurd c1 q, fun q => absurd c1 q, fun _ => (k2 c2).2⟩
      rw [x0, c1, stN_01 c2]
  · rw [if_neg c1] at E1
    have E1 : A1 = upd (upd (upd W0 16 t1) 17 b1) 15 1 := E1
    have y0 : A1 15 = 1 := by rw [E1, upd_eq]
    have y1 : A1 16 = t1 := by rw [E1, upd_ne (by decide), upd_ne (by decide), upd_eq]
    have y2 : A1 17 = b1 := by rw [E1, upd_ne (by decide), upd_eq]
    rw [if_neg (by rw [y0]; decide)] at E2
    unfold s_addsStep8_01 at E2
    by_cases c2 : b2 = 0
    · rw [if_pos c2] at E2
      have E2 : A2 = A1 := E2
      rw [E2]
      refine ⟨?_, fun _ => ⟨y1.trans (k1 c1).1, y2⟩, fun q => absurd q c1, fun _ q => absurd c2 q, fun _ => (k1 c1).2, fun q => absurd c2 q⟩
      rw [y0, c2, stN_10 c1]
    · rw [if_neg c2] at E2
      have E2 : A2 = upd (upd (upd A1 18 t2) 19 b2) 15 2 := E2
      have x0 : A2 15 = 2 := by rw [E2, upd_eq]
      have x1 : A2 16 = t1 := by rw [E2, upd_ne (by decide), upd_ne (by decide), upd_ne (by decide), y1]
      have x2 : A2 17 = b1 := by rw [E2, upd_ne (by decide), upd_ne (by decide), upd_ne (by decide), y2]
      have x3 : A2 18 = t2 := by rw [E2, upd_ne (by decide), upd_ne (by decide), upd_eq]
      have x4 : A2 19 = b2 := by rw [E2, upd_ne (by decide), upd_eq]
      refine ⟨?_, fun _ => ⟨x1.trans (k1 c1).1, x2⟩, fun q => absurd q c1, fun _ _ => ⟨x3.trans (k2 c2).1, x4⟩, fun _ => (k1 c1).2, fun _ => (k2 c2).2⟩
      rw [x0, stN_11 c1 c2]
theorem PaR_plan0 {w A : Nat → Int32} {r0 r1 r2 r3 r4 pv tk l0 l1 l2 l3 l4 l5 l6 l7 l8 l9 l10 l11 q0 q1 q2 q3 q4 q5 q6 q7 q8 q9 q10 q11 a8 b1 a10 b2 : Int32} (h : PaR w r0 r1 r2 r3 r4 pv tk l0 l1 l2 l3 l4 l5 l6 l7 l8 l9 l10 l11 q0 q1 q2 q3 q4 q5 q6 q7 q8 q9 q10 q11) (p : Plan 15 w A tk a8 b1 a10 b2) : PaR A r0 r1 r2 r3 r4 pv tk l0 l1 l2 l3 l4 l5 l6 l7 a8 b1 a10 b2 q0 q1 q2 q3 q4 q5 q6 q7 q8 q9 q10 q11 := by
  obtain ⟨h1, ⟨c0, c1, c2, c3, c4, c5, c6, c7, -⟩, h3, h4⟩ := h
  obtain ⟨p1, p2⟩ := p
  exact ⟨RuR_congr h1 (fun i hi => p2 i (by omega)), ⟨(p2 7 (by omega)).trans c0, (p2 8 (by omega)).trans c1, (p2 9 (by omega)).trans c2, (p2 10 (by omega)).trans c3, (p2 11 (by omega)).trans c4, (p2 12 (by omega)).trans c5, (p2 13 (by omega)).trans c6, (p2 14 (by omega)).trans c7, p1⟩, CrR_congr h3 (fun i h1 h2 => p2 i (by omega)), h4⟩
theorem plan1 {w A1 A2 : Nat → Int32} {tk a8 b1 a10 b2 t1 t2 : Int32} (h1 : s_addsStep8_1 (upd (upd (upd (upd (upd w 28 0) 29 0) 30 0) 31 0) 32 0) t1 b1 = (A1, ())) (h2 : s_addsStep8_1 A1 t2 b2 = (A2, ())) (k1 : b1 ≠ 0 → t1 = tk + a8 ∧ 1 ≤ a8.toInt ∧ a8.toInt ≤ 100) (k2 : b2 ≠ 0 → t2 = tk + a10 ∧ 1 ≤ a10.toInt ∧ a10.toInt ≤ 100) : Plan 28 w A2 tk a8 b1 a10 b2 := by
  have f : ∀ i, (i < 28 ∨ 28 + 4 < i) → A2 i = w i := by
    intro i hi
    rw [asR_1 h2 i (by omega), asR_1 h1 i (by omega), upd_ne (by omega), upd_ne (by omega), upd_ne (by omega), upd_ne (by omega), upd_ne (by omega)]
  refine ⟨?_, f⟩
  have e0 : ((upd (upd (upd (upd (upd w 28 0) 29 0) 30 0) 31 0) 32 0)) 28 = 0 := by rw [upd_ne (by decide), upd_ne (by decide), upd_ne (by decide), upd_ne (by decide), upd_eq]
  show StR (A2 28) (A2 29) (A2 30) (A2 31) (A2 32) tk a8 b1 a10 b2
  generalize (upd (upd (upd (upd (upd w 28 0) 29 0) 30 0) 31 0) 32 0) = W0 at *
  have E1 : A1 = (s_addsStep8_1 W0 t1 b1).1 := by rw [h1]
  have E2 : A2 = (s_addsStep8_1 A1 t2 b2).1 := by rw [h2]
  unfold s_addsStep8_1 at E1 E2
  rw [if_pos e0] at E1
  unfold s_addsStep8_10 at E1
  by_cases c1 : b1 = 0
  · rw [if_pos c1] at E1
    have E1 : A1 = W0 := E1
    rw [if_pos (by rw [E1]; exact e0)] at E2
    unfold s_addsStep8_10 at E2
    by_cases c2 : b2 = 0
    · rw [if_pos c2] at E2
      have E2 : A2 = A1 := E2
      refine ⟨?_, fun q => absurd c1 q, fun _ q => absurd c2 q, fun q => absurd c1 q, fun q => absurd c1 q, fun q => absurd c2 q⟩
      rw [E2, E1, e0, c1, c2, stN_00]
    · rw [if_neg c2] at E2
      have E2 : A2 = upd (upd (upd A1 29 t2) 30 b2) 28 1 := E2
      have x0 : A2 28 = 1 := by rw [E2, upd_eq]
      have x1 : A2 29 = t2 := by rw [E2, upd_ne (by decide), upd_ne (by decide), upd_eq]
      have x2 : A2 30 = b2 := by rw [E2, upd_ne (by decide), upd_eq]
      refine ⟨?_, fun q => absurd c1 q, fun _ _ => ⟨x1.trans (k2 c2).1, x2⟩, fun q => absurd c1 q, fun q => absurd c1 q, fun _ => (k2 c2).2⟩
      rw [x0, c1, stN_01 c2]
  · rw [if_neg c1] at E1
    have E1 : A1 = upd (upd (upd W0 29 t1) 30 b1) 28 1 := E1
    have y0 : A1 28 = 1 := by rw [E1, upd_eq]
    have y1 : A1 29 = t1 := by rw [E1, upd_ne (by decide), upd_ne (by decide), upd_eq]
    have y2 : A1 30 = b1 := by rw [E1, upd_ne (by decide), upd_eq]
    rw [if_neg (by rw [y0]; decide)] at E2
    unfold s_addsStep8_11 at E2
    by_cases c2 : b2 = 0
    · rw [if_pos c2] at E2
      have E2 : A2 = A1 := E2
      rw [E2]
      refine ⟨?_, fun _ => ⟨y1.trans (k1 c1).1, y2⟩, fun q => absurd q c1, fun _ q => absurd c2 q, fun _ => (k1 c1).2, fun q => absurd c2 q⟩
      rw [y0, c2, stN_10 c1]
    · rw [if_neg c2] at E2
      have E2 : A2 = upd (upd (upd A1 31 t2) 32 b2) 28 2 := E2
      have x0 : A2 28 = 2 := by rw [E2, upd_eq]
      have x1 : A2 29 = t1 := by rw [E2, upd_ne (by decide), upd_ne (by decide), upd_ne (by decide), y1]
      have x2 : A2 30 = b1 := by rw [E2, upd_ne (by decide), upd_ne (by decide), upd_ne (by decide), y2]
      have x3 : A2 31 = t2 := by rw [E2, upd_ne (by decide), upd_ne (by decide), upd_eq]
      have x4 : A2 32 = b2 := by rw [E2, upd_ne (by decide), upd_eq]
      refine ⟨?_, fun _ => ⟨x1.trans (k1 c1).1, x2⟩, fun q => absurd q c1, fun _ _ => ⟨x3.trans (k2 c2).1, x4⟩, fun _ => (k1 c1).2, fun _ => (k2 c2).2⟩
      rw [x0, stN_11 c1 c2]
theorem PaR_plan1 {w A : Nat → Int32} {r0 r1 r2 r3 r4 pv tk l0 l1 l2 l3 l4 l5 l6 l7 l8 l9 l10 l11 q0 q1 q2 q3 q4 q5 q6 q7 q8 q9 q10 q11 a8 b1 a10 b2 : Int32} (h : PaR w r0 r1 r2 r3 r4 pv tk l0 l1 l2 l3 l4 l5 l6 l7 l8 l9 l10 l11 q0 q1 q2 q3 q4 q5 q6 q7 q8 q9 q10 q11) (p : Plan 28 w A tk a8 b1 a10 b2) : PaR A r0 r1 r2 r3 r4 pv tk l0 l1 l2 l3 l4 l5 l6 l7 l8 l9 l10 l11 q0 q1 q2 q3 q4 q5 q6 q7 a8 b1 a10 b2 := by
  obtain ⟨h1, h2, ⟨c0, c1, c2, c3, c4, c5, c6, c7, -⟩, h4⟩ := h
  obtain ⟨p1, p2⟩ := p
  exact ⟨RuR_congr h1 (fun i hi => p2 i (by omega)), CrR_congr h2 (fun i h1 h2 => p2 i (by omega)), ⟨(p2 20 (by omega)).trans c0, (p2 21 (by omega)).trans c1, (p2 22 (by omega)).trans c2, (p2 23 (by omega)).trans c3, (p2 24 (by omega)).trans c4, (p2 25 (by omega)).trans c5, (p2 26 (by omega)).trans c6, (p2 27 (by omega)).trans c7, p1⟩, h4⟩
theorem half_t : ∀ i : Nat, i < 51 → s_halfSwing (Int32.ofInt ((i : Int) + 10)) ≤ 20 := by decide +kernel
theorem half_le {rp : Int32} (h : 10 ≤ rp.toInt ∧ rp.toInt ≤ 60) : s_halfSwing rp ≤ 20 := by
  have h1 := half_t (rp.toInt - 10).toNat (by omega)
  have e : ((rp.toInt - 10).toNat : Int) + 10 = rp.toInt := by omega
  rw [e, Int32.ofInt_toInt] at h1
  exact h1
theorem one_p {pa : Int32} (h : 0 ≤ pa.toInt ∧ pa.toInt ≤ 20) : 1 ≤ (1 + pa).toInt ∧ (1 + pa).toInt ≤ 100 := by
  have e1 : (1 : Int32).toInt = 1 := by decide
  rw [addI (by omega) (by omega), e1]; omega
theorem tk_p {tk pa : Int32} : (tk + 1) + pa = tk + (1 + pa) := Int32.add_assoc tk 1 pa
theorem x_x (x : Int32) : x - x = 0 := Int32.sub_self x
theorem one0 : (1 : Int32) ≤ 1 := by decide
theorem one_b : 1 ≤ (1 : Int32).toInt ∧ (1 : Int32).toInt ≤ 100 := by decide
theorem cmdn_0 {nw A : Nat → Int32} {w ret : Int32} (h : s_commands8n_0 nw w = (ret, A)) : ∃ B, Plan 15 nw B (nw 6) 1 (w - (nw 13)) (1 + 0) 0 ∧ ((nw 5 = (-4) ∧ ret = 1 ∧ A = B) ∨ (¬ nw 5 = (-4) ∧ ret = 2 ∧ Plan 28 B A (nw 6) 1 (w - (nw 26)) (1 + 0) 0)) := by
  unfold s_commands8n_0 at h
  obtain ⟨aA, ae⟩ := bEx1 (s_addsStep8_0 (upd (upd (upd (upd (upd nw 15 0) 16 0) 17 0) 18 0) 19 0) ((nw 6) + 1) (w - (nw 13)))
  rw [ae] at h
  dsimp only at h
  obtain ⟨aB, af⟩ := bEx1 (s_addsStep8_0 aA (((aA 6) + 1) + (-1)) ((w - (nw 13)) - (w - (nw 13))))
  rw [af] at h
  dsimp only at h
  have a6 : aA 6 = nw 6 := by rw [asR_0 ae 6 (by omega), upd_ne (by decide), upd_ne (by decide), upd_ne (by decide), upd_ne (by decide), upd_ne (by decide)]
  rw [x_x] at af
  have ap : Plan 15 nw aB (nw 6) 1 (w - (nw 13)) (1 + 0) 0 := plan0 ae af (fun _ => ⟨rfl, one_b⟩) (fun q => absurd rfl q)
  refine ⟨aB, ap, ?_⟩
  have a5 : aB 5 = nw 5 := ap.2 5 (by omega)
  have a26 : aB 26 = nw 26 := ap.2 26 (by omega)
  have aB6 : aB 6 = nw 6 := ap.2 6 (by omega)
  by_cases c1 : nw 5 = (-4)
  · rw [if_neg (by unfold s_heeds8_10; rw [if_pos (by rw [a5]; exact c1)]; decide)] at h
    exact Or.inl ⟨c1, (Prod.mk.inj h).1.symm, (Prod.mk.inj h).2.symm⟩
  · rw [if_pos (by unfold s_heeds8_10; rw [if_neg (by rw [a5]; exact c1)])] at h
    obtain ⟨bA, be⟩ := bEx1 (s_addsStep8_1 (upd (upd (upd (upd (upd aB 28 0) 29 0) 30 0) 31 0) 32 0) ((aB 6) + 1) (w - (aB 26)))
    rw [be] at h
    dsimp only at h
    obtain ⟨bB, bf⟩ := bEx1 (s_addsStep8_1 bA (((bA 6) + 1) + (-1)) ((w - (aB 26)) - (w - (aB 26))))
    rw [bf] at h
    dsimp only at h
    have b6 : bA 6 = aB 6 := by rw [asR_1 be 6 (by omega), upd_ne (by decide), upd_ne (by decide), upd_ne (by decide), upd_ne (by decide), upd_ne (by decide)]
    rw [x_x] at bf
    have bp : Plan 28 aB bB (aB 6) 1 (w - (aB 26)) (1 + 0) 0 := plan1 be bf (fun _ => ⟨rfl, one_b⟩) (fun q => absurd rfl q)
    rw [aB6, a26] at bp
    have h1 := (Prod.mk.inj h).1
    have h2 := (Prod.mk.inj h).2
    subst h2
    exact Or.inr ⟨c1, h1.symm, bp⟩
theorem cmdn_1 {nw A : Nat → Int32} {w ret : Int32} (h : s_commands8n_1 nw w = (ret, A)) : (nw 5 = (-4) ∧ ret = 1 ∧ Plan 28 nw A (nw 6) 1 (w - (nw 26)) (1 + 0) 0) ∨ (¬ nw 5 = (-4) ∧ ret = 2 ∧ ∃ B, Plan 15 nw B (nw 6) 1 (w - (nw 13)) (1 + 0) 0 ∧ Plan 28 B A (nw 6) 1 (w - (nw 26)) (1 + 0) 0) := by
  unfold s_commands8n_1 at h
  by_cases c1 : nw 5 = (-4)
  · rw [if_neg (by unfold s_heeds8_01; rw [if_pos c1]; decide)] at h
    obtain ⟨bA, be⟩ := bEx1 (s_addsStep8_1 (upd (upd (upd (upd (upd nw 28 0) 29 0) 30 0) 31 0) 32 0) ((nw 6) + 1) (w - (nw 26)))
    rw [be] at h
    dsimp only at h
    obtain ⟨bB, bf⟩ := bEx1 (s_addsStep8_1 bA (((bA 6) + 1) + (-1)) ((w - (nw 26)) - (w - (nw 26))))
    rw [bf] at h
    dsimp only at h
    have b6 : bA 6 = nw 6 := by rw [asR_1 be 6 (by omega), upd_ne (by decide), upd_ne (by decide), upd_ne (by decide), upd_ne (by decide), upd_ne (by decide)]
    rw [x_x] at bf
    have bp : Plan 28 nw bB (nw 6) 1 (w - (nw 26)) (1 + 0) 0 := plan1 be bf (fun _ => ⟨rfl, one_b⟩) (fun q => absurd rfl q)
    have h1 := (Prod.mk.inj h).1
    have h2 := (Prod.mk.inj h).2
    subst h2
    exact Or.inl ⟨c1, h1.symm, bp⟩
  · rw [if_pos (by unfold s_heeds8_01; rw [if_neg c1])] at h
    obtain ⟨aA, ae⟩ := bEx1 (s_addsStep8_0 (upd (upd (upd (upd (upd nw 15 0) 16 0) 17 0) 18 0) 19 0) ((nw 6) + 1) (w - (nw 13)))
    rw [ae] at h
    dsimp only at h
    obtain ⟨aB, af⟩ := bEx1 (s_addsStep8_0 aA (((aA 6) + 1) + (-1)) ((w - (nw 13)) - (w - (nw 13))))
    rw [af] at h
    dsimp only at h
    have a6 : aA 6 = nw 6 := by rw [asR_0 ae 6 (by omega), upd_ne (by decide), upd_ne (by decide), upd_ne (by decide), upd_ne (by decide), upd_ne (by decide)]
    rw [x_x] at af
    have ap : Plan 15 nw aB (nw 6) 1 (w - (nw 13)) (1 + 0) 0 := plan0 ae af (fun _ => ⟨rfl, one_b⟩) (fun q => absurd rfl q)
    have a5 : aB 5 = nw 5 := ap.2 5 (by omega)
    have a26 : aB 26 = nw 26 := ap.2 26 (by omega)
    have aB6 : aB 6 = nw 6 := ap.2 6 (by omega)
    obtain ⟨bA, be⟩ := bEx1 (s_addsStep8_1 (upd (upd (upd (upd (upd aB 28 0) 29 0) 30 0) 31 0) 32 0) ((aB 6) + 1) (w - (aB 26)))
    rw [be] at h
    dsimp only at h
    obtain ⟨bB, bf⟩ := bEx1 (s_addsStep8_1 bA (((bA 6) + 1) + (-1)) ((w - (aB 26)) - (w - (aB 26))))
    rw [bf] at h
    dsimp only at h
    have b6 : bA 6 = aB 6 := by rw [asR_1 be 6 (by omega), upd_ne (by decide), upd_ne (by decide), upd_ne (by decide), upd_ne (by decide), upd_ne (by decide)]
    rw [x_x] at bf
    have bp : Plan 28 aB bB (aB 6) 1 (w - (aB 26)) (1 + 0) 0 := plan1 be bf (fun _ => ⟨rfl, one_b⟩) (fun q => absurd rfl q)
    rw [aB6, a26] at bp
    have h1 := (Prod.mk.inj h).1
    have h2 := (Prod.mk.inj h).2
    subst h2
    exact Or.inr ⟨c1, h1.symm, aB, ap, bp⟩
theorem cmdp_0 {nw A : Nat → Int32} {w pa ret : Int32} (hp : 0 ≤ pa.toInt ∧ pa.toInt ≤ 20) (h : s_commands8p_0 nw w pa = (ret, A)) : ∃ B, Plan 15 nw B (nw 6) 1 ((w - (nw 13)) / 2) (1 + pa) ((w - (nw 13)) - ((w - (nw 13)) / 2)) ∧ ((nw 5 = (-4) ∧ ret = 1 ∧ A = B) ∨ (¬ nw 5 = (-4) ∧ ret = 2 ∧ Plan 28 B A (nw 6) 1 ((w - (nw 26)) / 2) (1 + pa) ((w - (nw 26)) - ((w - (nw 26)) / 2)))) := by
  unfold s_commands8p_0 at h
  rw [if_pos (by rw [leI, zI]; exact hp.1)] at h
  obtain ⟨aA, ae⟩ := bEx1 (s_addsStep8_0 (upd (upd (upd (upd (upd nw 15 0) 16 0) 17 0) 18 0) 19 0) ((nw 6) + 1) ((w - (nw 13)) / 2))
  rw [ae] at h
  dsimp only at h
  obtain ⟨aB, af⟩ := bEx1 (s_addsStep8_0 aA (((aA 6) + 1) + pa) ((w - (nw 13)) - ((w - (nw 13)) / 2)))
  rw [af] at h
  dsimp only at h
  have a6 : aA 6 = nw 6 := by rw [asR_0 ae 6 (by omega), upd_ne (by decide), upd_ne (by decide), upd_ne (by decide), upd_ne (by decide), upd_ne (by decide)]
  have ap : Plan 15 nw aB (nw 6) 1 ((w - (nw 13)) / 2) (1 + pa) ((w - (nw 13)) - ((w - (nw 13)) / 2)) := plan0 ae af (fun _ => ⟨rfl, one_b⟩) (fun _ => ⟨by rw [a6]; exact tk_p, one_p hp⟩)
  refine ⟨aB, ap, ?_⟩
  have a5 : aB 5 = nw 5 := ap.2 5 (by omega)
  have a26 : aB 26 = nw 26 := ap.2 26 (by omega)
  have aB6 : aB 6 = nw 6 := ap.2 6 (by omega)
  by_cases c1 : nw 5 = (-4)
  · rw [if_neg (by unfold s_heeds8_10; rw [if_pos (by rw [a5]; exact c1)]; decide)] at h
    exact Or.inl ⟨c1, (Prod.mk.inj h).1.symm, (Prod.mk.inj h).2.symm⟩
  · rw [if_pos (by unfold s_heeds8_10; rw [if_neg (by rw [a5]; exact c1)])] at h
    obtain ⟨bA, be⟩ := bEx1 (s_addsStep8_1 (upd (upd (upd (upd (upd aB 28 0) 29 0) 30 0) 31 0) 32 0) ((aB 6) + 1) ((w - (aB 26)) / 2))
    rw [be] at h
    dsimp only at h
    obtain ⟨bB, bf⟩ := bEx1 (s_addsStep8_1 bA (((bA 6) + 1) + pa) ((w - (aB 26)) - ((w - (aB 26)) / 2)))
    rw [bf] at h
    dsimp only at h
    have b6 : bA 6 = aB 6 := by rw [asR_1 be 6 (by omega), upd_ne (by decide), upd_ne (by decide), upd_ne (by decide), upd_ne (by decide), upd_ne (by decide)]
    have bp : Plan 28 aB bB (aB 6) 1 ((w - (aB 26)) / 2) (1 + pa) ((w - (aB 26)) - ((w - (aB 26)) / 2)) := plan1 be bf (fun _ => ⟨rfl, one_b⟩) (fun _ => ⟨by rw [b6]; exact tk_p, one_p hp⟩)
    rw [aB6, a26] at bp
    have h1 := (Prod.mk.inj h).1
    have h2 := (Prod.mk.inj h).2
    subst h2
    exact Or.inr ⟨c1, h1.symm, bp⟩
theorem cmdp_1 {nw A : Nat → Int32} {w pa ret : Int32} (hp : 0 ≤ pa.toInt ∧ pa.toInt ≤ 20) (h : s_commands8p_1 nw w pa = (ret, A)) : (nw 5 = (-4) ∧ ret = 1 ∧ Plan 28 nw A (nw 6) 1 ((w - (nw 26)) / 2) (1 + pa) ((w - (nw 26)) - ((w - (nw 26)) / 2))) ∨ (¬ nw 5 = (-4) ∧ ret = 2 ∧ ∃ B, Plan 15 nw B (nw 6) 1 ((w - (nw 13)) / 2) (1 + pa) ((w - (nw 13)) - ((w - (nw 13)) / 2)) ∧ Plan 28 B A (nw 6) 1 ((w - (nw 26)) / 2) (1 + pa) ((w - (nw 26)) - ((w - (nw 26)) / 2))) := by
  unfold s_commands8p_1 at h
  by_cases c1 : nw 5 = (-4)
  · rw [if_neg (by unfold s_heeds8_01; rw [if_pos c1]; decide)] at h
    rw [if_pos (by rw [leI, zI]; exact hp.1)] at h
    obtain ⟨bA, be⟩ := bEx1 (s_addsStep8_1 (upd (upd (upd (upd (upd nw 28 0) 29 0) 30 0) 31 0) 32 0) ((nw 6) + 1) ((w - (nw 26)) / 2))
    rw [be] at h
    dsimp only at h
    obtain ⟨bB, bf⟩ := bEx1 (s_addsStep8_1 bA (((bA 6) + 1) + pa) ((w - (nw 26)) - ((w - (nw 26)) / 2)))
    rw [bf] at h
    dsimp only at h
    have b6 : bA 6 = nw 6 := by rw [asR_1 be 6 (by omega), upd_ne (by decide), upd_ne (by decide), upd_ne (by decide), upd_ne (by decide), upd_ne (by decide)]
    have bp : Plan 28 nw bB (nw 6) 1 ((w - (nw 26)) / 2) (1 + pa) ((w - (nw 26)) - ((w - (nw 26)) / 2)) := plan1 be bf (fun _ => ⟨rfl, one_b⟩) (fun _ => ⟨by rw [b6]; exact tk_p, one_p hp⟩)
    have h1 := (Prod.mk.inj h).1
    have h2 := (Prod.mk.inj h).2
    subst h2
    exact Or.inl ⟨c1, h1.symm, bp⟩
  · rw [if_pos (by unfold s_heeds8_01; rw [if_neg c1])] at h
    rw [if_pos (by rw [leI, zI]; exact hp.1)] at h
    obtain ⟨aA, ae⟩ := bEx1 (s_addsStep8_0 (upd (upd (upd (upd (upd nw 15 0) 16 0) 17 0) 18 0) 19 0) ((nw 6) + 1) ((w - (nw 13)) / 2))
    rw [ae] at h
    dsimp only at h
    obtain ⟨aB, af⟩ := bEx1 (s_addsStep8_0 aA (((aA 6) + 1) + pa) ((w - (nw 13)) - ((w - (nw 13)) / 2)))
    rw [af] at h
    dsimp only at h
    have a6 : aA 6 = nw 6 := by rw [asR_0 ae 6 (by omega), upd_ne (by decide), upd_ne (by decide), upd_ne (by decide), upd_ne (by decide), upd_ne (by decide)]
    have ap : Plan 15 nw aB (nw 6) 1 ((w - (nw 13)) / 2) (1 + pa) ((w - (nw 13)) - ((w - (nw 13)) / 2)) := plan0 ae af (fun _ => ⟨rfl, one_b⟩) (fun _ => ⟨by rw [a6]; exact tk_p, one_p hp⟩)
    have a5 : aB 5 = nw 5 := ap.2 5 (by omega)
    have a26 : aB 26 = nw 26 := ap.2 26 (by omega)
    have aB6 : aB 6 = nw 6 := ap.2 6 (by omega)
    obtain ⟨bA, be⟩ := bEx1 (s_addsStep8_1 (upd (upd (upd (upd (upd aB 28 0) 29 0) 30 0) 31 0) 32 0) ((aB 6) + 1) ((w - (aB 26)) / 2))
    rw [be] at h
    dsimp only at h
    obtain ⟨bB, bf⟩ := bEx1 (s_addsStep8_1 bA (((bA 6) + 1) + pa) ((w - (aB 26)) - ((w - (aB 26)) / 2)))
    rw [bf] at h
    dsimp only at h
    have b6 : bA 6 = aB 6 := by rw [asR_1 be 6 (by omega), upd_ne (by decide), upd_ne (by decide), upd_ne (by decide), upd_ne (by decide), upd_ne (by decide)]
    have bp : Plan 28 aB bB (aB 6) 1 ((w - (aB 26)) / 2) (1 + pa) ((w - (aB 26)) - ((w - (aB 26)) / 2)) := plan1 be bf (fun _ => ⟨rfl, one_b⟩) (fun _ => ⟨by rw [b6]; exact tk_p, one_p hp⟩)
    rw [aB6, a26] at bp
    have h1 := (Prod.mk.inj h).1
    have h2 := (Prod.mk.inj h).2
    subst h2
    exact Or.inr ⟨c1, h1.symm, aB, ap, bp⟩
theorem shapes_0 {nw A : Nat → Int32} {w ret : Int32} (h9 : 10 ≤ (nw 9).toInt ∧ (nw 9).toInt ≤ 60) (h22 : 10 ≤ (nw 22).toInt ∧ (nw 22).toInt ≤ 60) (h : s_shapes8_0 nw w = (ret, A)) : ∃ B, Plan 15 nw B (nw 6) 1 ((w - (nw 13)) / 2) (1 + nI (s_halfSwing (nw 9))) ((w - (nw 13)) - ((w - (nw 13)) / 2)) ∧ ((nw 5 = (-4) ∧ ret = 1 ∧ A = B) ∨ (¬ nw 5 = (-4) ∧ ret = 2 ∧ Plan 28 B A (nw 6) 1 ((w - (nw 26)) / 2) (1 + nI (s_halfSwing (nw 22))) ((w - (nw 26)) - ((w - (nw 26)) / 2)))) := by
  have p9 : 0 ≤ (nI (s_halfSwing (nw 9))).toInt ∧ (nI (s_halfSwing (nw 9))).toInt ≤ 20 := by have := half_le h9; rw [nIt (by omega)]; omega
  have p22 : 0 ≤ (nI (s_halfSwing (nw 22))).toInt ∧ (nI (s_halfSwing (nw 22))).toInt ≤ 20 := by have := half_le h22; rw [nIt (by omega)]; omega
  have u5 : ∀ (X : Nat → Int32) (y z : Int32), upd (upd X 5 y) 5 z = upd X 5 z := by
    intro X y z; funext i
    by_cases q : i = 5
    · subst q; rw [upd_eq, upd_eq]
    · rw [upd_ne q, upd_ne q, upd_ne q]
  have un : ∀ (X : Nat → Int32) (y : Int32) (i : Nat), i ≠ 5 → upd X 5 y i = X i := fun X y i q => upd_ne q
  unfold s_shapes8_0 at h
  rw [half_eq h9] at h
  obtain ⟨x0, x1, ex⟩ := bEx2 (s_commands8p_0 (upd nw 5 (-4)) w (nI (s_halfSwing (nw 9))))
  rw [ex] at h
  dsimp only at h
  obtain ⟨B, pB, hB⟩ := cmdp_0 p9 ex
  rw [un nw _ 6 (by decide), un nw _ 13 (by decide)] at pB
  rcases hB with ⟨-, hr, hA⟩ | ⟨hf, -⟩
  · subst hA
    have e22 : x1 22 = nw 22 := (pB.2 22 (by omega)).trans (un nw _ 22 (by decide))
    have pC : Plan 15 nw (upd x1 5 (nw 5)) (nw 6) 1 ((w - nw 13) / 2) (1 + nI (s_halfSwing (nw 9))) ((w - nw 13) - ((w - nw 13) / 2)) := by
      refine ⟨?_, fun i hi => ?_⟩
      · show StR (upd x1 5 (nw 5) 15) (upd x1 5 (nw 5) 16) (upd x1 5 (nw 5) 17) (upd x1 5 (nw 5) 18) (upd x1 5 (nw 5) 19) _ _ _ _ _
        rw [un _ _ 15 (by decide), un _ _ 16 (by decide), un _ _ 17 (by decide), un _ _ 18 (by decide), un _ _ 19 (by decide)]
        exact pB.1
      · by_cases q : i = 5
        · subst q; rw [upd_eq]
        · rw [un _ _ i q, pB.2 i hi, un _ _ i q]
    refine ⟨upd x1 5 (nw 5), pC, ?_⟩
    by_cases c1 : nw 5 = (-4)
    · rw [if_neg (by unfold s_heeds8_10; rw [upd_eq, if_pos c1]; decide)] at h
      have h1 := (Prod.mk.inj h).1
      have h2 := (Prod.mk.inj h).2
      exact Or.inl ⟨c1, by rw [← h1, hr]; decide, h2.symm⟩
    · rw [if_pos (by unfold s_heeds8_10; rw [upd_eq, if_neg c1])] at h
      rw [u5, e22, half_eq h22] at h
      obtain ⟨y0, y1, ey⟩ := bEx2 (s_commands8p_1 (upd x1 5 (-4)) w (nI (s_halfSwing (nw 22))))
      rw [ey] at h
      dsimp only at h
      rcases cmdp_1 p22 ey with ⟨-, hr2, pD⟩ | ⟨hf, -⟩
      · have f6 : x1 6 = nw 6 := (pB.2 6 (by omega)).trans (un nw _ 6 (by decide))
        have f26 : x1 26 = nw 26 := (pB.2 26 (by omega)).trans (un nw _ 26 (by decide))
        rw [un x1 _ 6 (by decide), un x1 _ 26 (by decide), f6, f26] at pD
        have h1 := (Prod.mk.inj h).1
        have h2 := (Prod.mk.inj h).2
        refine Or.inr ⟨c1, by rw [← h1, hr, hr2]; decide, ?_⟩
        subst h2
        refine ⟨?_, fun i hi => ?_⟩
        · show StR (upd y1 5 (nw 5) 28) (upd y1 5 (nw 5) 29) (upd y1 5 (nw 5) 30) (upd y1 5 (nw 5) 31) (upd y1 5 (nw 5) 32) _ _ _ _ _
          rw [un _ _ 28 (by decide), un _ _ 29 (by decide), un _ _ 30 (by decide), un _ _ 31 (by decide), un _ _ 32 (by decide)]
          exact pD.1
        · by_cases q : i = 5
          · subst q; rw [upd_eq, upd_eq]
          · rw [un _ _ i q, un _ _ i q, pD.2 i hi, un _ _ i q]
      · exact absurd upd_eq hf
  · exact absurd upd_eq hf
theorem shapes_1 {nw A : Nat → Int32} {w ret : Int32} (h9 : 10 ≤ (nw 9).toInt ∧ (nw 9).toInt ≤ 60) (h22 : 10 ≤ (nw 22).toInt ∧ (nw 22).toInt ≤ 60) (h : s_shapes8_1 nw w = (ret, A)) : (nw 5 = (-4) ∧ ret = 1 ∧ Plan 28 nw A (nw 6) 1 ((w - (nw 26)) / 2) (1 + nI (s_halfSwing (nw 22))) ((w - (nw 26)) - ((w - (nw 26)) / 2))) ∨ (¬ nw 5 = (-4) ∧ ret = 2 ∧ ∃ B, Plan 15 nw B (nw 6) 1 ((w - (nw 13)) / 2) (1 + nI (s_halfSwing (nw 9))) ((w - (nw 13)) - ((w - (nw 13)) / 2)) ∧ Plan 28 B A (nw 6) 1 ((w - (nw 26)) / 2) (1 + nI (s_halfSwing (nw 22))) ((w - (nw 26)) - ((w - (nw 26)) / 2))) := by
  have p9 : 0 ≤ (nI (s_halfSwing (nw 9))).toInt ∧ (nI (s_halfSwing (nw 9))).toInt ≤ 20 := by have := half_le h9; rw [nIt (by omega)]; omega
  have p22 : 0 ≤ (nI (s_halfSwing (nw 22))).toInt ∧ (nI (s_halfSwing (nw 22))).toInt ≤ 20 := by have := half_le h22; rw [nIt (by omega)]; omega
  have u5 : ∀ (X : Nat → Int32) (y z : Int32), upd (upd X 5 y) 5 z = upd X 5 z := by
    intro X y z; funext i
    by_cases q : i = 5
    · subst q; rw [upd_eq, upd_eq]
    · rw [upd_ne q, upd_ne q, upd_ne q]
  have un : ∀ (X : Nat → Int32) (y : Int32) (i : Nat), i ≠ 5 → upd X 5 y i = X i := fun X y i q => upd_ne q
  unfold s_shapes8_1 at h
  by_cases c1 : nw 5 = (-4)
  · rw [if_neg (by unfold s_heeds8_01; rw [if_pos c1]; decide), half_eq h22] at h
    obtain ⟨y0, y1, ey⟩ := bEx2 (s_commands8p_1 (upd nw 5 (-4)) w (nI (s_halfSwing (nw 22))))
    rw [ey] at h
    dsimp only at h
    rcases cmdp_1 p22 ey with ⟨-, hr2, pD⟩ | ⟨hf, -⟩
    · rw [un nw _ 6 (by decide), un nw _ 26 (by decide)] at pD
      have h1 := (Prod.mk.inj h).1
      have h2 := (Prod.mk.inj h).2
      refine Or.inl ⟨c1, by rw [← h1, hr2]; decide, ?_⟩
      subst h2
      refine ⟨?_, fun i hi => ?_⟩
      · show StR (upd y1 5 (nw 5) 28) (upd y1 5 (nw 5) 29) (upd y1 5 (nw 5) 30) (upd y1 5 (nw 5) 31) (upd y1 5 (nw 5) 32) _ _ _ _ _
        rw [un _ _ 28 (by decide), un _ _ 29 (by decide), un _ _ 30 (by decide), un _ _ 31 (by decide), un _ _ 32 (by decide)]
        exact pD.1
      · by_cases q : i = 5
        · subst q; rw [upd_eq]
        · rw [un _ _ i q, pD.2 i hi, un _ _ i q]
    · exact absurd upd_eq hf
  · rw [if_pos (by unfold s_heeds8_01; rw [if_neg c1]), half_eq h9] at h
    obtain ⟨x0, x1, ex⟩ := bEx2 (s_commands8p_0 (upd nw 5 (-4)) w (nI (s_halfSwing (nw 9))))
    rw [ex] at h
    dsimp only at h
    obtain ⟨B, pB, hB⟩ := cmdp_0 p9 ex
    rw [un nw _ 6 (by decide), un nw _ 13 (by decide)] at pB
    rcases hB with ⟨-, hr, hA⟩ | ⟨hf, -⟩
    · subst hA
      have e22 : x1 22 = nw 22 := (pB.2 22 (by omega)).trans (un nw _ 22 (by decide))
      have pC : Plan 15 nw (upd x1 5 (nw 5)) (nw 6) 1 ((w - nw 13) / 2) (1 + nI (s_halfSwing (nw 9))) ((w - nw 13) - ((w - nw 13) / 2)) := by
        refine ⟨?_, fun i hi => ?_⟩
        · show StR (upd x1 5 (nw 5) 15) (upd x1 5 (nw 5) 16) (upd x1 5 (nw 5) 17) (upd x1 5 (nw 5) 18) (upd x1 5 (nw 5) 19) _ _ _ _ _
          rw [un _ _ 15 (by decide), un _ _ 16 (by decide), un _ _ 17 (by decide), un _ _ 18 (by decide), un _ _ 19 (by decide)]
          exact pB.1
        · by_cases q : i = 5
          · subst q; rw [upd_eq]
          · rw [un _ _ i q, pB.2 i hi, un _ _ i q]
      rw [u5, e22, half_eq h22] at h
      obtain ⟨y0, y1, ey⟩ := bEx2 (s_commands8p_1 (upd x1 5 (-4)) w (nI (s_halfSwing (nw 22))))
      rw [ey] at h
      dsimp only at h
      rcases cmdp_1 p22 ey with ⟨-, hr2, pD⟩ | ⟨hf, -⟩
      · have f6 : x1 6 = nw 6 := (pB.2 6 (by omega)).trans (un nw _ 6 (by decide))
        have f26 : x1 26 = nw 26 := (pB.2 26 (by omega)).trans (un nw _ 26 (by decide))
        rw [un x1 _ 6 (by decide), un x1 _ 26 (by decide), f6, f26] at pD
        have h1 := (Prod.mk.inj h).1
        have h2 := (Prod.mk.inj h).2
        refine Or.inr ⟨c1, by rw [← h1, hr, hr2]; decide, upd x1 5 (nw 5), pC, ?_⟩
        subst h2
        refine ⟨?_, fun i hi => ?_⟩
        · show StR (upd y1 5 (nw 5) 28) (upd y1 5 (nw 5) 29) (upd y1 5 (nw 5) 30) (upd y1 5 (nw 5) 31) (upd y1 5 (nw 5) 32) _ _ _ _ _
          rw [un _ _ 28 (by decide), un _ _ 29 (by decide), un _ _ 30 (by decide), un _ _ 31 (by decide), un _ _ 32 (by decide)]
          exact pD.1
        · by_cases q : i = 5
          · subst q; rw [upd_eq, upd_eq]
          · rw [un _ _ i q, un _ _ i q, pD.2 i hi, un _ _ i q]
      · exact absurd upd_eq hf
    · exact absurd upd_eq hf
theorem co_iff {r0 r1 r2 r3 r4 pv : Int32} (h : RuB r0 r1 r2 r3 r4 pv) : s_isCoupled pv = true ↔ ¬ pv = (-4) := by
  obtain ⟨-, -, -, -, -, h5⟩ := h
  unfold s_isCoupled
  rcases h5 with q | ⟨q, q2⟩
  · rw [q]; decide
  · rw [if_neg (by rw [ltI, zI]; omega)]
    refine ⟨fun _ z => ?_, fun _ => rfl⟩
    rw [z, show (-4 : Int32).toInt = -4 from by decide] at q
    omega
set_option maxHeartbeats 1000000 in
theorem tell_n_0 {w0 A : Nat → Int32} {r0 r1 r2 r3 r4 pv tk l0 l1 l2 l3 l4 l5 l6 l7 l8 l9 l10 l11 q0 q1 q2 q3 q4 q5 q6 q7 q8 q9 q10 q11 x8 x9 x10 x11 y8 y9 y10 y11 w ret ret8 : Int32} (h : PaR w0 r0 r1 r2 r3 r4 pv tk l0 l1 l2 l3 l4 l5 l6 l7 l8 l9 l10 l11 q0 q1 q2 q3 q4 q5 q6 q7 q8 q9 q10 q11) (hr : s_commands8n_0 w0 w = (ret8, A)) (hc : s_tellAtOnce pv l6 l8 l9 l10 l11 q6 q8 q9 q10 q11 0 w = (ret, x8, x9, x10, x11, y8, y9, y10, y11)) : ret = ret8 ∧ PaR A r0 r1 r2 r3 r4 pv tk l0 l1 l2 l3 l4 l5 l6 l7 x8 x9 x10 x11 q0 q1 q2 q3 q4 q5 q6 q7 y8 y9 y10 y11 ∧ (∀ i, 33 ≤ i → A i = w0 i) := by
  have hco := co_iff h.2.2.2.1
  have g5 : w0 5 = pv := h.1.2.2.2.2.2.1
  have g6 : w0 6 = tk := h.1.2.2.2.2.2.2
  have g13 : w0 13 = l6 := h.2.1.2.2.2.2.2.2.1
  have g26 : w0 26 = q6 := h.2.2.1.2.2.2.2.2.2.1
  have g9 : w0 9 = l2 := h.2.1.2.2.1
  have g22 : w0 22 = q2 := h.2.2.1.2.2.1
  have hq := cmdn_0 hr
  rw [g5, g6, g13, g26] at hq
  unfold s_tellAtOnce s_leftHeeds s_rightHeeds s_heeding at hc
  obtain ⟨B, pB, hB⟩ := hq
  rw [if_pos (by rw [if_pos rfl])] at hc
  rcases hB with ⟨c1, hr1, hA⟩ | ⟨c1, hr1, pA⟩
  · have nc : ¬ s_isCoupled pv = true := fun q => hco.mp q c1
    rw [if_neg (by rw [if_neg (by decide), if_neg nc]; decide), if_neg nc] at hc
    simp only [Prod.mk.injEq] at hc
    obtain ⟨u0, u1, u2, u3, u4, u5, u6, u7, u8⟩ := hc
    subst u0 u1 u2 u3 u4 u5 u6 u7 u8
    subst hA hr1
    exact ⟨rfl, PaR_plan0 h pB, fun i hi => pB.2 i (by omega)⟩
  · have nc : s_isCoupled pv = true := hco.mpr c1
    rw [if_pos (by rw [if_neg (by decide), if_pos nc]), if_pos nc] at hc
    simp only [Prod.mk.injEq] at hc
    obtain ⟨u0, u1, u2, u3, u4, u5, u6, u7, u8⟩ := hc
    subst u0 u1 u2 u3 u4 u5 u6 u7 u8
    subst hr1
    exact ⟨rfl, PaR_plan1 (PaR_plan0 h pB) pA, fun i hi => (pA.2 i (by omega)).trans (pB.2 i (by omega))⟩
set_option maxHeartbeats 1000000 in
theorem tell_n_1 {w0 A : Nat → Int32} {r0 r1 r2 r3 r4 pv tk l0 l1 l2 l3 l4 l5 l6 l7 l8 l9 l10 l11 q0 q1 q2 q3 q4 q5 q6 q7 q8 q9 q10 q11 x8 x9 x10 x11 y8 y9 y10 y11 w ret ret8 : Int32} (h : PaR w0 r0 r1 r2 r3 r4 pv tk l0 l1 l2 l3 l4 l5 l6 l7 l8 l9 l10 l11 q0 q1 q2 q3 q4 q5 q6 q7 q8 q9 q10 q11) (hr : s_commands8n_1 w0 w = (ret8, A)) (hc : s_tellAtOnce pv l6 l8 l9 l10 l11 q6 q8 q9 q10 q11 1 w = (ret, x8, x9, x10, x11, y8, y9, y10, y11)) : ret = ret8 ∧ PaR A r0 r1 r2 r3 r4 pv tk l0 l1 l2 l3 l4 l5 l6 l7 x8 x9 x10 x11 q0 q1 q2 q3 q4 q5 q6 q7 y8 y9 y10 y11 ∧ (∀ i, 33 ≤ i → A i = w0 i) := by
  have hco := co_iff h.2.2.2.1
  have g5 : w0 5 = pv := h.1.2.2.2.2.2.1
  have g6 : w0 6 = tk := h.1.2.2.2.2.2.2
  have g13 : w0 13 = l6 := h.2.1.2.2.2.2.2.2.1
  have g26 : w0 26 = q6 := h.2.2.1.2.2.2.2.2.2.1
  have g9 : w0 9 = l2 := h.2.1.2.2.1
  have g22 : w0 22 = q2 := h.2.2.1.2.2.1
  have hq := cmdn_1 hr
  rw [g5, g6, g13, g26] at hq
  unfold s_tellAtOnce s_leftHeeds s_rightHeeds s_heeding at hc
  rcases hq with ⟨c1, hr1, pA⟩ | ⟨c1, hr1, B, pB, pA⟩
  · have nc : ¬ s_isCoupled pv = true := fun q => hco.mp q c1
    rw [if_neg (by rw [if_neg (by decide), if_neg nc]; decide), if_pos (by rw [if_pos rfl])] at hc
    rw [if_neg nc] at hc
    simp only [Prod.mk.injEq] at hc
    obtain ⟨u0, u1, u2, u3, u4, u5, u6, u7, u8⟩ := hc
    subst u0 u1 u2 u3 u4 u5 u6 u7 u8
    subst hr1
    exact ⟨rfl, PaR_plan1 h pA, fun i hi => pA.2 i (by omega)⟩
  · have nc : s_isCoupled pv = true := hco.mpr c1
    rw [if_pos (by rw [if_neg (by decide), if_pos nc])] at hc
    rw [if_pos (by rw [if_pos rfl])] at hc
    rw [if_pos nc] at hc
    simp only [Prod.mk.injEq] at hc
    obtain ⟨u0, u1, u2, u3, u4, u5, u6, u7, u8⟩ := hc
    subst u0 u1 u2 u3 u4 u5 u6 u7 u8
    subst hr1
    exact ⟨rfl, PaR_plan1 (PaR_plan0 h pB) pA, fun i hi => (pA.2 i (by omega)).trans (pB.2 i (by omega))⟩
set_option maxHeartbeats 1000000 in
theorem tell_p_0 {w0 A : Nat → Int32} {r0 r1 r2 r3 r4 pv tk l0 l1 l2 l3 l4 l5 l6 l7 l8 l9 l10 l11 q0 q1 q2 q3 q4 q5 q6 q7 q8 q9 q10 q11 x8 x9 x10 x11 y8 y9 y10 y11 w pa ret ret8 : Int32} (h : PaR w0 r0 r1 r2 r3 r4 pv tk l0 l1 l2 l3 l4 l5 l6 l7 l8 l9 l10 l11 q0 q1 q2 q3 q4 q5 q6 q7 q8 q9 q10 q11) (hp : 0 ≤ pa.toInt ∧ pa.toInt ≤ 20) (hr : s_commands8p_0 w0 w pa = (ret8, A)) (hc : s_tellByHalves pv l2 l6 l8 l9 l10 l11 q2 q6 q8 q9 q10 q11 0 w pa = (ret, x8, x9, x10, x11, y8, y9, y10, y11)) : ret = ret8 ∧ PaR A r0 r1 r2 r3 r4 pv tk l0 l1 l2 l3 l4 l5 l6 l7 x8 x9 x10 x11 q0 q1 q2 q3 q4 q5 q6 q7 y8 y9 y10 y11 ∧ (∀ i, 33 ≤ i → A i = w0 i) := by
  have hco := co_iff h.2.2.2.1
  have g5 : w0 5 = pv := h.1.2.2.2.2.2.1
  have g6 : w0 6 = tk := h.1.2.2.2.2.2.2
  have g13 : w0 13 = l6 := h.2.1.2.2.2.2.2.2.1
  have g26 : w0 26 = q6 := h.2.2.1.2.2.2.2.2.2.1
  have g9 : w0 9 = l2 := h.2.1.2.2.1
  have g22 : w0 22 = q2 := h.2.2.1.2.2.1
  have hpl : ∀ z, s_planByHalves z pa = (1 + pa, ()) := fun z => by unfold s_planByHalves; rw [if_pos (by rw [leI, zI]; exact hp.1)]
  have hq := cmdp_0 hp hr
  rw [g5, g6, g13, g26] at hq
  unfold s_tellByHalves s_leftHeeds s_rightHeeds s_heeding at hc
  obtain ⟨B, pB, hB⟩ := hq
  rw [if_pos (by rw [if_pos rfl])] at hc
  rw [hpl] at hc
  dsimp only at hc
  rcases hB with ⟨c1, hr1, hA⟩ | ⟨c1, hr1, pA⟩
  · have nc : ¬ s_isCoupled pv = true := fun q => hco.mp q c1
    rw [if_neg (by rw [if_neg (by decide), if_neg nc]; decide), if_neg nc] at hc
    simp only [Prod.mk.injEq] at hc
    obtain ⟨u0, u1, u2, u3, u4, u5, u6, u7, u8⟩ := hc
    subst u0 u1 u2 u3 u4 u5 u6 u7 u8
    subst hA hr1
    exact ⟨rfl, PaR_plan0 h pB, fun i hi => pB.2 i (by omega)⟩
  · have nc : s_isCoupled pv = true := hco.mpr c1
    rw [if_pos (by rw [if_neg (by decide), if_pos nc]), if_pos nc] at hc
    rw [hpl] at hc
    dsimp only at hc
    simp only [Prod.mk.injEq] at hc
    obtain ⟨u0, u1, u2, u3, u4, u5, u6, u7, u8⟩ := hc
    subst u0 u1 u2 u3 u4 u5 u6 u7 u8
    subst hr1
    exact ⟨rfl, PaR_plan1 (PaR_plan0 h pB) pA, fun i hi => (pA.2 i (by omega)).trans (pB.2 i (by omega))⟩
set_option maxHeartbeats 1000000 in
theorem tell_p_1 {w0 A : Nat → Int32} {r0 r1 r2 r3 r4 pv tk l0 l1 l2 l3 l4 l5 l6 l7 l8 l9 l10 l11 q0 q1 q2 q3 q4 q5 q6 q7 q8 q9 q10 q11 x8 x9 x10 x11 y8 y9 y10 y11 w pa ret ret8 : Int32} (h : PaR w0 r0 r1 r2 r3 r4 pv tk l0 l1 l2 l3 l4 l5 l6 l7 l8 l9 l10 l11 q0 q1 q2 q3 q4 q5 q6 q7 q8 q9 q10 q11) (hp : 0 ≤ pa.toInt ∧ pa.toInt ≤ 20) (hr : s_commands8p_1 w0 w pa = (ret8, A)) (hc : s_tellByHalves pv l2 l6 l8 l9 l10 l11 q2 q6 q8 q9 q10 q11 1 w pa = (ret, x8, x9, x10, x11, y8, y9, y10, y11)) : ret = ret8 ∧ PaR A r0 r1 r2 r3 r4 pv tk l0 l1 l2 l3 l4 l5 l6 l7 x8 x9 x10 x11 q0 q1 q2 q3 q4 q5 q6 q7 y8 y9 y10 y11 ∧ (∀ i, 33 ≤ i → A i = w0 i) := by
  have hco := co_iff h.2.2.2.1
  have g5 : w0 5 = pv := h.1.2.2.2.2.2.1
  have g6 : w0 6 = tk := h.1.2.2.2.2.2.2
  have g13 : w0 13 = l6 := h.2.1.2.2.2.2.2.2.1
  have g26 : w0 26 = q6 := h.2.2.1.2.2.2.2.2.2.1
  have g9 : w0 9 = l2 := h.2.1.2.2.1
  have g22 : w0 22 = q2 := h.2.2.1.2.2.1
  have hpl : ∀ z, s_planByHalves z pa = (1 + pa, ()) := fun z => by unfold s_planByHalves; rw [if_pos (by rw [leI, zI]; exact hp.1)]
  have hq := cmdp_1 hp hr
  rw [g5, g6, g13, g26] at hq
  unfold s_tellByHalves s_leftHeeds s_rightHeeds s_heeding at hc
  rcases hq with ⟨c1, hr1, pA⟩ | ⟨c1, hr1, B, pB, pA⟩
  · have nc : ¬ s_isCoupled pv = true := fun q => hco.mp q c1
    rw [if_neg (by rw [if_neg (by decide), if_neg nc]; decide), if_pos (by rw [if_pos rfl])] at hc
    rw [if_neg nc] at hc
    rw [hpl] at hc
    dsimp only at hc
    simp only [Prod.mk.injEq] at hc
    obtain ⟨u0, u1, u2, u3, u4, u5, u6, u7, u8⟩ := hc
    subst u0 u1 u2 u3 u4 u5 u6 u7 u8
    subst hr1
    exact ⟨rfl, PaR_plan1 h pA, fun i hi => pA.2 i (by omega)⟩
  · have nc : s_isCoupled pv = true := hco.mpr c1
    rw [if_pos (by rw [if_neg (by decide), if_pos nc])] at hc
    rw [hpl] at hc
    dsimp only at hc
    rw [if_pos (by rw [if_pos rfl])] at hc
    rw [hpl] at hc
    dsimp only at hc
    rw [if_pos nc] at hc
    simp only [Prod.mk.injEq] at hc
    obtain ⟨u0, u1, u2, u3, u4, u5, u6, u7, u8⟩ := hc
    subst u0 u1 u2 u3 u4 u5 u6 u7 u8
    subst hr1
    exact ⟨rfl, PaR_plan1 (PaR_plan0 h pB) pA, fun i hi => (pA.2 i (by omega)).trans (pB.2 i (by omega))⟩
set_option maxHeartbeats 1000000 in
theorem tell_s_0 {w0 A : Nat → Int32} {r0 r1 r2 r3 r4 pv tk l0 l1 l2 l3 l4 l5 l6 l7 l8 l9 l10 l11 q0 q1 q2 q3 q4 q5 q6 q7 q8 q9 q10 q11 x8 x9 x10 x11 y8 y9 y10 y11 w pa ret ret8 : Int32} (h : PaR w0 r0 r1 r2 r3 r4 pv tk l0 l1 l2 l3 l4 l5 l6 l7 l8 l9 l10 l11 q0 q1 q2 q3 q4 q5 q6 q7 q8 q9 q10 q11) (hp : ¬ 0 ≤ pa) (hr : s_shapes8_0 w0 w = (ret8, A)) (hc : s_tellByHalves pv l2 l6 l8 l9 l10 l11 q2 q6 q8 q9 q10 q11 0 w pa = (ret, x8, x9, x10, x11, y8, y9, y10, y11)) : ret = ret8 ∧ PaR A r0 r1 r2 r3 r4 pv tk l0 l1 l2 l3 l4 l5 l6 l7 x8 x9 x10 x11 q0 q1 q2 q3 q4 q5 q6 q7 y8 y9 y10 y11 ∧ (∀ i, 33 ≤ i → A i = w0 i) := by
  have hco := co_iff h.2.2.2.1
  have g5 : w0 5 = pv := h.1.2.2.2.2.2.1
  have g6 : w0 6 = tk := h.1.2.2.2.2.2.2
  have g13 : w0 13 = l6 := h.2.1.2.2.2.2.2.2.1
  have g26 : w0 26 = q6 := h.2.2.1.2.2.2.2.2.2.1
  have g9 : w0 9 = l2 := h.2.1.2.2.1
  have g22 : w0 22 = q2 := h.2.2.1.2.2.1
  have hpl : ∀ z, s_planByHalves z pa = (1 + nI (s_halfSwing z), ()) := fun z => by unfold s_planByHalves; rw [if_neg hp]
  have hq := shapes_0 (by rw [g9]; exact h.2.2.2.2.1.2.1) (by rw [g22]; exact h.2.2.2.2.2.1.2.1) hr
  rw [g5, g6, g13, g26, g9, g22] at hq
  unfold s_tellByHalves s_leftHeeds s_rightHeeds s_heeding at hc
  obtain ⟨B, pB, hB⟩ := hq
  rw [if_pos (by rw [if_pos rfl])] at hc
  rw [hpl] at hc
  dsimp only at hc
  rcases hB with ⟨c1, hr1, hA⟩ | ⟨c1, hr1, pA⟩
  · have nc : ¬ s_isCoupled pv = true := fun q => hco.mp q c1
    rw [if_neg (by rw [if_neg (by decide), if_neg nc]; decide), if_neg nc] at hc
    simp only [Prod.mk.injEq] at hc
    obtain ⟨u0, u1, u2, u3, u4, u5, u6, u7, u8⟩ := hc
    subst u0 u1 u2 u3 u4 u5 u6 u7 u8
    subst hA hr1
    exact ⟨rfl, PaR_plan0 h pB, fun i hi => pB.2 i (by omega)⟩
  · have nc : s_isCoupled pv = true := hco.mpr c1
    rw [if_pos (by rw [if_neg (by decide), if_pos nc]), if_pos nc] at hc
    rw [hpl] at hc
    dsimp only at hc
    simp only [Prod.mk.injEq] at hc
    obtain ⟨u0, u1, u2, u3, u4, u5, u6, u7, u8⟩ := hc
    subst u0 u1 u2 u3 u4 u5 u6 u7 u8
    subst hr1
    exact ⟨rfl, PaR_plan1 (PaR_plan0 h pB) pA, fun i hi => (pA.2 i (by omega)).trans (pB.2 i (by omega))⟩
set_option maxHeartbeats 1000000 in
theorem tell_s_1 {w0 A : Nat → Int32} {r0 r1 r2 r3 r4 pv tk l0 l1 l2 l3 l4 l5 l6 l7 l8 l9 l10 l11 q0 q1 q2 q3 q4 q5 q6 q7 q8 q9 q10 q11 x8 x9 x10 x11 y8 y9 y10 y11 w pa ret ret8 : Int32} (h : PaR w0 r0 r1 r2 r3 r4 pv tk l0 l1 l2 l3 l4 l5 l6 l7 l8 l9 l10 l11 q0 q1 q2 q3 q4 q5 q6 q7 q8 q9 q10 q11) (hp : ¬ 0 ≤ pa) (hr : s_shapes8_1 w0 w = (ret8, A)) (hc : s_tellByHalves pv l2 l6 l8 l9 l10 l11 q2 q6 q8 q9 q10 q11 1 w pa = (ret, x8, x9, x10, x11, y8, y9, y10, y11)) : ret = ret8 ∧ PaR A r0 r1 r2 r3 r4 pv tk l0 l1 l2 l3 l4 l5 l6 l7 x8 x9 x10 x11 q0 q1 q2 q3 q4 q5 q6 q7 y8 y9 y10 y11 ∧ (∀ i, 33 ≤ i → A i = w0 i) := by
  have hco := co_iff h.2.2.2.1
  have g5 : w0 5 = pv := h.1.2.2.2.2.2.1
  have g6 : w0 6 = tk := h.1.2.2.2.2.2.2
  have g13 : w0 13 = l6 := h.2.1.2.2.2.2.2.2.1
  have g26 : w0 26 = q6 := h.2.2.1.2.2.2.2.2.2.1
  have g9 : w0 9 = l2 := h.2.1.2.2.1
  have g22 : w0 22 = q2 := h.2.2.1.2.2.1
  have hpl : ∀ z, s_planByHalves z pa = (1 + nI (s_halfSwing z), ()) := fun z => by unfold s_planByHalves; rw [if_neg hp]
  have hq := shapes_1 (by rw [g9]; exact h.2.2.2.2.1.2.1) (by rw [g22]; exact h.2.2.2.2.2.1.2.1) hr
  rw [g5, g6, g13, g26, g9, g22] at hq
  unfold s_tellByHalves s_leftHeeds s_rightHeeds s_heeding at hc
  rcases hq with ⟨c1, hr1, pA⟩ | ⟨c1, hr1, B, pB, pA⟩
  · have nc : ¬ s_isCoupled pv = true := fun q => hco.mp q c1
    rw [if_neg (by rw [if_neg (by decide), if_neg nc]; decide), if_pos (by rw [if_pos rfl])] at hc
    rw [if_neg nc] at hc
    rw [hpl] at hc
    dsimp only at hc
    simp only [Prod.mk.injEq] at hc
    obtain ⟨u0, u1, u2, u3, u4, u5, u6, u7, u8⟩ := hc
    subst u0 u1 u2 u3 u4 u5 u6 u7 u8
    subst hr1
    exact ⟨rfl, PaR_plan1 h pA, fun i hi => pA.2 i (by omega)⟩
  · have nc : s_isCoupled pv = true := hco.mpr c1
    rw [if_pos (by rw [if_neg (by decide), if_pos nc])] at hc
    rw [hpl] at hc
    dsimp only at hc
    rw [if_pos (by rw [if_pos rfl])] at hc
    rw [hpl] at hc
    dsimp only at hc
    rw [if_pos nc] at hc
    simp only [Prod.mk.injEq] at hc
    obtain ⟨u0, u1, u2, u3, u4, u5, u6, u7, u8⟩ := hc
    subst u0 u1 u2 u3 u4 u5 u6 u7 u8
    subst hr1
    exact ⟨rfl, PaR_plan1 (PaR_plan0 h pB) pA, fun i hi => (pA.2 i (by omega)).trans (pB.2 i (by omega))⟩
