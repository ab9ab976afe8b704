/-! the law's known phases -/
/-- the class, of which no more is known than its text -/
def QE (cyC cyI : ClassId) (Q : Nat → Nat) (T : List Int32) (w : va_W) : Prop := ∃ (r : Nat → Int32) (S : Nat → Sto) (ud : Int32), QW cyC cyI Q r S ud T w
theorem QE.head {cyC cyI : ClassId} {Q : Nat → Nat} {T : List Int32} {wa : va_W} (h : QE cyC cyI Q T wa) : ∃ fs : List Value, wa[0]? = some (Q 0, .inr (7, fs)) := by
  obtain ⟨r, S, ud, h⟩ := h
  exact h.head
theorem RW.head {cyC cyI : ClassId} {Q : Nat → Nat} {T : List Int32} {t : Nat} {wa : va_W} (h : RW cyC cyI Q T t wa) : ∃ fs : List Value, wa[0]? = some (Q 0, .inr (7, fs)) := by
  obtain ⟨r, S, u, h, -⟩ := h
  exact h.head
theorem RW.qe {cyC cyI : ClassId} {Q : Nat → Nat} {T : List Int32} {t : Nat} {wa : va_W} (h : RW cyC cyI Q T t wa) : QE cyC cyI Q T wa := by
  obtain ⟨r, S, u, h, -⟩ := h
  exact ⟨r, S, _, h⟩
theorem qe_wipe {l : Launch} {D : va_G} {cyC cyI : ClassId} {Q : Nat → Nat} {T : List Int32} {wa : va_W} (h : QE cyC cyI Q T wa) (o : Int32) (ho : nI T.length = o) : KI l D cyC cyI yX7_wipe wsX7_wipe 0 0 [.ref (Q 0)] wa o (QE cyC cyI Q []) := by
  obtain ⟨r, S, ud, h⟩ := h
  rw [← ho]
  exact (k_wipe h).imp (fun w q => ⟨r, S, ud, q⟩)
theorem qe_write {l : Launch} {D : va_G} {cyC cyI : ClassId} {Q : Nat → Nat} {wa : va_W} {i : Nat} (h : QE cyC cyI Q (List.replicate i 101) wa) (hi : i < 200) : KI l D cyC cyI yX7_write wsX7_write 1 22 [.ref (Q 0), .int 101] wa (nI (i + 1)) (QE cyC cyI Q (List.replicate (i + 1) 101)) := by
  obtain ⟨r, S, ud, h⟩ := h
  have k := k_write (l := l) (D := D) h 101 (by rw [List.length_replicate]; exact hi) (by decide)
  rw [List.length_replicate, ← List.replicate_succ'] at k
  exact k.imp (fun w q => ⟨r, S, ud, q⟩)
theorem qe_write_no {l : Launch} {D : va_G} {cyC cyI : ClassId} {Q : Nat → Nat} {wa : va_W} (h : QE cyC cyI Q (List.replicate 200 101) wa) : KI l D cyC cyI yX7_write wsX7_write 1 22 [.ref (Q 0), .int 101] wa (-3) (QE cyC cyI Q (List.replicate 200 101)) := by
  obtain ⟨r, S, ud, h⟩ := h
  exact (k_write_no h 101 (-3) (Or.inr ⟨by decide +kernel, List.length_replicate, rfl⟩)).imp (fun w q => ⟨r, S, ud, q⟩)
theorem rd_101 : (RD (List.replicate 200 101)).1 = 0 := by decide +kernel
theorem qe_fault {l : Launch} {D : va_G} {cyC cyI : ClassId} {Q : Nat → Nat} {wa : va_W} (h : QE cyC cyI Q (List.replicate 200 101) wa) : KI l D cyC cyI yX7_fault wsX7_fault 5 114 [.ref (Q 0)] wa 0 (QE cyC cyI Q (List.replicate 200 101)) := by
  obtain ⟨r, S, ud, h⟩ := h
  exact (k_fault h 0 rd_101).imp (fun w q => ⟨r, S, ud, q⟩)
/-- freshly laid out of nothing told -/
def RZ (cyC cyI : ClassId) (Q : Nat → Nat) (w : va_W) : Prop := ∃ (S : Nat → Sto) (A : Nat → Nat → Int32), QW cyC cyI Q (mk11 600 40 2 12 6 100 30 0 500 30 0) (setS S (layS 100 30 0 500 30 0 A)) (nI 0) [] w
theorem RZ.head {cyC cyI : ClassId} {Q : Nat → Nat} {wa : va_W} (h : RZ cyC cyI Q wa) : ∃ fs : List Value, wa[0]? = some (Q 0, .inr (7, fs)) := by
  obtain ⟨S, A, h⟩ := h
  exact h.head
abbrev P13 : Type := Int32 × Int32 × Int32 × Int32 × Int32 × Int32 × Int32 × Int32 × Int32 × Int32 × Int32 × Int32 × Int32
def eqT : P13 → P13 → Bool
  | (a0, a1, a2, a3, a4, a5, a6, a7, a8, a9, a10, a11, a12), (b0, b1, b2, b3, b4, b5, b6, b7, b8, b9, b10, b11, b12) => decide (a0 = b0) && (decide (a1 = b1) && (decide (a2 = b2) && (decide (a3 = b3) && (decide (a4 = b4) && (decide (a5 = b5) && (decide (a6 = b6) && (decide (a7 = b7) && (decide (a8 = b8) && (decide (a9 = b9) && (decide (a10 = b10) && (decide (a11 = b11) && (decide (a12 = b12)))))))))))))
theorem eqT_s {a b : P13} (h : eqT a b = true) : a = b := by
  obtain ⟨a0, a1, a2, a3, a4, a5, a6, a7, a8, a9, a10, a11, a12⟩ := a
  obtain ⟨b0, b1, b2, b3, b4, b5, b6, b7, b8, b9, b10, b11, b12⟩ := b
  simp only [eqT, Bool.and_eq_true, decide_eq_true_eq] at h
  obtain ⟨h0, h1, h2, h3, h4, h5, h6, h7, h8, h9, h10, h11, h12⟩ := h
  subst h0 h1 h2 h3 h4 h5 h6 h7 h8 h9 h10 h11 h12
  rfl
theorem rd_0 : RD [] = (-4, (RD []).2.1, 600, 40, 2, 12, 6, 100, 30, 0, 500, 30, 0) := eqT_s (by decide +kernel)
theorem qe_lay {l : Launch} {D : va_G} {cyC cyI : ClassId} {Q : Nat → Nat} {wa : va_W} (h : QE cyC cyI Q [] wa) : KI l D cyC cyI yX7_lay wsX7_lay 5 114 [.ref (Q 0)] wa 600 (RZ cyC cyI Q) := by
  obtain ⟨r, S, ud, h⟩ := h
  exact (k_lay_ok h rd_0 (by decide +kernel)).imp (fun w q => ⟨S, _, by rw [nI_0]; exact q⟩)
theorem rz_crane {l : Launch} {D : va_G} {cyC cyI : ClassId} {Q : Nat → Nat} {wa : va_W} (h : RZ cyC cyI Q wa) : KI l D cyC cyI yX7_crane wsX7_crane 2 40 [.ref (Q 0), .int 0, .int 2] wa 30 (RZ cyC cyI Q) := by
  obtain ⟨S, A, h⟩ := h
  exact (k_crane_0 h 2 30 rfl).imp (fun w q => ⟨S, A, q⟩)
theorem rz_undo {l : Launch} {D : va_G} {cyC cyI : ClassId} {Q : Nat → Nat} {wa : va_W} (h : RZ cyC cyI Q wa) : KI l D cyC cyI yX7_undo wsX7_undo 0 0 [.ref (Q 0)] wa (-2) (RZ cyC cyI Q) := by
  obtain ⟨S, A, h⟩ := h
  exact (k_undo_no h (-2) rfl (by decide +kernel)).imp (fun w q => ⟨S, A, q⟩)
theorem RZ.rw {cyC cyI : ClassId} {Q : Nat → Nat} {wa : va_W} (h : RZ cyC cyI Q wa) : RW cyC cyI Q [] 0 wa := by
  obtain ⟨S, A, h⟩ := h
  exact ⟨_, _, 0, h, by omega, ⟨rfl, rfl, rfl, rfl, rfl⟩, ⟨nI_0.symm, rfl, ⟨rfl, rfl, rfl, rfl, rfl, rfl, rfl, rfl, rfl, rfl⟩, ⟨rfl, rfl, rfl, rfl, rfl, rfl, rfl, rfl, rfl, rfl⟩, Or.inl ⟨rfl, rfl⟩⟩⟩
/-- the known run -/
def KnW (cyC cyI : ClassId) (Q : Nat → Nat) (T : List Int32) (u k : Nat) (p : P21) (w : va_W) : Prop := ∃ (r : Nat → Int32) (S : Nat → Sto), QW cyC cyI Q r S (nI u) T w ∧ (r 0 = 200 ∧ r 1 = 10 ∧ r 2 = 2 ∧ r 3 = 12 ∧ r 4 = 6) ∧ pOf (S 0) = p ∧ ((S 0).1 1 = -4 ∧ (S 0).1 5 = 0 ∧ (S 0).1 9 = 10 ∧ (S 0).1 17 = 99 ∧ (S 0).1 21 = 60) ∧ ((S 0).1 0).toInt = k
theorem KnW.head {cyC cyI : ClassId} {Q : Nat → Nat} {T : List Int32} {u k : Nat} {p : P21} {wa : va_W} (h : KnW cyC cyI Q T u k p wa) : ∃ fs : List Value, wa[0]? = some (Q 0, .inr (7, fs)) := by
  obtain ⟨r, S, h, -⟩ := h
  exact h.head
def pK0 : P21 := (0, 0, 0, 10, 0, 0, 0, 1, 0, 1, 0, 10, 0, 60, 0, 0, 0, 1, 40, 1, 0)
def pK1 : P21 := (0, 0, 0, 10, 0, 0, 0, (-59), 0, (-59), 0, 189, 3, 60, 24, 6, 40, (-59), 0, (-59), 0)
def pK2 : P21 := (0, 0, 0, 10, 0, 0, 0, (-119), 0, (-119), 0, 200, 0, 60, 0, 0, 40, (-119), 0, (-119), 0)
def pK3 : P21 := (0, 0, 0, 10, 0, 0, 0, (-179), 0, (-179), 0, 200, 0, 60, 0, 0, 40, (-179), 0, (-179), 0)
def pKL : P21 := (0, 0, 0, 10, 0, 0, 0, 1, 0, (1 + 0), 0, 10, 0, 60, 0, 0, 0, 1, 0, (1 + 0), 0)
theorem kn_lay {l : Launch} {D : va_G} {cyC cyI : ClassId} {Q : Nat → Nat} {T : List Int32} {wa : va_W} {r : Nat → Int32} {S : Nat → Sto} {ud : Int32} (h : QW cyC cyI Q r S ud T wa) {o1 : Int32} (hR : RD T = (-4, o1, 200, 10, 2, 12, 6, 0, 10, 0, 10, 60, 99)) : KI l D cyC cyI yX7_lay wsX7_lay 5 114 [.ref (Q 0)] wa 200 (KnW cyC cyI Q T 0 0 pKL) := by
  refine (k_lay_ok h hR (by decide +kernel)).imp (fun w q => ?_)
  exact ⟨_, _, by rw [nI_0]; exact q, ⟨rfl, rfl, rfl, rfl, rfl⟩, rfl, ⟨rfl, rfl, rfl, rfl, rfl⟩, zI⟩
theorem free_kn : s_freeBetween 0 10 10 = 0 := by decide +kernel
theorem kn_count {l : Launch} {D : va_G} {cyC cyI : ClassId} {Q : Nat → Nat} {T : List Int32} {wa : va_W} (h : KnW cyC cyI Q T 0 0 pKL wa) : KI l D cyC cyI yX7_count wsX7_count 1 21 [.ref (Q 0), .int 9] wa 0 (KnW cyC cyI Q T 0 0 pKL) := by
  obtain ⟨r, S, hQ, ⟨k0, k1, k2, k3, k4⟩, hp, ⟨e1, e5, e9, e17, e21⟩, hk⟩ := h
  have hp0 := hp
  unfold pKL at hp0
  simp only [pOf, Prod.mk.injEq] at hp0
  obtain ⟨-, p2, p3, p4, p6, p7, p8, p10, p11, p12, p13, p14, p15, p16, p18, p19, p20, p22, p23, p24, p25⟩ := hp0
  have hu : s_freeBetween ((S 0).1 2) ((S 0).1 14) (r 1) = 0 := by rw [p2, p14, k1, free_kn]
  exact (k_count hQ 9 0 hu).imp (fun w q => ⟨r, S, q, ⟨k0, k1, k2, k3, k4⟩, hp, ⟨e1, e5, e9, e17, e21⟩, hk⟩)
theorem tell_kn (a b c d e g h i j : Int32) : s_tellAtOnce (-4) a b c d e 0 g h i j 1 40 = (1, b, c, d, e, 1, 40, 1, 0) := by
  unfold s_tellAtOnce
  rw [if_neg (by decide +kernel), if_pos (by decide +kernel), show s_heeding (-4) = 1 by decide +kernel, show (40 : Int32) - 0 = 40 by decide +kernel, show (1 : Int32) + 0 = 1 by decide +kernel]
theorem kn_cmd {l : Launch} {D : va_G} {cyC cyI : ClassId} {Q : Nat → Nat} {T : List Int32} {wa : va_W} (h : KnW cyC cyI Q T 0 0 pKL wa) : KI l D cyC cyI yX7_command wsX7_command 4 87 [.ref (Q 0), .int 1, .int 40] wa 1 (KnW cyC cyI Q T 1 0 pK0) := by
  obtain ⟨r, S, hQ, ⟨k0, k1, k2, k3, k4⟩, hp, ⟨e1, e5, e9, e17, e21⟩, hk⟩ := h
  have hp0 := hp
  unfold pKL at hp0
  simp only [pOf, Prod.mk.injEq] at hp0
  obtain ⟨-, p2, p3, p4, p6, p7, p8, p10, p11, p12, p13, p14, p15, p16, p18, p19, p20, p22, p23, p24, p25⟩ := hp0
  obtain ⟨v0, v1, v2, v3, ek⟩ := bEx4 (s_keepForUndo ((S 0).1 26) ((S 0).2.2 0) ((S 0).2.2 1) ((S 0).1 27) ((S 0).2.2 2) ((S 0).2.2 3) ((S 4).2.2 0) ((S 4).2.2 1) ((S 4).2.2 2) ((S 4).2.2 3))
  refine (k_command_ok hQ 1 40 1 ((S 0).1 10) ((S 0).1 11) ((S 0).1 12) ((S 0).1 13) 1 40 1 0 v0 v1 v2 v3 (by unfold s_command_ok; rw [ek]; dsimp only; rw [e1, p20, tell_kn]) (by decide +kernel) (by decide +kernel)).imp (fun w q => ?_)
  rw [ud_up (by omega)] at q
  refine ⟨r, _, q, ⟨k0, k1, k2, k3, k4⟩, ?_, ⟨e1, e5, e9, e17, e21⟩, hk⟩
  show ((0 : Int32), (S 0).1 2, (S 0).1 3, (S 0).1 4, (S 0).1 6, (S 0).1 7, (S 0).1 8, (S 0).1 10, (S 0).1 11, (S 0).1 12, (S 0).1 13, (S 0).1 14, (S 0).1 15, (S 0).1 16, (S 0).1 18, (S 0).1 19, (S 0).1 20, (1 : Int32), (40 : Int32), (1 : Int32), (0 : Int32)) = pK0
  rw [p2, p3, p4, p6, p7, p8, p10, p11, p12, p13, p14, p15, p16, p18, p19, p20]
  rfl
theorem run_k0 : pit (-4) 0 10 99 60 200 10 2 12 6 60 pK0 = (0, 0, 0, 10, 0, 0, 0, (-59), 0, (-59), 0, 189, 3, 60, 24, 6, 40, (-59), 0, (-59), 0) := run_0
theorem kn_tick_0 {l : Launch} {D : va_G} {cyC cyI : ClassId} {Q : Nat → Nat} {T : List Int32} {wa : va_W} (h : KnW cyC cyI Q T 1 0 pK0 wa) : KI l D cyC cyI yX7_tick wsX7_tick 6 130 [.ref (Q 0), .int 60] wa 0 (KnW cyC cyI Q T 2 60 pK1) := by
  obtain ⟨r, S, hQ, ⟨k0, k1, k2, k3, k4⟩, hp, ⟨e1, e5, e9, e17, e21⟩, hk⟩ := h
  have hr : pit ((S 0).1 1) ((S 0).1 5) ((S 0).1 9) ((S 0).1 17) ((S 0).1 21) (r 0) (r 1) (r 2) (r 3) (r 4) 60 (pOf (S 0)) = (0, 0, 0, 10, 0, 0, 0, (-59), 0, (-59), 0, 189, 3, 60, 24, 6, 40, (-59), 0, (-59), 0) := by
    rw [e1, e5, e9, e17, e21, k0, k1, k2, k3, k4, hp]
    exact run_k0
  have g := k_tick_P (l := l) (D := D) hQ (by omega) 60 (by omega) (by omega) _ hr 0 rfl
  rw [show nI 60 = (60 : Int32) by decide +kernel] at g
  refine g.imp (fun w q => ?_)
  obtain ⟨n', c, q, hp', ⟨f1, f5, f9, f17, f21⟩, hk'⟩ := q
  exact ⟨r, _, q, ⟨k0, k1, k2, k3, k4⟩, hp', ⟨f1.trans e1, f5.trans e5, f9.trans e9, f17.trans e17, f21.trans e21⟩, by show (n'.1 0).toInt = _; rw [hk', hk]; rfl⟩
theorem run_k1 : pit (-4) 0 10 99 60 200 10 2 12 6 60 pK1 = (57, 0, 0, 10, 0, 0, 0, (-119), 0, (-119), 0, 200, 0, 60, 0, 0, 40, (-119), 0, (-119), 0) := run_1
theorem kn_tick_1 {l : Launch} {D : va_G} {cyC cyI : ClassId} {Q : Nat → Nat} {T : List Int32} {wa : va_W} (h : KnW cyC cyI Q T 2 60 pK1 wa) : KI l D cyC cyI yX7_tick wsX7_tick 6 130 [.ref (Q 0), .int 60] wa 57 (KnW cyC cyI Q T 3 120 pK2) := by
  obtain ⟨r, S, hQ, ⟨k0, k1, k2, k3, k4⟩, hp, ⟨e1, e5, e9, e17, e21⟩, hk⟩ := h
  have hr : pit ((S 0).1 1) ((S 0).1 5) ((S 0).1 9) ((S 0).1 17) ((S 0).1 21) (r 0) (r 1) (r 2) (r 3) (r 4) 60 (pOf (S 0)) = (57, 0, 0, 10, 0, 0, 0, (-119), 0, (-119), 0, 200, 0, 60, 0, 0, 40, (-119), 0, (-119), 0) := by
    rw [e1, e5, e9, e17, e21, k0, k1, k2, k3, k4, hp]
    exact run_k1
  have g := k_tick_P (l := l) (D := D) hQ (by omega) 60 (by omega) (by omega) _ hr 57 rfl
  rw [show nI 60 = (60 : Int32) by decide +kernel] at g
  refine g.imp (fun w q => ?_)
  obtain ⟨n', c, q, hp', ⟨f1, f5, f9, f17, f21⟩, hk'⟩ := q
  exact ⟨r, _, q, ⟨k0, k1, k2, k3, k4⟩, hp', ⟨f1.trans e1, f5.trans e5, f9.trans e9, f17.trans e17, f21.trans e21⟩, by show (n'.1 0).toInt = _; rw [hk', hk]; rfl⟩
theorem run_k2 : pit (-4) 0 10 99 60 200 10 2 12 6 60 pK2 = (60, 0, 0, 10, 0, 0, 0, (-179), 0, (-179), 0, 200, 0, 60, 0, 0, 40, (-179), 0, (-179), 0) := run_2
theorem kn_tick_2 {l : Launch} {D : va_G} {cyC cyI : ClassId} {Q : Nat → Nat} {T : List Int32} {wa : va_W} (h : KnW cyC cyI Q T 3 120 pK2 wa) : KI l D cyC cyI yX7_tick wsX7_tick 6 130 [.ref (Q 0), .int 60] wa 60 (KnW cyC cyI Q T 4 180 pK3) := by
  obtain ⟨r, S, hQ, ⟨k0, k1, k2, k3, k4⟩, hp, ⟨e1, e5, e9, e17, e21⟩, hk⟩ := h
  have hr : pit ((S 0).1 1) ((S 0).1 5) ((S 0).1 9) ((S 0).1 17) ((S 0).1 21) (r 0) (r 1) (r 2) (r 3) (r 4) 60 (pOf (S 0)) = (60, 0, 0, 10, 0, 0, 0, (-179), 0, (-179), 0, 200, 0, 60, 0, 0, 40, (-179), 0, (-179), 0) := by
    rw [e1, e5, e9, e17, e21, k0, k1, k2, k3, k4, hp]
    exact run_k2
  have g := k_tick_P (l := l) (D := D) hQ (by omega) 60 (by omega) (by omega) _ hr 60 rfl
  rw [show nI 60 = (60 : Int32) by decide +kernel] at g
  refine g.imp (fun w q => ?_)
  obtain ⟨n', c, q, hp', ⟨f1, f5, f9, f17, f21⟩, hk'⟩ := q
  exact ⟨r, _, q, ⟨k0, k1, k2, k3, k4⟩, hp', ⟨f1.trans e1, f5.trans e5, f9.trans e9, f17.trans e17, f21.trans e21⟩, by show (n'.1 0).toInt = _; rw [hk', hk]; rfl⟩
theorem kn_crane_0 {l : Launch} {D : va_G} {cyC cyI : ClassId} {Q : Nat → Nat} {T : List Int32} {wa : va_W} (h : KnW cyC cyI Q T 4 180 pK3 wa) : KI l D cyC cyI yX7_crane wsX7_crane 2 40 [.ref (Q 0), .int 1, .int 0] wa 200 (KnW cyC cyI Q T 4 180 pK3) := by
  obtain ⟨r, S, hQ, ⟨k0, k1, k2, k3, k4⟩, hp, ⟨e1, e5, e9, e17, e21⟩, hk⟩ := h
  have hp0 := hp
  unfold pK3 at hp0
  simp only [pOf, Prod.mk.injEq] at hp0
  obtain ⟨-, p2, p3, p4, p6, p7, p8, p10, p11, p12, p13, p14, p15, p16, p18, p19, p20, p22, p23, p24, p25⟩ := hp0
  refine (k_crane_1 hQ 0 200 ?_).imp (fun w q => ⟨r, S, q, ⟨k0, k1, k2, k3, k4⟩, hp, ⟨e1, e5, e9, e17, e21⟩, hk⟩)
  rw [p14, p15, p16, e17, p18, p19, p20, e21, p23, p25, k2, k3]
  decide +kernel
theorem kn_crane_8 {l : Launch} {D : va_G} {cyC cyI : ClassId} {Q : Nat → Nat} {T : List Int32} {wa : va_W} (h : KnW cyC cyI Q T 4 180 pK3 wa) : KI l D cyC cyI yX7_crane wsX7_crane 2 40 [.ref (Q 0), .int 1, .int 8] wa 3 (KnW cyC cyI Q T 4 180 pK3) := by
  obtain ⟨r, S, hQ, ⟨k0, k1, k2, k3, k4⟩, hp, ⟨e1, e5, e9, e17, e21⟩, hk⟩ := h
  have hp0 := hp
  unfold pK3 at hp0
  simp only [pOf, Prod.mk.injEq] at hp0
  obtain ⟨-, p2, p3, p4, p6, p7, p8, p10, p11, p12, p13, p14, p15, p16, p18, p19, p20, p22, p23, p24, p25⟩ := hp0
  refine (k_crane_1 hQ 8 3 ?_).imp (fun w q => ⟨r, S, q, ⟨k0, k1, k2, k3, k4⟩, hp, ⟨e1, e5, e9, e17, e21⟩, hk⟩)
  rw [p14, p15, p16, e17, p18, p19, p20, e21, p23, p25, k2, k3]
  decide +kernel
theorem kn_crane_1 {l : Launch} {D : va_G} {cyC cyI : ClassId} {Q : Nat → Nat} {T : List Int32} {wa : va_W} (h : KnW cyC cyI Q T 4 180 pK3 wa) : KI l D cyC cyI yX7_crane wsX7_crane 2 40 [.ref (Q 0), .int 1, .int 1] wa 100000 (KnW cyC cyI Q T 4 180 pK3) := by
  obtain ⟨r, S, hQ, ⟨k0, k1, k2, k3, k4⟩, hp, ⟨e1, e5, e9, e17, e21⟩, hk⟩ := h
  have hp0 := hp
  unfold pK3 at hp0
  simp only [pOf, Prod.mk.injEq] at hp0
  obtain ⟨-, p2, p3, p4, p6, p7, p8, p10, p11, p12, p13, p14, p15, p16, p18, p19, p20, p22, p23, p24, p25⟩ := hp0
  refine (k_crane_1 hQ 1 100000 ?_).imp (fun w q => ⟨r, S, q, ⟨k0, k1, k2, k3, k4⟩, hp, ⟨e1, e5, e9, e17, e21⟩, hk⟩)
  rw [p14, p15, p16, e17, p18, p19, p20, e21, p23, p25, k2, k3]
  decide +kernel
theorem kn_undo {l : Launch} {D : va_G} {cyC cyI : ClassId} {Q : Nat → Nat} {T : List Int32} {wa : va_W} (h : KnW cyC cyI Q T 4 180 pK3 wa) : KI l D cyC cyI yX7_undo wsX7_undo 0 0 [.ref (Q 0)] wa 3 (QE cyC cyI Q T) := by
  obtain ⟨r, S, hQ, ⟨k0, k1, k2, k3, k4⟩, hp, ⟨e1, e5, e9, e17, e21⟩, hk⟩ := h
  have g := k_undo (l := l) (D := D) hQ (by decide +kernel)
  rw [show nI 4 - 1 = (3 : Int32) by decide +kernel] at g
  exact g.imp (fun w q => ⟨r, _, _, q⟩)
