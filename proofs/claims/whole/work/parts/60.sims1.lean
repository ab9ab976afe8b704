theorem bEx28 {T0 T1 T2 T3 T4 T5 T6 T7 T8 T9 T10 T11 T12 T13 T14 T15 T16 T17 T18 T19 T20 T21 T22 T23 T24 T25 T26 T27 : Type} (p : T0 × T1 × T2 × T3 × T4 × T5 × T6 × T7 × T8 × T9 × T10 × T11 × T12 × T13 × T14 × T15 × T16 × T17 × T18 × T19 × T20 × T21 × T22 × T23 × T24 × T25 × T26 × T27) : ∃ (x0 : T0) (x1 : T1) (x2 : T2) (x3 : T3) (x4 : T4) (x5 : T5) (x6 : T6) (x7 : T7) (x8 : T8) (x9 : T9) (x10 : T10) (x11 : T11) (x12 : T12) (x13 : T13) (x14 : T14) (x15 : T15) (x16 : T16) (x17 : T17) (x18 : T18) (x19 : T19) (x20 : T20) (x21 : T21) (x22 : T22) (x23 : T23) (x24 : T24) (x25 : T25) (x26 : T26) (x27 : T27), p = (x0, x1, x2, x3, x4, x5, x6, x7, x8, x9, x10, x11, x12, x13, x14, x15, x16, x17, x18, x19, x20, x21, x22, x23, x24, x25, x26, x27) := by
  obtain ⟨x0, x1, x2, x3, x4, x5, x6, x7, x8, x9, x10, x11, x12, x13, x14, x15, x16, x17, x18, x19, x20, x21, x22, x23, x24, x25, x26, x27⟩ := p
  exact ⟨x0, x1, x2, x3, x4, x5, x6, x7, x8, x9, x10, x11, x12, x13, x14, x15, x16, x17, x18, x19, x20, x21, x22, x23, x24, x25, x26, x27, rfl⟩
theorem bEx35 {T0 T1 T2 T3 T4 T5 T6 T7 T8 T9 T10 T11 T12 T13 T14 T15 T16 T17 T18 T19 T20 T21 T22 T23 T24 T25 T26 T27 T28 T29 T30 T31 T32 T33 T34 : Type} (p : T0 × T1 × T2 × T3 × T4 × T5 × T6 × T7 × T8 × T9 × T10 × T11 × T12 × T13 × T14 × T15 × T16 × T17 × T18 × T19 × T20 × T21 × T22 × T23 × T24 × T25 × T26 × T27 × T28 × T29 × T30 × T31 × T32 × T33 × T34) : ∃ (x0 : T0) (x1 : T1) (x2 : T2) (x3 : T3) (x4 : T4) (x5 : T5) (x6 : T6) (x7 : T7) (x8 : T8) (x9 : T9) (x10 : T10) (x11 : T11) (x12 : T12) (x13 : T13) (x14 : T14) (x15 : T15) (x16 : T16) (x17 : T17) (x18 : T18) (x19 : T19) (x20 : T20) (x21 : T21) (x22 : T22) (x23 : T23) (x24 : T24) (x25 : T25) (x26 : T26) (x27 : T27) (x28 : T28) (x29 : T29) (x30 : T30) (x31 : T31) (x32 : T32) (x33 : T33) (x34 : T34), p = (x0, x1, x2, x3, x4, x5, x6, x7, x8, x9, x10, x11, x12, x13, x14, x15, x16, x17, x18, x19, x20, x21, x22, x23, x24, x25, x26, x27, x28, x29, x30, x31, x32, x33, x34) := by
  obtain ⟨x0, x1, x2, x3, x4, x5, x6, x7, x8, x9, x10, x11, x12, x13, x14, x15, x16, x17, x18, x19, x20, x21, x22, x23, x24, x25, x26, x27, x28, x29, x30, x31, x32, x33, x34⟩ := p
  exact ⟨x0, x1, x2, x3, x4, x5, x6, x7, x8, x9, x10, x11, x12, x13, x14, x15, x16, x17, x18, x19, x20, x21, x22, x23, x24, x25, x26, x27, x28, x29, x30, x31, x32, x33, x34, rfl⟩
/-! EVERY CALL: class and reference answer alike, and stay alike -/
def Rel (r : Nat → Int32) (n p1 p2 p3 p4 : Sto) (ud xn : Int32) (xc nw ps tx : Nat → Int32) (ch le : Int32) : Prop := StoR nw n r ∧ ud = ch ∧ PastR ch ps r p1 p2 p3 p4 ∧ ∃ k, TxR k xn le xc tx
/-- both worlds, alike -/
def Inv (cyC cyI : ClassId) (Q K : Nat → Nat) (wa wb : va_W) : Prop := ∃ (R E N P1 P2 P3 P4 : Nat → Nat) (r d : Nat → Int32) (n p1 p2 p3 p4 : Sto) (t : Nat → Int32) (tb : Nat → Bool) (ud xn xi : Int32) (xc nw rd az ps tx td : Nat → Int32) (ch le sp : Int32), wa = wA cyC cyI Q R E N P1 P2 P3 P4 r d n p1 p2 p3 p4 t tb ud xn xi xc ∧ wb = wM cyI K nw rd az ps tx td ch le sp ∧ Rel r n p1 p2 p3 p4 ud xn xc nw ps tx ch le
theorem Inv.mk {cyC cyI : ClassId} {Q K R E N P1 P2 P3 P4 : Nat → Nat} {r d : Nat → Int32} {n p1 p2 p3 p4 : Sto} {t : Nat → Int32} {tb : Nat → Bool} {ud xn xi : Int32} {xc nw rd az ps tx td : Nat → Int32} {ch le sp : Int32} (h : Rel r n p1 p2 p3 p4 ud xn xc nw ps tx ch le) : Inv cyC cyI Q K (wA cyC cyI Q R E N P1 P2 P3 P4 r d n p1 p2 p3 p4 t tb ud xn xi xc) (wM cyI K nw rd az ps tx td ch le sp) := ⟨R, E, N, P1, P2, P3, P4, r, d, n, p1, p2, p3, p4, t, tb, ud, xn, xi, xc, nw, rd, az, ps, tx, td, ch, le, sp, rfl, rfl, h⟩
def CB (l : Launch) (y : MethodName) (wsy : List Cond) (D : va_G) (cyC cyI : ClassId) (av : List Value) (wc : va_W) (v : Int32) (w2 : va_W) : Prop := ∃ rm : Room, (rm.cells = 0 ∧ rm.slots = 0) ∧ (rm.frames ≤ 9 ∧ rm.locals ≤ 300) ∧ CI l y wsy rm D cyC cyI av wc v w2 ∧ wPerm wc w2
theorem CB.of {l : Launch} {y : MethodName} {wsy : List Cond} {rm : Room} {D : va_G} {cyC cyI : ClassId} {av : List Value} {wc w2 : va_W} {v : Int32} (h : CI l y wsy rm D cyC cyI av wc v w2) (hp : wPerm wc w2) (h1 : rm.cells = 0 ∧ rm.slots = 0) (h2 : rm.frames ≤ 9 ∧ rm.locals ≤ 300) : CB l y wsy D cyC cyI av wc v w2 := ⟨rm, h1, h2, h, hp⟩
theorem wM_perm {cyI : ClassId} {K : Nat → Nat} {nw rd az ps tx td nw' rd' az' ps' tx' td' : Nat → Int32} {ch le sp ch' le' sp' : Int32} : wPerm (wM cyI K nw rd az ps tx td ch le sp) (wM cyI K nw' rd' az' ps' tx' td' ch' le' sp') := ⟨[0, 1, 2, 3, 4, 5, 6], rfl, rfl⟩
def Sim (l : Launch) (D : va_G) (cyC cyI : ClassId) (Q K : Nat → Nat) (yA : MethodName) (wsA : List Cond) (yB : MethodName) (wsB : List Cond) (av : List Value) : Prop := ∀ wa wb : va_W, Inv cyC cyI Q K wa wb → ∃ (v : Int32) (wa' wb' : va_W), CB l yA wsA D cyC cyI (.ref (Q 0) :: av) wa v wa' ∧ CB l yB wsB D cyC cyI (.ref (K 0) :: av) wb v wb' ∧ Inv cyC cyI Q K wa' wb'
theorem Sim.of {l : Launch} {D : va_G} {cyC cyI : ClassId} {Q K : Nat → Nat} {yA : MethodName} {wsA : List Cond} {yB : MethodName} {wsB : List Cond} {av : List Value} {wa wb : va_W} {v v' : Int32} {wa' wb' : va_W} {rm rm' : Room} (a : CI l yA wsA rm D cyC cyI (.ref (Q 0) :: av) wa v wa' ∧ wPerm wa wa') (b : CI l yB wsB rm' D cyC cyI (.ref (K 0) :: av) wb v' wb') (hb : wPerm wb wb') (e : v = v') (i : Inv cyC cyI Q K wa' wb') (h1 : rm.cells = 0 ∧ rm.slots = 0) (h2 : rm.frames ≤ 9 ∧ rm.locals ≤ 300) (h3 : rm'.cells = 0 ∧ rm'.slots = 0) (h4 : rm'.frames ≤ 9 ∧ rm'.locals ≤ 300) : ∃ (v : Int32) (wa' wb' : va_W), CB l yA wsA D cyC cyI (.ref (Q 0) :: av) wa v wa' ∧ CB l yB wsB D cyC cyI (.ref (K 0) :: av) wb v wb' ∧ Inv cyC cyI Q K wa' wb' := by
  subst e
  exact ⟨v, wa', wb', CB.of a.1 a.2 h1 h2, CB.of b hb h3 h4, i⟩
theorem isC_no {c : Int32} (h0 : ¬ c = 0) (h1 : ¬ c = 1) : ¬ s_isCrane c = true := isCrane8_no h0 h1
section SIMS
variable (l : Launch) (D : va_G) (cyC cyI : ClassId) (Q K : Nat → Nat)
set_option maxHeartbeats 4000000 in
theorem sim_stop (v : Int32) : Sim l D cyC cyI Q K yX7_stop wsX7_stop yX8_stop wsX8_stop [.int v] := by
  rintro wa wb ⟨R, E, N, P1, P2, P3, P4, r, d, n, p1, p2, p3, p4, t, tb, ud, xn, xi, xc, nw, rd, az, ps, tx, td, ch, le, sp, rfl, rfl, hR⟩
  have hR0 := hR
  obtain ⟨hS, hu, hp, k, ht⟩ := hR0
  have hS0 := hS
  obtain ⟨hP, ⟨k1, hk1⟩, ⟨k2, hk2⟩⟩ := hS0
  exact Sim.of (f_stop l D cyC cyI Q R E N P1 P2 P3 P4 r d n p1 p2 p3 p4 t tb ud xn xi xc v _ rfl) (f_stop8 l D cyC cyI K nw rd az ps tx td ch le sp v _ (stop_L hP.1.2.2.1 hP.2.2.2.1.2.2.1) (by rw [hP.1.2.2.1, leI]; exact hP.2.2.2.1.2.2.1.1)) wM_perm rfl (Inv.mk hR) ⟨rfl, rfl⟩ ⟨Nat.le_of_ble_eq_true rfl, Nat.le_of_ble_eq_true rfl⟩ ⟨rfl, rfl⟩ ⟨Nat.le_of_ble_eq_true rfl, Nat.le_of_ble_eq_true rfl⟩
set_option maxHeartbeats 4000000 in
theorem sim_half (v : Int32) : Sim l D cyC cyI Q K yX7_half wsX7_half yX8_half wsX8_half [.int v] := by
  rintro wa wb ⟨R, E, N, P1, P2, P3, P4, r, d, n, p1, p2, p3, p4, t, tb, ud, xn, xi, xc, nw, rd, az, ps, tx, td, ch, le, sp, rfl, rfl, hR⟩
  have hR0 := hR
  obtain ⟨hS, hu, hp, k, ht⟩ := hR0
  have hS0 := hS
  obtain ⟨hP, ⟨k1, hk1⟩, ⟨k2, hk2⟩⟩ := hS0
  exact Sim.of (f_half l D cyC cyI Q R E N P1 P2 P3 P4 r d n p1 p2 p3 p4 t tb ud xn xi xc v _ rfl) (f_half8 l D cyC cyI K nw rd az ps tx td ch le sp v _ half_L) wM_perm rfl (Inv.mk hR) ⟨rfl, rfl⟩ ⟨Nat.le_of_ble_eq_true rfl, Nat.le_of_ble_eq_true rfl⟩ ⟨rfl, rfl⟩ ⟨Nat.le_of_ble_eq_true rfl, Nat.le_of_ble_eq_true rfl⟩
set_option maxHeartbeats 4000000 in
theorem sim_count (what : Int32) : Sim l D cyC cyI Q K yX7_count wsX7_count yX8_count wsX8_count [.int what] := by
  rintro wa wb ⟨R, E, N, P1, P2, P3, P4, r, d, n, p1, p2, p3, p4, t, tb, ud, xn, xi, xc, nw, rd, az, ps, tx, td, ch, le, sp, rfl, rfl, hR⟩
  have hR0 := hR
  obtain ⟨hS, hu, hp, k, ht⟩ := hR0
  have hS0 := hS
  obtain ⟨hP, ⟨k1, hk1⟩, ⟨k2, hk2⟩⟩ := hS0
  exact Sim.of (f_count l D cyC cyI Q R E N P1 P2 P3 P4 r d n p1 p2 p3 p4 t tb ud xn xi xc what _ rfl) (f_count8 l D cyC cyI K nw rd az ps tx td ch le sp what _ ((count_L hP).trans (by rw [hu, ht.2.1, ht.2.2.1]))) wM_perm rfl (Inv.mk hR) ⟨rfl, rfl⟩ ⟨Nat.le_of_ble_eq_true rfl, Nat.le_of_ble_eq_true rfl⟩ ⟨rfl, rfl⟩ ⟨Nat.le_of_ble_eq_true rfl, Nat.le_of_ble_eq_true rfl⟩
set_option maxHeartbeats 4000000 in
theorem sim_crane_0 (what : Int32) : Sim l D cyC cyI Q K yX7_crane wsX7_crane yX8_crane wsX8_crane [.int 0, .int what] := by
  rintro wa wb ⟨R, E, N, P1, P2, P3, P4, r, d, n, p1, p2, p3, p4, t, tb, ud, xn, xi, xc, nw, rd, az, ps, tx, td, ch, le, sp, rfl, rfl, hR⟩
  have hR0 := hR
  obtain ⟨hS, hu, hp, k, ht⟩ := hR0
  have hS0 := hS
  obtain ⟨hP, ⟨k1, hk1⟩, ⟨k2, hk2⟩⟩ := hS0
  exact Sim.of (f_crane_0 l D cyC cyI Q R E N P1 P2 P3 P4 r d n p1 p2 p3 p4 t tb ud xn xi xc what _ rfl) (f_crane8_0 l D cyC cyI K nw rd az ps tx td ch le sp what _ (crane_L0 hP) (by rw [hP.1.2.2.1, leI]; exact hP.2.2.2.1.2.2.1.1) (by rw [show nw 9 = _ from hP.2.1.2.2.1, leI, zI]; exact Int.le_trans (by decide) hP.2.2.2.2.1.2.1.1) (by rw [show nw 9 = _ from hP.2.1.2.2.1, leI]; exact hP.2.2.2.2.1.2.1.2)) wM_perm rfl (Inv.mk hR) ⟨rfl, rfl⟩ ⟨Nat.le_of_ble_eq_true rfl, Nat.le_of_ble_eq_true rfl⟩ ⟨rfl, rfl⟩ ⟨Nat.le_of_ble_eq_true rfl, Nat.le_of_ble_eq_true rfl⟩
set_option maxHeartbeats 4000000 in
theorem sim_stepOf_00 (what : Int32) : Sim l D cyC cyI Q K yX7_stepOf wsX7_stepOf yX8_stepOf wsX8_stepOf [.int 0, .int 0, .int what] := by
  rintro wa wb ⟨R, E, N, P1, P2, P3, P4, r, d, n, p1, p2, p3, p4, t, tb, ud, xn, xi, xc, nw, rd, az, ps, tx, td, ch, le, sp, rfl, rfl, hR⟩
  have hR0 := hR
  obtain ⟨hS, hu, hp, k, ht⟩ := hR0
  have hS0 := hS
  obtain ⟨hP, ⟨k1, hk1⟩, ⟨k2, hk2⟩⟩ := hS0
  exact Sim.of (f_stepOf_0 l D cyC cyI Q R E N P1 P2 P3 P4 r d n p1 p2 p3 p4 t tb ud xn xi xc 0 what _ rfl) (f_stepOf8_00 l D cyC cyI K nw rd az ps tx td ch le sp what _ (step_L00 hP)) wM_perm rfl (Inv.mk hR) ⟨rfl, rfl⟩ ⟨Nat.le_of_ble_eq_true rfl, Nat.le_of_ble_eq_true rfl⟩ ⟨rfl, rfl⟩ ⟨Nat.le_of_ble_eq_true rfl, Nat.le_of_ble_eq_true rfl⟩
set_option maxHeartbeats 4000000 in
theorem sim_stepOf_01 (what : Int32) : Sim l D cyC cyI Q K yX7_stepOf wsX7_stepOf yX8_stepOf wsX8_stepOf [.int 0, .int 1, .int what] := by
  rintro wa wb ⟨R, E, N, P1, P2, P3, P4, r, d, n, p1, p2, p3, p4, t, tb, ud, xn, xi, xc, nw, rd, az, ps, tx, td, ch, le, sp, rfl, rfl, hR⟩
  have hR0 := hR
  obtain ⟨hS, hu, hp, k, ht⟩ := hR0
  have hS0 := hS
  obtain ⟨hP, ⟨k1, hk1⟩, ⟨k2, hk2⟩⟩ := hS0
  exact Sim.of (f_stepOf_0 l D cyC cyI Q R E N P1 P2 P3 P4 r d n p1 p2 p3 p4 t tb ud xn xi xc 1 what _ rfl) (f_stepOf8_01 l D cyC cyI K nw rd az ps tx td ch le sp what _ (step_L01 hP)) wM_perm rfl (Inv.mk hR) ⟨rfl, rfl⟩ ⟨Nat.le_of_ble_eq_true rfl, Nat.le_of_ble_eq_true rfl⟩ ⟨rfl, rfl⟩ ⟨Nat.le_of_ble_eq_true rfl, Nat.le_of_ble_eq_true rfl⟩
set_option maxHeartbeats 4000000 in
theorem sim_stepOf_0n (k_ : Int32) (what : Int32) (h0 : ¬ k_ = 0) (h1 : ¬ k_ = 1) : Sim l D cyC cyI Q K yX7_stepOf wsX7_stepOf yX8_stepOf wsX8_stepOf [.int 0, .int k_, .int what] := by
  rintro wa wb ⟨R, E, N, P1, P2, P3, P4, r, d, n, p1, p2, p3, p4, t, tb, ud, xn, xi, xc, nw, rd, az, ps, tx, td, ch, le, sp, rfl, rfl, hR⟩
  have hR0 := hR
  obtain ⟨hS, hu, hp, k, ht⟩ := hR0
  have hS0 := hS
  obtain ⟨hP, ⟨k1, hk1⟩, ⟨k2, hk2⟩⟩ := hS0
  have hst : nw 15 = 0 ∨ nw 15 = 1 ∨ nw 15 = 2 := by
    rw [show nw 15 = _ from (hP.2.1.2.2.2.2.2.2.2.2).1]
    exact stN_cases _ _
  exact Sim.of (f_stepOf_0 l D cyC cyI Q R E N P1 P2 P3 P4 r d n p1 p2 p3 p4 t tb ud xn xi xc k_ what _ rfl) (f_stepOf8_0n l D cyC cyI K nw rd az ps tx td ch le sp k_ what _ (step_L0n h0 h1) h0 h1 hst) wM_perm rfl (Inv.mk hR) ⟨rfl, rfl⟩ ⟨Nat.le_of_ble_eq_true rfl, Nat.le_of_ble_eq_true rfl⟩ ⟨rfl, rfl⟩ ⟨Nat.le_of_ble_eq_true rfl, Nat.le_of_ble_eq_true rfl⟩
set_option maxHeartbeats 4000000 in
theorem sim_spot_0 (k_ : Int32) (what : Int32) : Sim l D cyC cyI Q K yX7_spot wsX7_spot yX8_spot wsX8_spot [.int 0, .int k_, .int what] := by
  rintro wa wb ⟨R, E, N, P1, P2, P3, P4, r, d, n, p1, p2, p3, p4, t, tb, ud, xn, xi, xc, nw, rd, az, ps, tx, td, ch, le, sp, rfl, rfl, hR⟩
  have hR0 := hR
  obtain ⟨hS, hu, hp, k, ht⟩ := hR0
  have hS0 := hS
  obtain ⟨hP, ⟨k1, hk1⟩, ⟨k2, hk2⟩⟩ := hS0
  exact Sim.of (f_spot_0 l D cyC cyI Q R E N P1 P2 P3 P4 r d n p1 p2 p3 p4 t tb ud xn xi xc k_ what _ rfl) (f_spot8_0 l D cyC cyI K nw rd az ps tx td ch le sp k1 k_ what _ (spot_L0 hk1) hk1.2.2.1 hk1.1) wM_perm rfl (Inv.mk hR) ⟨rfl, rfl⟩ ⟨Nat.le_of_ble_eq_true rfl, Nat.le_of_ble_eq_true rfl⟩ ⟨rfl, rfl⟩ ⟨Nat.le_of_ble_eq_true rfl, Nat.le_of_ble_eq_true rfl⟩
set_option maxHeartbeats 4000000 in
theorem sim_been_0 (x : Int32) (rp : Int32) : Sim l D cyC cyI Q K yX7_been wsX7_been yX8_been wsX8_been [.int 0, .int x, .int rp] := by
  rintro wa wb ⟨R, E, N, P1, P2, P3, P4, r, d, n, p1, p2, p3, p4, t, tb, ud, xn, xi, xc, nw, rd, az, ps, tx, td, ch, le, sp, rfl, rfl, hR⟩
  have hR0 := hR
  obtain ⟨hS, hu, hp, k, ht⟩ := hR0
  have hS0 := hS
  obtain ⟨hP, ⟨k1, hk1⟩, ⟨k2, hk2⟩⟩ := hS0
  exact Sim.of (f_been_0 l D cyC cyI Q R E N P1 P2 P3 P4 r d n p1 p2 p3 p4 t tb ud xn xi xc x rp _ rfl) (f_been8_0 l D cyC cyI K nw rd az ps tx td ch le sp k1 x rp _ (been_L0 hk1) hk1.2.2.1 hk1.1) wM_perm rfl (Inv.mk hR) ⟨rfl, rfl⟩ ⟨Nat.le_of_ble_eq_true rfl, Nat.le_of_ble_eq_true rfl⟩ ⟨rfl, rfl⟩ ⟨Nat.le_of_ble_eq_true rfl, Nat.le_of_ble_eq_true rfl⟩
set_option maxHeartbeats 4000000 in
theorem sim_crane_1 (what : Int32) : Sim l D cyC cyI Q K yX7_crane wsX7_crane yX8_crane wsX8_crane [.int 1, .int what] := by
  rintro wa wb ⟨R, E, N, P1, P2, P3, P4, r, d, n, p1, p2, p3, p4, t, tb, ud, xn, xi, xc, nw, rd, az, ps, tx, td, ch, le, sp, rfl, rfl, hR⟩
  have hR0 := hR
  obtain ⟨hS, hu, hp, k, ht⟩ := hR0
  have hS0 := hS
  obtain ⟨hP, ⟨k1, hk1⟩, ⟨k2, hk2⟩⟩ := hS0
  exact Sim.of (f_crane_1 l D cyC cyI Q R E N P1 P2 P3 P4 r d n p1 p2 p3 p4 t tb ud xn xi xc what _ rfl) (f_crane8_1 l D cyC cyI K nw rd az ps tx td ch le sp what _ (crane_L1 hP) (by rw [hP.1.2.2.1, leI]; exact hP.2.2.2.1.2.2.1.1) (by rw [show nw 22 = _ from hP.2.2.1.2.2.1, leI, zI]; exact Int.le_trans (by decide) hP.2.2.2.2.2.1.2.1.1) (by rw [show nw 22 = _ from hP.2.2.1.2.2.1, leI]; exact hP.2.2.2.2.2.1.2.1.2)) wM_perm rfl (Inv.mk hR) ⟨rfl, rfl⟩ ⟨Nat.le_of_ble_eq_true rfl, Nat.le_of_ble_eq_true rfl⟩ ⟨rfl, rfl⟩ ⟨Nat.le_of_ble_eq_true rfl, Nat.le_of_ble_eq_true rfl⟩
set_option maxHeartbeats 4000000 in
theorem sim_stepOf_10 (what : Int32) : Sim l D cyC cyI Q K yX7_stepOf wsX7_stepOf yX8_stepOf wsX8_stepOf [.int 1, .int 0, .int what] := by
  rintro wa wb ⟨R, E, N, P1, P2, P3, P4, r, d, n, p1, p2, p3, p4, t, tb, ud, xn, xi, xc, nw, rd, az, ps, tx, td, ch, le, sp, rfl, rfl, hR⟩
  have hR0 := hR
  obtain ⟨hS, hu, hp, k, ht⟩ := hR0
  have hS0 := hS
  obtain ⟨hP, ⟨k1, hk1⟩, ⟨k2, hk2⟩⟩ := hS0
  exact Sim.of (f_stepOf_1 l D cyC cyI Q R E N P1 P2 P3 P4 r d n p1 p2 p3 p4 t tb ud xn xi xc 0 what _ rfl) (f_stepOf8_10 l D cyC cyI K nw rd az ps tx td ch le sp what _ (step_L10 hP)) wM_perm rfl (Inv.mk hR) ⟨rfl, rfl⟩ ⟨Nat.le_of_ble_eq_true rfl, Nat.le_of_ble_eq_true rfl⟩ ⟨rfl, rfl⟩ ⟨Nat.le_of_ble_eq_true rfl, Nat.le_of_ble_eq_true rfl⟩
set_option maxHeartbeats 4000000 in
theorem sim_stepOf_11 (what : Int32) : Sim l D cyC cyI Q K yX7_stepOf wsX7_stepOf yX8_stepOf wsX8_stepOf [.int 1, .int 1, .int what] := by
  rintro wa wb ⟨R, E, N, P1, P2, P3, P4, r, d, n, p1, p2, p3, p4, t, tb, ud, xn, xi, xc, nw, rd, az, ps, tx, td, ch, le, sp, rfl, rfl, hR⟩
  have hR0 := hR
  obtain ⟨hS, hu, hp, k, ht⟩ := hR0
  have hS0 := hS
  obtain ⟨hP, ⟨k1, hk1⟩, ⟨k2, hk2⟩⟩ := hS0
  exact Sim.of (f_stepOf_1 l D cyC cyI Q R E N P1 P2 P3 P4 r d n p1 p2 p3 p4 t tb ud xn xi xc 1 what _ rfl) (f_stepOf8_11 l D cyC cyI K nw rd az ps tx td ch le sp what _ (step_L11 hP)) wM_perm rfl (Inv.mk hR) ⟨rfl, rfl⟩ ⟨Nat.le_of_ble_eq_true rfl, Nat.le_of_ble_eq_true rfl⟩ ⟨rfl, rfl⟩ ⟨Nat.le_of_ble_eq_true rfl, Nat.le_of_ble_eq_true rfl⟩
set_option maxHeartbeats 4000000 in
theorem sim_stepOf_1n (k_ : Int32) (what : Int32) (h0 : ¬ k_ = 0) (h1 : ¬ k_ = 1) : Sim l D cyC cyI Q K yX7_stepOf wsX7_stepOf yX8_stepOf wsX8_stepOf [.int 1, .int k_, .int what] := by
  rintro wa wb ⟨R, E, N, P1, P2, P3, P4, r, d, n, p1, p2, p3, p4, t, tb, ud, xn, xi, xc, nw, rd, az, ps, tx, td, ch, le, sp, rfl, rfl, hR⟩
  have hR0 := hR
  obtain ⟨hS, hu, hp, k, ht⟩ := hR0
  have hS0 := hS
  obtain ⟨hP, ⟨k1, hk1⟩, ⟨k2, hk2⟩⟩ := hS0
  have hst : nw 28 = 0 ∨ nw 28 = 1 ∨ nw 28 = 2 := by
    rw [show nw 28 = _ from (hP.2.2.1.2.2.2.2.2.2.2.2).1]
    exact stN_cases _ _
  exact Sim.of (f_stepOf_1 l D cyC cyI Q R E N P1 P2 P3 P4 r d n p1 p2 p3 p4 t tb ud xn xi xc k_ what _ rfl) (f_stepOf8_1n l D cyC cyI K nw rd az ps tx td ch le sp k_ what _ (step_L1n h0 h1) h0 h1 hst) wM_perm rfl (Inv.mk hR) ⟨rfl, rfl⟩ ⟨Nat.le_of_ble_eq_true rfl, Nat.le_of_ble_eq_true rfl⟩ ⟨rfl, rfl⟩ ⟨Nat.le_of_ble_eq_true rfl, Nat.le_of_ble_eq_true rfl⟩
set_option maxHeartbeats 4000000 in
theorem sim_spot_1 (k_ : Int32) (what : Int32) : Sim l D cyC cyI Q K yX7_spot wsX7_spot yX8_spot wsX8_spot [.int 1, .int k_, .int what] := by
  rintro wa wb ⟨R, E, N, P1, P2, P3, P4, r, d, n, p1, p2, p3, p4, t, tb, ud, xn, xi, xc, nw, rd, az, ps, tx, td, ch, le, sp, rfl, rfl, hR⟩
  have hR0 := hR
  obtain ⟨hS, hu, hp, k, ht⟩ := hR0
  have hS0 := hS
  obtain ⟨hP, ⟨k1, hk1⟩, ⟨k2, hk2⟩⟩ := hS0
  exact Sim.of (f_spot_1 l D cyC cyI Q R E N P1 P2 P3 P4 r d n p1 p2 p3 p4 t tb ud xn xi xc k_ what _ rfl) (f_spot8_1 l D cyC cyI K nw rd az ps tx td ch le sp k2 k_ what _ (spot_L1 hk2) hk2.2.2.1 hk2.1) wM_perm rfl (Inv.mk hR) ⟨rfl, rfl⟩ ⟨Nat.le_of_ble_eq_true rfl, Nat.le_of_ble_eq_true rfl⟩ ⟨rfl, rfl⟩ ⟨Nat.le_of_ble_eq_true rfl, Nat.le_of_ble_eq_true rfl⟩
set_option maxHeartbeats 4000000 in
theorem sim_been_1 (x : Int32) (rp : Int32) : Sim l D cyC cyI Q K yX7_been wsX7_been yX8_been wsX8_been [.int 1, .int x, .int rp] := by
  rintro wa wb ⟨R, E, N, P1, P2, P3, P4, r, d, n, p1, p2, p3, p4, t, tb, ud, xn, xi, xc, nw, rd, az, ps, tx, td, ch, le, sp, rfl, rfl, hR⟩
  have hR0 := hR
  obtain ⟨hS, hu, hp, k, ht⟩ := hR0
  have hS0 := hS
  obtain ⟨hP, ⟨k1, hk1⟩, ⟨k2, hk2⟩⟩ := hS0
  exact Sim.of (f_been_1 l D cyC cyI Q R E N P1 P2 P3 P4 r d n p1 p2 p3 p4 t tb ud xn xi xc x rp _ rfl) (f_been8_1 l D cyC cyI K nw rd az ps tx td ch le sp k2 x rp _ (been_L1 hk2) hk2.2.2.1 hk2.1) wM_perm rfl (Inv.mk hR) ⟨rfl, rfl⟩ ⟨Nat.le_of_ble_eq_true rfl, Nat.le_of_ble_eq_true rfl⟩ ⟨rfl, rfl⟩ ⟨Nat.le_of_ble_eq_true rfl, Nat.le_of_ble_eq_true rfl⟩
set_option maxHeartbeats 4000000 in
theorem sim_crane_b (c : Int32) (what : Int32) (h0 : ¬ c = 0) (h1 : ¬ c = 1) : Sim l D cyC cyI Q K yX7_crane wsX7_crane yX8_crane wsX8_crane [.int c, .int what] := by
  rintro wa wb ⟨R, E, N, P1, P2, P3, P4, r, d, n, p1, p2, p3, p4, t, tb, ud, xn, xi, xc, nw, rd, az, ps, tx, td, ch, le, sp, rfl, rfl, hR⟩
  have hR0 := hR
  obtain ⟨hS, hu, hp, k, ht⟩ := hR0
  have hS0 := hS
  obtain ⟨hP, ⟨k1, hk1⟩, ⟨k2, hk2⟩⟩ := hS0
  exact Sim.of (f_crane_b l D cyC cyI Q R E N P1 P2 P3 P4 r d n p1 p2 p3 p4 t tb ud xn xi xc c what _ rfl h0 h1) (f_crane8_b l D cyC cyI K nw rd az ps tx td ch le sp c what (-1) rfl h0 h1) wM_perm rfl (Inv.mk hR) ⟨rfl, rfl⟩ ⟨Nat.le_of_ble_eq_true rfl, Nat.le_of_ble_eq_true rfl⟩ ⟨rfl, rfl⟩ ⟨Nat.le_of_ble_eq_true rfl, Nat.le_of_ble_eq_true rfl⟩
set_option maxHeartbeats 4000000 in
theorem sim_stepOf_b (c : Int32) (k_ : Int32) (what : Int32) (h0 : ¬ c = 0) (h1 : ¬ c = 1) : Sim l D cyC cyI Q K yX7_stepOf wsX7_stepOf yX8_stepOf wsX8_stepOf [.int c, .int k_, .int what] := by
  rintro wa wb ⟨R, E, N, P1, P2, P3, P4, r, d, n, p1, p2, p3, p4, t, tb, ud, xn, xi, xc, nw, rd, az, ps, tx, td, ch, le, sp, rfl, rfl, hR⟩
  have hR0 := hR
  obtain ⟨hS, hu, hp, k, ht⟩ := hR0
  have hS0 := hS
  obtain ⟨hP, ⟨k1, hk1⟩, ⟨k2, hk2⟩⟩ := hS0
  exact Sim.of (f_stepOf_b l D cyC cyI Q R E N P1 P2 P3 P4 r d n p1 p2 p3 p4 t tb ud xn xi xc c k_ what _ rfl h0 h1) (f_stepOf8_b l D cyC cyI K nw rd az ps tx td ch le sp c k_ what (-1) rfl h0 h1) wM_perm rfl (Inv.mk hR) ⟨rfl, rfl⟩ ⟨Nat.le_of_ble_eq_true rfl, Nat.le_of_ble_eq_true rfl⟩ ⟨rfl, rfl⟩ ⟨Nat.le_of_ble_eq_true rfl, Nat.le_of_ble_eq_true rfl⟩
set_option maxHeartbeats 4000000 in
theorem sim_spot_b (c : Int32) (k_ : Int32) (what : Int32) (h0 : ¬ c = 0) (h1 : ¬ c = 1) : Sim l D cyC cyI Q K yX7_spot wsX7_spot yX8_spot wsX8_spot [.int c, .int k_, .int what] := by
  rintro wa wb ⟨R, E, N, P1, P2, P3, P4, r, d, n, p1, p2, p3, p4, t, tb, ud, xn, xi, xc, nw, rd, az, ps, tx, td, ch, le, sp, rfl, rfl, hR⟩
  have hR0 := hR
  obtain ⟨hS, hu, hp, k, ht⟩ := hR0
  have hS0 := hS
  obtain ⟨hP, ⟨k1, hk1⟩, ⟨k2, hk2⟩⟩ := hS0
  exact Sim.of (f_spot_b l D cyC cyI Q R E N P1 P2 P3 P4 r d n p1 p2 p3 p4 t tb ud xn xi xc c k_ what _ rfl h0 h1) (f_spot8_b l D cyC cyI K nw rd az ps tx td ch le sp c k_ what (-1) rfl h0 h1) wM_perm rfl (Inv.mk hR) ⟨rfl, rfl⟩ ⟨Nat.le_of_ble_eq_true rfl, Nat.le_of_ble_eq_true rfl⟩ ⟨rfl, rfl⟩ ⟨Nat.le_of_ble_eq_true rfl, Nat.le_of_ble_eq_true rfl⟩
set_option maxHeartbeats 4000000 in
theorem sim_been_b (c : Int32) (x : Int32) (rp : Int32) (h0 : ¬ c = 0) (h1 : ¬ c = 1) : Sim l D cyC cyI Q K yX7_been wsX7_been yX8_been wsX8_been [.int c, .int x, .int rp] := by
  rintro wa wb ⟨R, E, N, P1, P2, P3, P4, r, d, n, p1, p2, p3, p4, t, tb, ud, xn, xi, xc, nw, rd, az, ps, tx, td, ch, le, sp, rfl, rfl, hR⟩
  have hR0 := hR
  obtain ⟨hS, hu, hp, k, ht⟩ := hR0
  have hS0 := hS
  obtain ⟨hP, ⟨k1, hk1⟩, ⟨k2, hk2⟩⟩ := hS0
  exact Sim.of (f_been_b l D cyC cyI Q R E N P1 P2 P3 P4 r d n p1 p2 p3 p4 t tb ud xn xi xc c x rp _ rfl h0 h1) (f_been8_b l D cyC cyI K nw rd az ps tx td ch le sp c x rp (-1) rfl h0 h1) wM_perm rfl (Inv.mk hR) ⟨rfl, rfl⟩ ⟨Nat.le_of_ble_eq_true rfl, Nat.le_of_ble_eq_true rfl⟩ ⟨rfl, rfl⟩ ⟨Nat.le_of_ble_eq_true rfl, Nat.le_of_ble_eq_true rfl⟩
set_option maxHeartbeats 4000000 in
theorem sim_command_b (c : Int32) (w : Int32) (h0 : ¬ c = 0) (h1 : ¬ c = 1) : Sim l D cyC cyI Q K yX7_command wsX7_command yX8_command wsX8_command [.int c, .int w] := by
  rintro wa wb ⟨R, E, N, P1, P2, P3, P4, r, d, n, p1, p2, p3, p4, t, tb, ud, xn, xi, xc, nw, rd, az, ps, tx, td, ch, le, sp, rfl, rfl, hR⟩
  have hR0 := hR
  obtain ⟨hS, hu, hp, k, ht⟩ := hR0
  have hS0 := hS
  obtain ⟨hP, ⟨k1, hk1⟩, ⟨k2, hk2⟩⟩ := hS0
  exact Sim.of (f_command_no l D cyC cyI Q R E N P1 P2 P3 P4 r d n p1 p2 p3 p4 t tb ud xn xi xc c w (-1) (by unfold s_command_no; rw [if_neg (isC_no h0 h1)]) (fun q => absurd q (isC_no h0 h1))) (f_command8_b l D cyC cyI K nw rd az ps tx td ch le sp c w (-1) rfl h0 h1) wM_perm rfl (Inv.mk hR) ⟨rfl, rfl⟩ ⟨Nat.le_of_ble_eq_true rfl, Nat.le_of_ble_eq_true rfl⟩ ⟨rfl, rfl⟩ ⟨Nat.le_of_ble_eq_true rfl, Nat.le_of_ble_eq_true rfl⟩
set_option maxHeartbeats 4000000 in
theorem sim_shape_b (c : Int32) (w : Int32) (pa : Int32) (h0 : ¬ c = 0) (h1 : ¬ c = 1) : Sim l D cyC cyI Q K yX7_shape wsX7_shape yX8_shape wsX8_shape [.int c, .int w, .int pa] := by
  rintro wa wb ⟨R, E, N, P1, P2, P3, P4, r, d, n, p1, p2, p3, p4, t, tb, ud, xn, xi, xc, nw, rd, az, ps, tx, td, ch, le, sp, rfl, rfl, hR⟩
  have hR0 := hR
  obtain ⟨hS, hu, hp, k, ht⟩ := hR0
  have hS0 := hS
  obtain ⟨hP, ⟨k1, hk1⟩, ⟨k2, hk2⟩⟩ := hS0
  exact Sim.of (f_shape_no l D cyC cyI Q R E N P1 P2 P3 P4 r d n p1 p2 p3 p4 t tb ud xn xi xc c w pa (-1) (by unfold s_shape_no; rw [if_neg (isC_no h0 h1)]) (fun q => absurd q (isC_no h0 h1))) (f_shape8_b l D cyC cyI K nw rd az ps tx td ch le sp c w pa (-1) rfl h0 h1) wM_perm rfl (Inv.mk hR) ⟨rfl, rfl⟩ ⟨Nat.le_of_ble_eq_true rfl, Nat.le_of_ble_eq_true rfl⟩ ⟨rfl, rfl⟩ ⟨Nat.le_of_ble_eq_true rfl, Nat.le_of_ble_eq_true rfl⟩
set_option maxHeartbeats 4000000 in
theorem sim_target_b (c : Int32) (rp : Int32) (h0 : ¬ c = 0) (h1 : ¬ c = 1) : Sim l D cyC cyI Q K yX7_target wsX7_target yX8_target wsX8_target [.int c, .int rp] := by
  rintro wa wb ⟨R, E, N, P1, P2, P3, P4, r, d, n, p1, p2, p3, p4, t, tb, ud, xn, xi, xc, nw, rd, az, ps, tx, td, ch, le, sp, rfl, rfl, hR⟩
  have hR0 := hR
  obtain ⟨hS, hu, hp, k, ht⟩ := hR0
  have hS0 := hS
  obtain ⟨hP, ⟨k1, hk1⟩, ⟨k2, hk2⟩⟩ := hS0
  exact Sim.of (f_target_b l D cyC cyI Q R E N P1 P2 P3 P4 r d n p1 p2 p3 p4 t tb ud xn xi xc c rp _ rfl h0 h1) (f_target8_b l D cyC cyI K nw rd az ps tx td ch le sp c rp (-1) rfl h0 h1) wM_perm rfl (Inv.mk hR) ⟨rfl, rfl⟩ ⟨Nat.le_of_ble_eq_true rfl, Nat.le_of_ble_eq_true rfl⟩ ⟨rfl, rfl⟩ ⟨Nat.le_of_ble_eq_true rfl, Nat.le_of_ble_eq_true rfl⟩
set_option maxHeartbeats 4000000 in
theorem sim_load_b (c : Int32) (m : Int32) (h0 : ¬ c = 0) (h1 : ¬ c = 1) : Sim l D cyC cyI Q K yX7_load wsX7_load yX8_load wsX8_load [.int c, .int m] := by
  rintro wa wb ⟨R, E, N, P1, P2, P3, P4, r, d, n, p1, p2, p3, p4, t, tb, ud, xn, xi, xc, nw, rd, az, ps, tx, td, ch, le, sp, rfl, rfl, hR⟩
  have hR0 := hR
  obtain ⟨hS, hu, hp, k, ht⟩ := hR0
  have hS0 := hS
  obtain ⟨hP, ⟨k1, hk1⟩, ⟨k2, hk2⟩⟩ := hS0
  exact Sim.of (f_load_b l D cyC cyI Q R E N P1 P2 P3 P4 r d n p1 p2 p3 p4 t tb ud xn xi xc c m _ rfl h0 h1) (f_load8_b l D cyC cyI K nw rd az ps tx td ch le sp c m (-1) rfl h0 h1) wM_perm rfl (Inv.mk hR) ⟨rfl, rfl⟩ ⟨Nat.le_of_ble_eq_true rfl, Nat.le_of_ble_eq_true rfl⟩ ⟨rfl, rfl⟩ ⟨Nat.le_of_ble_eq_true rfl, Nat.le_of_ble_eq_true rfl⟩
set_option maxHeartbeats 4000000 in
theorem sim_ahead_b (tn : Int32) (c : Int32) (what : Int32) (h0 : ¬ c = 0) (h1 : ¬ c = 1) : Sim l D cyC cyI Q K yX7_ahead wsX7_ahead yX8_ahead wsX8_ahead [.int tn, .int c, .int what] := by
  rintro wa wb ⟨R, E, N, P1, P2, P3, P4, r, d, n, p1, p2, p3, p4, t, tb, ud, xn, xi, xc, nw, rd, az, ps, tx, td, ch, le, sp, rfl, rfl, hR⟩
  have hR0 := hR
  obtain ⟨hS, hu, hp, k, ht⟩ := hR0
  have hS0 := hS
  obtain ⟨hP, ⟨k1, hk1⟩, ⟨k2, hk2⟩⟩ := hS0
  exact Sim.of (f_ahead_b l D cyC cyI Q R E N P1 P2 P3 P4 r d n p1 p2 p3 p4 t tb ud xn xi xc tn c what _ rfl h0 h1) (f_ahead8_b l D cyC cyI K nw rd az ps tx td ch le sp tn c what _ rfl h0 h1) wM_perm rfl (Inv.mk hR) ⟨rfl, rfl⟩ ⟨Nat.le_of_ble_eq_true rfl, Nat.le_of_ble_eq_true rfl⟩ ⟨rfl, rfl⟩ ⟨Nat.le_of_ble_eq_true rfl, Nat.le_of_ble_eq_true rfl⟩
set_option maxHeartbeats 4000000 in
theorem sim_quiet_b (c : Int32) (h0 : ¬ c = 0) (h1 : ¬ c = 1) : Sim l D cyC cyI Q K yX7_quiet wsX7_quiet yX8_quiet wsX8_quiet [.int c] := by
  rintro wa wb ⟨R, E, N, P1, P2, P3, P4, r, d, n, p1, p2, p3, p4, t, tb, ud, xn, xi, xc, nw, rd, az, ps, tx, td, ch, le, sp, rfl, rfl, hR⟩
  have hR0 := hR
  obtain ⟨hS, hu, hp, k, ht⟩ := hR0
  have hS0 := hS
  obtain ⟨hP, ⟨k1, hk1⟩, ⟨k2, hk2⟩⟩ := hS0
  exact Sim.of (f_quiet_b l D cyC cyI Q R E N P1 P2 P3 P4 r d n p1 p2 p3 p4 t tb ud xn xi xc c _ rfl h0 h1) (f_quiet8_b l D cyC cyI K nw rd az ps tx td ch le sp c _ rfl h0 h1) wM_perm rfl (Inv.mk hR) ⟨rfl, rfl⟩ ⟨Nat.le_of_ble_eq_true rfl, Nat.le_of_ble_eq_true rfl⟩ ⟨rfl, rfl⟩ ⟨Nat.le_of_ble_eq_true rfl, Nat.le_of_ble_eq_true rfl⟩
set_option maxHeartbeats 4000000 in
theorem sim_best_b (c : Int32) (w : Int32) (what : Int32) (h0 : ¬ c = 0) (h1 : ¬ c = 1) : Sim l D cyC cyI Q K yX7_best wsX7_best yX8_best wsX8_best [.int c, .int w, .int what] := by
  rintro wa wb ⟨R, E, N, P1, P2, P3, P4, r, d, n, p1, p2, p3, p4, t, tb, ud, xn, xi, xc, nw, rd, az, ps, tx, td, ch, le, sp, rfl, rfl, hR⟩
  have hR0 := hR
  obtain ⟨hS, hu, hp, k, ht⟩ := hR0
  have hS0 := hS
  obtain ⟨hP, ⟨k1, hk1⟩, ⟨k2, hk2⟩⟩ := hS0
  exact Sim.of (f_best_b l D cyC cyI Q R E N P1 P2 P3 P4 r d n p1 p2 p3 p4 t tb ud xn xi xc c w what _ rfl h0 h1) (f_best8_b l D cyC cyI K nw rd az ps tx td ch le sp c w what _ rfl h0 h1) wM_perm rfl (Inv.mk hR) ⟨rfl, rfl⟩ ⟨Nat.le_of_ble_eq_true rfl, Nat.le_of_ble_eq_true rfl⟩ ⟨rfl, rfl⟩ ⟨Nat.le_of_ble_eq_true rfl, Nat.le_of_ble_eq_true rfl⟩
set_option maxHeartbeats 4000000 in
theorem sim_ahead_0 (tn : Int32) (what : Int32) : Sim l D cyC cyI Q K yX7_ahead wsX7_ahead yX8_ahead wsX8_ahead [.int tn, .int 0, .int what] := by
  rintro wa wb ⟨R, E, N, P1, P2, P3, P4, r, d, n, p1, p2, p3, p4, t, tb, ud, xn, xi, xc, nw, rd, az, ps, tx, td, ch, le, sp, rfl, rfl, hR⟩
  have hR0 := hR
  obtain ⟨hS, hu, hp, k, ht⟩ := hR0
  have hS0 := hS
  obtain ⟨hP, ⟨k1, hk1⟩, ⟨k2, hk2⟩⟩ := hS0
  obtain ⟨a0, a1, a2, a3, a4, a5, a6, a7, a8, a9, a10, a11, a12, a13, a14, a15, a16, a17, a18, a19, a20, a21, a22, a23, a24, a25, a26, a27, ea⟩ := bEx28 (s_ahead_0 (n.1 1) (n.1 2) (n.1 3) (n.1 4) (n.1 5) (n.1 6) (n.1 7) (n.1 8) (n.1 9) (n.1 10) (n.1 11) (n.1 12) (n.1 13) (n.2.1 0) (n.1 14) (n.1 15) (n.1 16) (n.1 17) (n.1 18) (n.1 19) (n.1 20) (n.1 21) (n.1 22) (n.1 23) (n.1 24) (n.1 25) (n.2.1 1) (r 0) (r 1) (r 2) (r 3) (r 4) (t 0) (t 1) (t 2) (t 3) (t 4) (t 5) (t 6) (t 7) (t 8) (t 9) (t 10) (t 11) (t 12) (tb 0) (t 13) (t 14) (t 15) (t 16) (t 17) (t 18) (t 19) (t 20) (t 21) (t 22) (t 23) (t 24) (tb 1) tn what)
  obtain ⟨b0, b1, b2, eb⟩ := bEx3 (s_ahead8_0 nw az tn what)
  obtain ⟨g1, g2⟩ := ahead_R_0 hP ea eb
  subst g1 g2
  exact Sim.of (f_ahead_0 l D cyC cyI Q R E N P1 P2 P3 P4 r d n p1 p2 p3 p4 t tb ud xn xi xc tn what _ _ _ _ _ _ _ _ _ _ _ _ _ _ _ _ _ _ _ _ _ _ _ _ _ _ _ _ ea) (f_ahead8_0 l D cyC cyI K _ rd az ps tx td ch le sp tn what _ _ _ eb (PaR_GI hP)) wM_perm rfl (Inv.mk hR) ⟨rfl, rfl⟩ ⟨Nat.le_of_ble_eq_true rfl, Nat.le_of_ble_eq_true rfl⟩ ⟨rfl, rfl⟩ ⟨Nat.le_of_ble_eq_true rfl, Nat.le_of_ble_eq_true rfl⟩
set_option maxHeartbeats 4000000 in
theorem sim_quiet_0 : Sim l D cyC cyI Q K yX7_quiet wsX7_quiet yX8_quiet wsX8_quiet [.int 0] := by
  rintro wa wb ⟨R, E, N, P1, P2, P3, P4, r, d, n, p1, p2, p3, p4, t, tb, ud, xn, xi, xc, nw, rd, az, ps, tx, td, ch, le, sp, rfl, rfl, hR⟩
  have hR0 := hR
  obtain ⟨hS, hu, hp, k, ht⟩ := hR0
  have hS0 := hS
  obtain ⟨hP, ⟨k1, hk1⟩, ⟨k2, hk2⟩⟩ := hS0
  obtain ⟨a0, a1, a2, a3, a4, a5, a6, a7, a8, a9, a10, a11, a12, a13, a14, a15, a16, a17, a18, a19, a20, a21, a22, a23, a24, a25, a26, a27, ea⟩ := bEx28 (s_quiet_0 (n.1 1) (n.1 2) (n.1 3) (n.1 4) (n.1 5) (n.1 6) (n.1 7) (n.1 8) (n.1 9) (n.1 10) (n.1 11) (n.1 12) (n.1 13) (n.2.1 0) (n.1 14) (n.1 15) (n.1 16) (n.1 17) (n.1 18) (n.1 19) (n.1 20) (n.1 21) (n.1 22) (n.1 23) (n.1 24) (n.1 25) (n.2.1 1) (r 0) (r 1) (r 2) (r 3) (r 4) (t 0) (t 1) (t 2) (t 3) (t 4) (t 5) (t 6) (t 7) (t 8) (t 9) (t 10) (t 11) (t 12) (tb 0) (t 13) (t 14) (t 15) (t 16) (t 17) (t 18) (t 19) (t 20) (t 21) (t 22) (t 23) (t 24) (tb 1))
  obtain ⟨b0, b1, b2, eb⟩ := bEx3 (s_quiet8_0 nw az)
  obtain ⟨g1, g2⟩ := quiet_R_0 hP ea eb
  subst g1 g2
  exact Sim.of (f_quiet_0 l D cyC cyI Q R E N P1 P2 P3 P4 r d n p1 p2 p3 p4 t tb ud xn xi xc _ _ _ _ _ _ _ _ _ _ _ _ _ _ _ _ _ _ _ _ _ _ _ _ _ _ _ _ ea) (f_quiet8_0 l D cyC cyI K _ rd az ps tx td ch le sp _ _ _ eb (PaR_GI hP)) wM_perm rfl (Inv.mk hR) ⟨rfl, rfl⟩ ⟨Nat.le_of_ble_eq_true rfl, Nat.le_of_ble_eq_true rfl⟩ ⟨rfl, rfl⟩ ⟨Nat.le_of_ble_eq_true rfl, Nat.le_of_ble_eq_true rfl⟩
set_option maxHeartbeats 4000000 in
theorem sim_best_0 (w : Int32) (what : Int32) : Sim l D cyC cyI Q K yX7_best wsX7_best yX8_best wsX8_best [.int 0, .int w, .int what] := by
  rintro wa wb ⟨R, E, N, P1, P2, P3, P4, r, d, n, p1, p2, p3, p4, t, tb, ud, xn, xi, xc, nw, rd, az, ps, tx, td, ch, le, sp, rfl, rfl, hR⟩
  have hR0 := hR
  obtain ⟨hS, hu, hp, k, ht⟩ := hR0
  have hS0 := hS
  obtain ⟨hP, ⟨k1, hk1⟩, ⟨k2, hk2⟩⟩ := hS0
  obtain ⟨a0, a1, a2, a3, a4, a5, a6, a7, a8, a9, a10, a11, a12, a13, a14, a15, a16, a17, a18, a19, a20, a21, a22, a23, a24, a25, a26, a27, ea⟩ := bEx28 (s_best_0 (n.1 1) (n.1 2) (n.1 3) (n.1 4) (n.1 5) (n.1 6) (n.1 7) (n.1 8) (n.1 9) (n.1 10) (n.1 11) (n.1 12) (n.1 13) (n.2.1 0) (n.1 14) (n.1 15) (n.1 16) (n.1 17) (n.1 18) (n.1 19) (n.1 20) (n.1 21) (n.1 22) (n.1 23) (n.1 24) (n.1 25) (n.2.1 1) (r 0) (r 1) (r 2) (r 3) (r 4) (t 0) (t 1) (t 2) (t 3) (t 4) (t 5) (t 6) (t 7) (t 8) (t 9) (t 10) (t 11) (t 12) (tb 0) (t 13) (t 14) (t 15) (t 16) (t 17) (t 18) (t 19) (t 20) (t 21) (t 22) (t 23) (t 24) (tb 1) w what)
  obtain ⟨b0, b1, b2, eb⟩ := bEx3 (s_best8_0 nw az w what)
  obtain ⟨g1, g2⟩ := best_R_0 hP ea eb
  subst g1 g2
  exact Sim.of (f_best_0 l D cyC cyI Q R E N P1 P2 P3 P4 r d n p1 p2 p3 p4 t tb ud xn xi xc w what _ _ _ _ _ _ _ _ _ _ _ _ _ _ _ _ _ _ _ _ _ _ _ _ _ _ _ _ ea) (f_best8_0 l D cyC cyI K _ rd az ps tx td ch le sp w what _ _ _ eb (PaR_GI hP)) wM_perm rfl (Inv.mk hR) ⟨rfl, rfl⟩ ⟨Nat.le_of_ble_eq_true rfl, Nat.le_of_ble_eq_true rfl⟩ ⟨rfl, rfl⟩ ⟨Nat.le_of_ble_eq_true rfl, Nat.le_of_ble_eq_true rfl⟩
set_option maxHeartbeats 4000000 in
theorem sim_ahead_1 (tn : Int32) (what : Int32) : Sim l D cyC cyI Q K yX7_ahead wsX7_ahead yX8_ahead wsX8_ahead [.int tn, .int 1, .int what] := by
  rintro wa wb ⟨R, E, N, P1, P2, P3, P4, r, d, n, p1, p2, p3, p4, t, tb, ud, xn, xi, xc, nw, rd, az, ps, tx, td, ch, le, sp, rfl, rfl, hR⟩
  have hR0 := hR
  obtain ⟨hS, hu, hp, k, ht⟩ := hR0
  have hS0 := hS
  obtain ⟨hP, ⟨k1, hk1⟩, ⟨k2, hk2⟩⟩ := hS0
  obtain ⟨a0, a1, a2, a3, a4, a5, a6, a7, a8, a9, a10, a11, a12, a13, a14, a15, a16, a17, a18, a19, a20, a21, a22, a23, a24, a25, a26, a27, ea⟩ := bEx28 (s_ahead_1 (n.1 1) (n.1 2) (n.1 3) (n.1 4) (n.1 5) (n.1 6) (n.1 7) (n.1 8) (n.1 9) (n.1 10) (n.1 11) (n.1 12) (n.1 13) (n.2.1 0) (n.1 14) (n.1 15) (n.1 16) (n.1 17) (n.1 18) (n.1 19) (n.1 20) (n.1 21) (n.1 22) (n.1 23) (n.1 24) (n.1 25) (n.2.1 1) (r 0) (r 1) (r 2) (r 3) (r 4) (t 0) (t 1) (t 2) (t 3) (t 4) (t 5) (t 6) (t 7) (t 8) (t 9) (t 10) (t 11) (t 12) (tb 0) (t 13) (t 14) (t 15) (t 16) (t 17) (t 18) (t 19) (t 20) (t 21) (t 22) (t 23) (t 24) (tb 1) tn what)
  obtain ⟨b0, b1, b2, eb⟩ := bEx3 (s_ahead8_1 nw az tn what)
  obtain ⟨g1, g2⟩ := ahead_R_1 hP ea eb
  subst g1 g2
  exact Sim.of (f_ahead_1 l D cyC cyI Q R E N P1 P2 P3 P4 r d n p1 p2 p3 p4 t tb ud xn xi xc tn what _ _ _ _ _ _ _ _ _ _ _ _ _ _ _ _ _ _ _ _ _ _ _ _ _ _ _ _ ea) (f_ahead8_1 l D cyC cyI K _ rd az ps tx td ch le sp tn what _ _ _ eb (PaR_GI hP)) wM_perm rfl (Inv.mk hR) ⟨rfl, rfl⟩ ⟨Nat.le_of_ble_eq_true rfl, Nat.le_of_ble_eq_true rfl⟩ ⟨rfl, rfl⟩ ⟨Nat.le_of_ble_eq_true rfl, Nat.le_of_ble_eq_true rfl⟩
set_option maxHeartbeats 4000000 in
theorem sim_quiet_1 : Sim l D cyC cyI Q K yX7_quiet wsX7_quiet yX8_quiet wsX8_quiet [.int 1] := by
  rintro wa wb ⟨R, E, N, P1, P2, P3, P4, r, d, n, p1, p2, p3, p4, t, tb, ud, xn, xi, xc, nw, rd, az, ps, tx, td, ch, le, sp, rfl, rfl, hR⟩
  have hR0 := hR
  obtain ⟨hS, hu, hp, k, ht⟩ := hR0
  have hS0 := hS
  obtain ⟨hP, ⟨k1, hk1⟩, ⟨k2, hk2⟩⟩ := hS0
  obtain ⟨a0, a1, a2, a3, a4, a5, a6, a7, a8, a9, a10, a11, a12, a13, a14, a15, a16, a17, a18, a19, a20, a21, a22, a23, a24, a25, a26, a27, ea⟩ := bEx28 (s_quiet_1 (n.1 1) (n.1 2) (n.1 3) (n.1 4) (n.1 5) (n.1 6) (n.1 7) (n.1 8) (n.1 9) (n.1 10) (n.1 11) (n.1 12) (n.1 13) (n.2.1 0) (n.1 14) (n.1 15) (n.1 16) (n.1 17) (n.1 18) (n.1 19) (n.1 20) (n.1 21) (n.1 22) (n.1 23) (n.1 24) (n.1 25) (n.2.1 1) (r 0) (r 1) (r 2) (r 3) (r 4) (t 0) (t 1) (t 2) (t 3) (t 4) (t 5) (t 6) (t 7) (t 8) (t 9) (t 10) (t 11) (t 12) (tb 0) (t 13) (t 14) (t 15) (t 16) (t 17) (t 18) (t 19) (t 20) (t 21) (t 22) (t 23) (t 24) (tb 1))
  obtain ⟨b0, b1, b2, eb⟩ := bEx3 (s_quiet8_1 nw az)
  obtain ⟨g1, g2⟩ := quiet_R_1 hP ea eb
  subst g1 g2
  exact Sim.of (f_quiet_1 l D cyC cyI Q R E N P1 P2 P3 P4 r d n p1 p2 p3 p4 t tb ud xn xi xc _ _ _ _ _ _ _ _ _ _ _ _ _ _ _ _ _ _ _ _ _ _ _ _ _ _ _ _ ea) (f_quiet8_1 l D cyC cyI K _ rd az ps tx td ch le sp _ _ _ eb (PaR_GI hP)) wM_perm rfl (Inv.mk hR) ⟨rfl, rfl⟩ ⟨Nat.le_of_ble_eq_true rfl, Nat.le_of_ble_eq_true rfl⟩ ⟨rfl, rfl⟩ ⟨Nat.le_of_ble_eq_true rfl, Nat.le_of_ble_eq_true rfl⟩
set_option maxHeartbeats 4000000 in
theorem sim_best_1 (w : Int32) (what : Int32) : Sim l D cyC cyI Q K yX7_best wsX7_best yX8_best wsX8_best [.int 1, .int w, .int what] := by
  rintro wa wb ⟨R, E, N, P1, P2, P3, P4, r, d, n, p1, p2, p3, p4, t, tb, ud, xn, xi, xc, nw, rd, az, ps, tx, td, ch, le, sp, rfl, rfl, hR⟩
  have hR0 := hR
  obtain ⟨hS, hu, hp, k, ht⟩ := hR0
  have hS0 := hS
  obtain ⟨hP, ⟨k1, hk1⟩, ⟨k2, hk2⟩⟩ := hS0
  obtain ⟨a0, a1, a2, a3, a4, a5, a6, a7, a8, a9, a10, a11, a12, a13, a14, a15, a16, a17, a18, a19, a20, a21, a22, a23, a24, a25, a26, a27, ea⟩ := bEx28 (s_best_1 (n.1 1) (n.1 2) (n.1 3) (n.1 4) (n.1 5) (n.1 6) (n.1 7) (n.1 8) (n.1 9) (n.1 10) (n.1 11) (n.1 12) (n.1 13) (n.2.1 0) (n.1 14) (n.1 15) (n.1 16) (n.1 17) (n.1 18) (n.1 19) (n.1 20) (n.1 21) (n.1 22) (n.1 23) (n.1 24) (n.1 25) (n.2.1 1) (r 0) (r 1) (r 2) (r 3) (r 4) (t 0) (t 1) (t 2) (t 3) (t 4) (t 5) (t 6) (t 7) (t 8) (t 9) (t 10) (t 11) (t 12) (tb 0) (t 13) (t 14) (t 15) (t 16) (t 17) (t 18) (t 19) (t 20) (t 21) (t 22) (t 23) (t 24) (tb 1) w what)
  obtain ⟨b0, b1, b2, eb⟩ := bEx3 (s_best8_1 nw az w what)
  obtain ⟨g1, g2⟩ := best_R_1 hP ea eb
  subst g1 g2
  exact Sim.of (f_best_1 l D cyC cyI Q R E N P1 P2 P3 P4 r d n p1 p2 p3 p4 t tb ud xn xi xc w what _ _ _ _ _ _ _ _ _ _ _ _ _ _ _ _ _ _ _ _ _ _ _ _ _ _ _ _ ea) (f_best8_1 l D cyC cyI K _ rd az ps tx td ch le sp w what _ _ _ eb (PaR_GI hP)) wM_perm rfl (Inv.mk hR) ⟨rfl, rfl⟩ ⟨Nat.le_of_ble_eq_true rfl, Nat.le_of_ble_eq_true rfl⟩ ⟨rfl, rfl⟩ ⟨Nat.le_of_ble_eq_true rfl, Nat.le_of_ble_eq_true rfl⟩
set_option maxHeartbeats 4000000 in
theorem sim_write (w : Int32) : Sim l D cyC cyI Q K yX7_write wsX7_write yX8_write wsX8_write [.int w] := by
  rintro wa wb ⟨R, E, N, P1, P2, P3, P4, r, d, n, p1, p2, p3, p4, t, tb, ud, xn, xi, xc, nw, rd, az, ps, tx, td, ch, le, sp, rfl, rfl, hR⟩
  have hR0 := hR
  obtain ⟨hS, hu, hp, k, ht⟩ := hR0
  have hS0 := hS
  obtain ⟨hP, ⟨k1, hk1⟩, ⟨k2, hk2⟩⟩ := hS0
  obtain ⟨a0, a1, a2, ea⟩ := bEx3 (s_write xn xc w)
  obtain ⟨b0, b1, b2, eb⟩ := bEx3 (s_write8 le tx w)
  obtain ⟨g1, k2, g2⟩ := write_L ht ea eb
  have hl0 : 0 ≤ le := by rw [ht.2.2.1, leI, zI, nIt (by have := ht.1; omega)]; omega
  have hl2 : le ≤ nI 200 := by rw [ht.2.2.1, leI, nIt (by have := ht.1; omega), nIt (by omega)]; have := ht.1; omega
  exact Sim.of (f_write l D cyC cyI Q R E N P1 P2 P3 P4 r d n p1 p2 p3 p4 t tb ud xn xi xc w _ _ _ ea) (f_write8 l D cyC cyI K nw rd az ps tx td ch le sp w _ _ _ eb hl0 hl2) wM_perm g1 (Inv.mk ⟨hS, hu, hp, k2, g2⟩) ⟨rfl, rfl⟩ ⟨Nat.le_of_ble_eq_true rfl, Nat.le_of_ble_eq_true rfl⟩ ⟨rfl, rfl⟩ ⟨Nat.le_of_ble_eq_true rfl, Nat.le_of_ble_eq_true rfl⟩
set_option maxHeartbeats 4000000 in
theorem sim_wipe : Sim l D cyC cyI Q K yX7_wipe wsX7_wipe yX8_wipe wsX8_wipe [] := by
  rintro wa wb ⟨R, E, N, P1, P2, P3, P4, r, d, n, p1, p2, p3, p4, t, tb, ud, xn, xi, xc, nw, rd, az, ps, tx, td, ch, le, sp, rfl, rfl, hR⟩
  have hR0 := hR
  obtain ⟨hS, hu, hp, k, ht⟩ := hR0
  have hS0 := hS
  obtain ⟨hP, ⟨k1, hk1⟩, ⟨k2, hk2⟩⟩ := hS0
  exact Sim.of (f_wipe l D cyC cyI Q R E N P1 P2 P3 P4 r d n p1 p2 p3 p4 t tb ud xn xi xc _ rfl) (f_wipe8 l D cyC cyI K nw rd az ps tx td ch le sp _ rfl) wM_perm (ht.2.1.trans ht.2.2.1.symm) (Inv.mk ⟨hS, hu, hp, 0, by omega, rfl, rfl, fun i hi => by omega⟩) ⟨rfl, rfl⟩ ⟨Nat.le_of_ble_eq_true rfl, Nat.le_of_ble_eq_true rfl⟩ ⟨rfl, rfl⟩ ⟨Nat.le_of_ble_eq_true rfl, Nat.le_of_ble_eq_true rfl⟩
set_option maxHeartbeats 4000000 in
theorem sim_fault : Sim l D cyC cyI Q K yX7_fault wsX7_fault yX8_fault wsX8_fault [] := by
  rintro wa wb ⟨R, E, N, P1, P2, P3, P4, r, d, n, p1, p2, p3, p4, t, tb, ud, xn, xi, xc, nw, rd, az, ps, tx, td, ch, le, sp, rfl, rfl, hR⟩
  have hR0 := hR
  obtain ⟨hS, hu, hp, k, ht⟩ := hR0
  have hS0 := hS
  obtain ⟨hP, ⟨k1, hk1⟩, ⟨k2, hk2⟩⟩ := hS0
  obtain ⟨a0, a1, a2, a3, a4, a5, a6, a7, a8, a9, a10, a11, a12, ea⟩ := bEx13 (s_readInto xn xc)
  obtain ⟨b0, b1, b2, b3, eb⟩ := bEx4 (s_reads8 le rd tx td)
  obtain ⟨g1, -⟩ := reads_R ht ea eb
  have hl2 : le ≤ nI 200 := by rw [ht.2.2.1, leI, nIt (by have := ht.1; omega), nIt (by omega)]; have := ht.1; omega
  have fa : s_fault xn xc = (a0, a1, a2, a3, a4, a5, a6, a7, a8, a9, a10, a11, a12) := by unfold s_fault; rw [ea]
  have fb : s_fault8 le rd tx td = (b0, b1, b2, b3) := by unfold s_fault8; rw [eb]
  exact Sim.of (f_fault l D cyC cyI Q R E N P1 P2 P3 P4 r d n p1 p2 p3 p4 t tb ud xn xi xc _ _ _ _ _ _ _ _ _ _ _ _ _ fa) (f_fault8 l D cyC cyI K nw rd az ps tx td ch le sp _ _ _ _ fb hl2) wM_perm g1 (Inv.mk hR) ⟨rfl, rfl⟩ ⟨Nat.le_of_ble_eq_true rfl, Nat.le_of_ble_eq_true rfl⟩ ⟨rfl, rfl⟩ ⟨Nat.le_of_ble_eq_true rfl, Nat.le_of_ble_eq_true rfl⟩
theorem takes_G {rd A : Nat → Int32} : ∀ (n j : Nat) (ng : Nat → Int32), 516 ≤ j + n → j ≤ 515 → (∀ i, i < j → ng i = rd i) → g_takes8 rd n j ng = (A, ()) → ∀ i, i < 515 → A i = rd i := by
  intro n
  induction n with
  | zero => intro j ng h1 h2; omega
  | succ n ih =>
    intro j ng h1 h2 h3 h
    rw [g_takes8] at h
    by_cases c1 : 515 ≤ nI j
    · rw [if_pos c1] at h
      have c2 : 515 ≤ j := Nat.le_of_not_lt fun q => nI_ge q (by decide) c1
      have h9 := (Prod.mk.inj h).1
      subst h9
      exact fun i hi => h3 i (by omega)
    · rw [if_neg c1] at h
      have c2 := bNle (k := 515) rfl (by omega) (by decide) c1
      refine ih (j + 1) _ (by omega) (by omega) ?_ h
      intro i hi
      by_cases q : i = j
      · subst q; exact upd_eq
      · rw [upd_ne q]; exact h3 i (by omega)
/-- a layout taken -/
theorem lay_S {w A : Nat → Int32} {z0 z1 z2 z3 z4 x0 x1 x2 y0 y1 y2 : Int32} {b : Nat → Bool} {s0 s1 s2 s3 : Nat → Int32} (hL : LyR w z0 z1 z2 z3 z4 x0 x1 x2 y0 y1 y2) (hA : ∀ i, i < 515 → A i = w i) (hb : z1.toInt ≤ y0.toInt - x0.toInt ∧ x0.toInt ≤ z0.toInt ∧ y0.toInt ≤ z0.toInt) : StoR A (mk28 0 (-4) x0 0 x1 x2 0 0 0 x1 1 0 (1 + 0) 0 y0 0 y1 y2 0 0 0 y1 1 0 (1 + 0) 0 0 0, b, mk4 s0 s1 s2 s3) (mk11 z0 z1 z2 z3 z4 x0 x1 x2 y0 y1 y2) := by
  obtain ⟨⟨a0, a1, a2, a3, a4, a5⟩, ⟨b0, b1, b2, b3⟩, ⟨c0, c1, c2, c3⟩, hz, g0, g1, g2, g3, g4, ⟨g5, g6, g7⟩, ⟨g8, g9, g10⟩⟩ := hL
  have zz : ∀ i, i < 515 → (i = 6 ∨ i = 8 ∨ (10 < i ∧ i < 14) ∨ (14 < i ∧ i < 20) ∨ i = 21 ∨ (23 < i ∧ i < 27) ∨ 27 < i) → A i = 0 := fun i h1 h2 => (hA i h1).trans (hz i h1 h2)
  have st : ∀ n1 n2 n3 n4 tk a8 a10 : Int32, StR 0 n1 n2 n3 n4 tk a8 0 a10 0 := fun n1 n2 n3 n4 tk a8 a10 => ⟨rfl, fun q => absurd rfl q, fun _ q => absurd rfl q, fun q => absurd rfl q, fun q => absurd rfl q, fun q => absurd rfl q⟩
  refine ⟨⟨⟨(hA 0 (by omega)).trans a0, (hA 1 (by omega)).trans a1, (hA 2 (by omega)).trans a2, (hA 3 (by omega)).trans a3, (hA 4 (by omega)).trans a4, (hA 5 (by omega)).trans a5, zz 6 (by omega) (by omega)⟩,
    ⟨(hA 7 (by omega)).trans b0, zz 8 (by omega) (by omega), (hA 9 (by omega)).trans b1, (hA 10 (by omega)).trans b2, zz 11 (by omega) (by omega), zz 12 (by omega) (by omega), zz 13 (by omega) (by omega), (hA 14 (by omega)).trans b3, ?_⟩,
    ⟨(hA 20 (by omega)).trans c0, zz 21 (by omega) (by omega), (hA 22 (by omega)).trans c1, (hA 23 (by omega)).trans c2, zz 24 (by omega) (by omega), zz 25 (by omega) (by omega), zz 26 (by omega) (by omega), (hA 27 (by omega)).trans c3, ?_⟩,
    ⟨g0, g1, g2, g3, g4, Or.inl rfl⟩, ⟨show -40 ≤ (0 : Int32).toInt ∧ (0 : Int32).toInt ≤ 40 by decide, g6, g7, g6⟩, ⟨show -40 ≤ (0 : Int32).toInt ∧ (0 : Int32).toInt ≤ 40 by decide, g9, g10, g9⟩, ⟨g5.1, ?_, hb.2.2⟩⟩, ⟨0, ?_⟩, ⟨0, ?_⟩⟩
  · show StR (A 15) (A 16) (A 17) (A 18) (A 19) 0 1 0 (1 + 0) 0
    rw [zz 15 (by omega) (by omega)]; exact st _ _ _ _ _ _ _
  · show StR (A 28) (A 29) (A 30) (A 31) (A 32) 0 1 0 (1 + 0) 0
    rw [zz 28 (by omega) (by omega)]; exact st _ _ _ _ _ _ _
  · show x0.toInt + z1.toInt ≤ y0.toInt; omega
  · exact ⟨by omega, rfl, zz 33 (by omega) (by omega), fun k hk => by omega, fun k hk => by omega, fun j k _ hk => by omega⟩
  · exact ⟨by omega, rfl, zz 274 (by omega) (by omega), fun k hk => by omega, fun k hk => by omega, fun j k _ hk => by omega⟩
theorem holds_iff {z0 z1 x0 y0 : Int32} (h0 : 0 ≤ x0.toInt ∧ x0.toInt ≤ 999) (h1 : 0 ≤ y0.toInt ∧ y0.toInt ≤ 999) : s_holdsBoth z0 z1 x0 y0 = true ↔ (x0.toInt ≤ z0.toInt ∧ y0.toInt ≤ z0.toInt ∧ z1.toInt ≤ y0.toInt - x0.toInt) := by
  have e : (y0 - x0).toInt = y0.toInt - x0.toInt := subI (by omega) (by omega)
  unfold s_holdsBoth
  by_cases c1 : z0 < x0
  · rw [if_pos c1]; rw [ltI] at c1; constructor
    · intro q; cases q
    · intro q; omega
  · rw [if_neg c1]; rw [ltI] at c1
    by_cases c2 : z0 < y0
    · rw [if_pos c2]; rw [ltI] at c2; constructor
      · intro q; cases q
      · intro q; omega
    · rw [if_neg c2]; rw [ltI] at c2
      by_cases c3 : y0 - x0 < z1
      · rw [if_pos c3]; rw [ltI, e] at c3; constructor
        · intro q; cases q
        · intro q; omega
      · rw [if_neg c3]; rw [ltI, e] at c3; exact ⟨fun _ => by omega, fun _ => rfl⟩
set_option maxHeartbeats 4000000 in
theorem sim_lay : Sim l D cyC cyI Q K yX7_lay wsX7_lay yX8_lay wsX8_lay [] := by
  rintro wa wb ⟨R, E, N, P1, P2, P3, P4, r, d, n, p1, p2, p3, p4, t, tb, ud, xn, xi, xc, nw, rd, az, ps, tx, td, ch, le, sp, rfl, rfl, hR⟩
  have hR0 := hR
  obtain ⟨hS, hu, hp, k, ht⟩ := hR0
  have hS0 := hS
  obtain ⟨hP, ⟨k1, hk1⟩, ⟨k2, hk2⟩⟩ := hS0
  obtain ⟨a0, a1, a2, a3, a4, a5, a6, a7, a8, a9, a10, a11, a12, ea⟩ := bEx13 (s_readInto xn xc)
  obtain ⟨b0, b1, b2, b3, eb⟩ := bEx4 (s_reads8 le rd tx td)
  obtain ⟨g1, g2⟩ := reads_R ht ea eb
  have hl2 : le ≤ nI 200 := by rw [ht.2.2.1, leI, nIt (by have := ht.1; omega), nIt (by omega)]; have := ht.1; omega
  have eq13 : ∀ {c0 c1 c2 c3 c4 c5 c6 c7 c8 c9 c10 c11 c12 : Int32}, s_readInto xn xc = (c0, c1, c2, c3, c4, c5, c6, c7, c8, c9, c10, c11, c12) → c0 = a0 ∧ c2 = a2 ∧ c3 = a3 ∧ c7 = a7 ∧ c10 = a10 := by
    intro c0 c1 c2 c3 c4 c5 c6 c7 c8 c9 c10 c11 c12 h
    rw [ea] at h
    simp only [Prod.mk.injEq] at h
    obtain ⟨u0, u1, u2, u3, u4, u5, u6, u7, u8, u9, u10, u11, u12⟩ := h
    exact ⟨u0.symm, u2.symm, u3.symm, u7.symm, u10.symm⟩
  by_cases c0 : a0 = (-4)
  · have hL := g2 c0
    have hx := hL.2.2.2.2.2.2.2.2.2.1.1
    have hy := hL.2.2.2.2.2.2.2.2.2.2.1
    have hh := holds_iff (z0 := a2) (z1 := a3) hx hy
    have e7 : b2 7 = a7 := hL.2.1.1
    have e20 : b2 20 = a10 := hL.2.2.1.1
    have e0 : b2 0 = a2 := hL.1.1
    have e1 : b2 1 = a3 := hL.1.2.1
    have e : (a10 - a7).toInt = a10.toInt - a7.toInt := subI (by omega) (by omega)
    by_cases c1 : s_holdsBoth a2 a3 a7 a10 = true
    · have hb := hh.mp c1
      obtain ⟨A, eA⟩ := bEx1 (s_takes8 nw b2)
      have fa : s_lay_ok xn xc = (a2, a1, a2, a3, a4, a5, a6, a7, a8, a9, a10, a11, a12, a7, a8, a9, a8, a10, a11, a12, a11) := by unfold s_lay_ok; rw [ea]
      have fb : s_lay8 ch le nw rd tx td = (A 0, 0, b1, A, b2, b3) := by
        unfold s_lay8
        rw [eb]
        dsimp only
        rw [if_pos (g1.symm.trans c0), e0, e7, e20, e1, if_neg (by rw [ltI]; omega), if_neg (by rw [ltI]; omega), if_pos (by rw [leI, e]; omega), eA]
      have hA : ∀ i, i < 515 → A i = b2 i := takes_G 516 0 nw (by omega) (by omega) (fun i hi => by omega) eA
      exact Sim.of (f_lay_ok l D cyC cyI Q R E N P1 P2 P3 P4 r d n p1 p2 p3 p4 t tb ud xn xi xc _ _ _ _ _ _ _ _ _ _ _ _ _ _ _ _ _ _ _ _ _ fa (fun _ _ _ _ _ _ _ _ _ _ _ _ _ h => by obtain ⟨u0, u2, u3, u7, u10⟩ := eq13 h; rw [u0, u2, u3, u7, u10]; exact ⟨c0, c1⟩)) (f_lay8 l D cyC cyI K nw rd az ps tx td ch le sp _ _ _ _ _ _ fb hl2) wM_perm ((hA 0 (by omega)).trans e0).symm (Inv.mk ⟨lay_S hL hA ⟨hb.2.2, hb.1, hb.2.1⟩, rfl, Or.inl rfl, k, ht⟩) ⟨rfl, rfl⟩ ⟨Nat.le_of_ble_eq_true rfl, Nat.le_of_ble_eq_true rfl⟩ ⟨rfl, rfl⟩ ⟨Nat.le_of_ble_eq_true rfl, Nat.le_of_ble_eq_true rfl⟩
    · have fa : s_lay_no xn xc = (-2, a1, a2, a3, a4, a5, a6, a7, a8, a9, a10, a11, a12) := by
        unfold s_lay_no
        rw [ea]
        dsimp only
        rw [if_pos c0]
      have fb : s_lay8 ch le nw rd tx td = (-2, ch, b1, nw, b2, b3) := by
        unfold s_lay8
        rw [eb]
        dsimp only
        rw [if_pos (g1.symm.trans c0), e0, e7, e20, e1]
        by_cases d1 : a2 < a7
        · rw [if_pos d1]
        · rw [if_neg d1]
          by_cases d2 : a2 < a10
          · rw [if_pos d2]
          · rw [if_neg d2, if_neg]
            intro q
            apply c1
            rw [hh]
            rw [ltI] at d1 d2
            rw [leI, e] at q
            exact ⟨by omega, by omega, q⟩
      exact Sim.of (f_lay_no l D cyC cyI Q R E N P1 P2 P3 P4 r d n p1 p2 p3 p4 t tb ud xn xi xc _ _ _ _ _ _ _ _ _ _ _ _ _ fa (fun _ _ _ _ _ _ _ _ _ _ _ _ _ h _ => by obtain ⟨u0, u2, u3, u7, u10⟩ := eq13 h; rw [u2, u3, u7, u10]; exact c1)) (f_lay8 l D cyC cyI K nw rd az ps tx td ch le sp _ _ _ _ _ _ fb hl2) wM_perm rfl (Inv.mk hR) ⟨rfl, rfl⟩ ⟨Nat.le_of_ble_eq_true rfl, Nat.le_of_ble_eq_true rfl⟩ ⟨rfl, rfl⟩ ⟨Nat.le_of_ble_eq_true rfl, Nat.le_of_ble_eq_true rfl⟩
  · have fa : s_lay_no xn xc = (-2, a1, a2, a3, a4, a5, a6, a7, a8, a9, a10, a11, a12) := by
      unfold s_lay_no
      rw [ea]
      dsimp only
      rw [if_neg c0]
    have fb : s_lay8 ch le nw rd tx td = (-2, ch, b1, nw, b2, b3) := by
      unfold s_lay8
      rw [eb]
      dsimp only
      rw [if_neg (fun q => c0 (g1.trans q))]
    exact Sim.of (f_lay_no l D cyC cyI Q R E N P1 P2 P3 P4 r d n p1 p2 p3 p4 t tb ud xn xi xc _ _ _ _ _ _ _ _ _ _ _ _ _ fa (fun _ _ _ _ _ _ _ _ _ _ _ _ _ h q => by obtain ⟨u0, u2, u3, u7, u10⟩ := eq13 h; exact absurd (u0.symm.trans q) c0)) (f_lay8 l D cyC cyI K nw rd az ps tx td ch le sp _ _ _ _ _ _ fb hl2) wM_perm rfl (Inv.mk hR) ⟨rfl, rfl⟩ ⟨Nat.le_of_ble_eq_true rfl, Nat.le_of_ble_eq_true rfl⟩ ⟨rfl, rfl⟩ ⟨Nat.le_of_ble_eq_true rfl, Nat.le_of_ble_eq_true rfl⟩
set_option maxHeartbeats 4000000 in
theorem sim_undo : Sim l D cyC cyI Q K yX7_undo wsX7_undo yX8_undo wsX8_undo [] := by
  rintro wa wb ⟨R, E, N, P1, P2, P3, P4, r, d, n, p1, p2, p3, p4, t, tb, ud, xn, xi, xc, nw, rd, az, ps, tx, td, ch, le, sp, rfl, rfl, hR⟩
  have hR0 := hR
  obtain ⟨hS, hu, hp, k, ht⟩ := hR0
  have hS0 := hS
  obtain ⟨hP, ⟨k1, hk1⟩, ⟨k2, hk2⟩⟩ := hS0
  obtain ⟨b0, b1, b2, eb⟩ := bEx3 (s_undo8 ch nw ps)
  have hch := PastR_ch hp
  have b := f_undo8 l D cyC cyI K nw rd az ps tx td ch le sp _ _ _ eb hch
  rcases undo_R hp hS eb with ⟨z, z0, z1, z2⟩ | ⟨z, z0, z1, z2, z3⟩
  · subst z2
    rw [z1.trans z.symm] at b
    exact Sim.of (f_undo_no l D cyC cyI Q R E N P1 P2 P3 P4 r d n p1 p2 p3 p4 t tb ud xn xi xc _ rfl (by rw [hu, z]; decide)) b wM_perm z0.symm (Inv.mk hR) ⟨rfl, rfl⟩ ⟨Nat.le_of_ble_eq_true rfl, Nat.le_of_ble_eq_true rfl⟩ ⟨rfl, rfl⟩ ⟨Nat.le_of_ble_eq_true rfl, Nat.le_of_ble_eq_true rfl⟩
  · exact Sim.of (f_undo_ok l D cyC cyI Q R E N P1 P2 P3 P4 r d n p1 p2 p3 p4 t tb ud xn xi xc _ rfl (by rw [hu]; exact z)) b wM_perm (by rw [z0]; unfold s_undo_ok; rw [hu]) (Inv.mk ⟨z2, by rw [z1, hu], z3, k, ht⟩) ⟨rfl, rfl⟩ ⟨Nat.le_of_ble_eq_true rfl, Nat.le_of_ble_eq_true rfl⟩ ⟨rfl, rfl⟩ ⟨Nat.le_of_ble_eq_true rfl, Nat.le_of_ble_eq_true rfl⟩
end SIMS
