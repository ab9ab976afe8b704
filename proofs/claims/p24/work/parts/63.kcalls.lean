/-! the class's calls at the law's level -/
theorem k_count {l : Launch} {D : va_G} {cyC cyI : ClassId} {Q : Nat → Nat} {r : Nat → Int32} {S : Nat → Sto} {ud : Int32} {T : List Int32} {wa : va_W} (h : QW cyC cyI Q r S ud T wa) (what : Int32) (o0 : Int32) (hu : s_count ud ((S 0).1 0) ((S 0).1 1) ((S 0).1 2) ((S 0).1 14) (r 0) (r 1) (r 2) (r 3) (r 4) (nI T.length) what = o0) : KI l D cyC cyI yX7_count wsX7_count 1 21 [.ref (Q 0), .int what] wa o0 (QW cyC cyI Q r S ud T) := by
  obtain ⟨R, E, N, P1, P2, P3, P4, d, t, tb, xn, xi, xc, hT, rfl⟩ := h
  have hT2 := hT.2.1
  subst hT2
  have e := f_count l D cyC cyI Q R E N P1 P2 P3 P4 r d (S 0) (S 1) (S 2) (S 3) (S 4) t tb ud (nI T.length) xi xc what o0 hu
  exact ⟨_, _, ⟨rfl, rfl⟩, ⟨Nat.le_of_ble_eq_true rfl, Nat.le_of_ble_eq_true rfl⟩, e.1, e.2, ⟨R, E, N, P1, P2, P3, P4, d, t, tb, _, xi, xc, hT, rfl⟩⟩
theorem k_crane_0 {l : Launch} {D : va_G} {cyC cyI : ClassId} {Q : Nat → Nat} {r : Nat → Int32} {S : Nat → Sto} {ud : Int32} {T : List Int32} {wa : va_W} (h : QW cyC cyI Q r S ud T wa) (what : Int32) (o0 : Int32) (hu : s_crane_0 ((S 0).1 2) ((S 0).1 3) ((S 0).1 4) ((S 0).1 5) ((S 0).1 6) ((S 0).1 7) ((S 0).1 8) ((S 0).1 9) ((S 0).1 11) ((S 0).1 13) (r 2) (r 3) what = o0) : KI l D cyC cyI yX7_crane wsX7_crane 2 40 [.ref (Q 0), .int 0, .int what] wa o0 (QW cyC cyI Q r S ud T) := by
  obtain ⟨R, E, N, P1, P2, P3, P4, d, t, tb, xn, xi, xc, hT, rfl⟩ := h
  have hT2 := hT.2.1
  subst hT2
  have e := f_crane_0 l D cyC cyI Q R E N P1 P2 P3 P4 r d (S 0) (S 1) (S 2) (S 3) (S 4) t tb ud (nI T.length) xi xc what o0 hu
  exact ⟨_, _, ⟨rfl, rfl⟩, ⟨Nat.le_of_ble_eq_true rfl, Nat.le_of_ble_eq_true rfl⟩, e.1, e.2, ⟨R, E, N, P1, P2, P3, P4, d, t, tb, _, xi, xc, hT, rfl⟩⟩
theorem k_crane_1 {l : Launch} {D : va_G} {cyC cyI : ClassId} {Q : Nat → Nat} {r : Nat → Int32} {S : Nat → Sto} {ud : Int32} {T : List Int32} {wa : va_W} (h : QW cyC cyI Q r S ud T wa) (what : Int32) (o0 : Int32) (hu : s_crane_1 ((S 0).1 14) ((S 0).1 15) ((S 0).1 16) ((S 0).1 17) ((S 0).1 18) ((S 0).1 19) ((S 0).1 20) ((S 0).1 21) ((S 0).1 23) ((S 0).1 25) (r 2) (r 3) what = o0) : KI l D cyC cyI yX7_crane wsX7_crane 2 40 [.ref (Q 0), .int 1, .int what] wa o0 (QW cyC cyI Q r S ud T) := by
  obtain ⟨R, E, N, P1, P2, P3, P4, d, t, tb, xn, xi, xc, hT, rfl⟩ := h
  have hT2 := hT.2.1
  subst hT2
  have e := f_crane_1 l D cyC cyI Q R E N P1 P2 P3 P4 r d (S 0) (S 1) (S 2) (S 3) (S 4) t tb ud (nI T.length) xi xc what o0 hu
  exact ⟨_, _, ⟨rfl, rfl⟩, ⟨Nat.le_of_ble_eq_true rfl, Nat.le_of_ble_eq_true rfl⟩, e.1, e.2, ⟨R, E, N, P1, P2, P3, P4, d, t, tb, _, xi, xc, hT, rfl⟩⟩
theorem k_crane_b {l : Launch} {D : va_G} {cyC cyI : ClassId} {Q : Nat → Nat} {r : Nat → Int32} {S : Nat → Sto} {ud : Int32} {T : List Int32} {wa : va_W} (h : QW cyC cyI Q r S ud T wa) (c : Int32) (what : Int32) (o0 : Int32) (hu : s_crane_b = o0) (hc0 : ¬ c = 0) (hc1 : ¬ c = 1) : KI l D cyC cyI yX7_crane wsX7_crane 2 40 [.ref (Q 0), .int c, .int what] wa o0 (QW cyC cyI Q r S ud T) := by
  obtain ⟨R, E, N, P1, P2, P3, P4, d, t, tb, xn, xi, xc, hT, rfl⟩ := h
  have hT2 := hT.2.1
  subst hT2
  have e := f_crane_b l D cyC cyI Q R E N P1 P2 P3 P4 r d (S 0) (S 1) (S 2) (S 3) (S 4) t tb ud (nI T.length) xi xc c what o0 hu hc0 hc1
  exact ⟨_, _, ⟨rfl, rfl⟩, ⟨Nat.le_of_ble_eq_true rfl, Nat.le_of_ble_eq_true rfl⟩, e.1, e.2, ⟨R, E, N, P1, P2, P3, P4, d, t, tb, _, xi, xc, hT, rfl⟩⟩
theorem k_stepOf_0 {l : Launch} {D : va_G} {cyC cyI : ClassId} {Q : Nat → Nat} {r : Nat → Int32} {S : Nat → Sto} {ud : Int32} {T : List Int32} {wa : va_W} (h : QW cyC cyI Q r S ud T wa) (k : Int32) (what : Int32) (o0 : Int32) (hu : s_stepOf_0 ((S 0).1 10) ((S 0).1 11) ((S 0).1 12) ((S 0).1 13) k what = o0) : KI l D cyC cyI yX7_stepOf wsX7_stepOf 2 42 [.ref (Q 0), .int 0, .int k, .int what] wa o0 (QW cyC cyI Q r S ud T) := by
  obtain ⟨R, E, N, P1, P2, P3, P4, d, t, tb, xn, xi, xc, hT, rfl⟩ := h
  have hT2 := hT.2.1
  subst hT2
  have e := f_stepOf_0 l D cyC cyI Q R E N P1 P2 P3 P4 r d (S 0) (S 1) (S 2) (S 3) (S 4) t tb ud (nI T.length) xi xc k what o0 hu
  exact ⟨_, _, ⟨rfl, rfl⟩, ⟨Nat.le_of_ble_eq_true rfl, Nat.le_of_ble_eq_true rfl⟩, e.1, e.2, ⟨R, E, N, P1, P2, P3, P4, d, t, tb, _, xi, xc, hT, rfl⟩⟩
theorem k_stepOf_1 {l : Launch} {D : va_G} {cyC cyI : ClassId} {Q : Nat → Nat} {r : Nat → Int32} {S : Nat → Sto} {ud : Int32} {T : List Int32} {wa : va_W} (h : QW cyC cyI Q r S ud T wa) (k : Int32) (what : Int32) (o0 : Int32) (hu : s_stepOf_1 ((S 0).1 22) ((S 0).1 23) ((S 0).1 24) ((S 0).1 25) k what = o0) : KI l D cyC cyI yX7_stepOf wsX7_stepOf 2 42 [.ref (Q 0), .int 1, .int k, .int what] wa o0 (QW cyC cyI Q r S ud T) := by
  obtain ⟨R, E, N, P1, P2, P3, P4, d, t, tb, xn, xi, xc, hT, rfl⟩ := h
  have hT2 := hT.2.1
  subst hT2
  have e := f_stepOf_1 l D cyC cyI Q R E N P1 P2 P3 P4 r d (S 0) (S 1) (S 2) (S 3) (S 4) t tb ud (nI T.length) xi xc k what o0 hu
  exact ⟨_, _, ⟨rfl, rfl⟩, ⟨Nat.le_of_ble_eq_true rfl, Nat.le_of_ble_eq_true rfl⟩, e.1, e.2, ⟨R, E, N, P1, P2, P3, P4, d, t, tb, _, xi, xc, hT, rfl⟩⟩
theorem k_stepOf_b {l : Launch} {D : va_G} {cyC cyI : ClassId} {Q : Nat → Nat} {r : Nat → Int32} {S : Nat → Sto} {ud : Int32} {T : List Int32} {wa : va_W} (h : QW cyC cyI Q r S ud T wa) (c : Int32) (k : Int32) (what : Int32) (o0 : Int32) (hu : s_stepOf_b = o0) (hc0 : ¬ c = 0) (hc1 : ¬ c = 1) : KI l D cyC cyI yX7_stepOf wsX7_stepOf 2 42 [.ref (Q 0), .int c, .int k, .int what] wa o0 (QW cyC cyI Q r S ud T) := by
  obtain ⟨R, E, N, P1, P2, P3, P4, d, t, tb, xn, xi, xc, hT, rfl⟩ := h
  have hT2 := hT.2.1
  subst hT2
  have e := f_stepOf_b l D cyC cyI Q R E N P1 P2 P3 P4 r d (S 0) (S 1) (S 2) (S 3) (S 4) t tb ud (nI T.length) xi xc c k what o0 hu hc0 hc1
  exact ⟨_, _, ⟨rfl, rfl⟩, ⟨Nat.le_of_ble_eq_true rfl, Nat.le_of_ble_eq_true rfl⟩, e.1, e.2, ⟨R, E, N, P1, P2, P3, P4, d, t, tb, _, xi, xc, hT, rfl⟩⟩
theorem k_spot_0 {l : Launch} {D : va_G} {cyC cyI : ClassId} {Q : Nat → Nat} {r : Nat → Int32} {S : Nat → Sto} {ud : Int32} {T : List Int32} {wa : va_W} (h : QW cyC cyI Q r S ud T wa) (k : Int32) (what : Int32) (o0 : Int32) (hu : s_spot_0 ((S 0).1 26) ((S 0).2.2 0) ((S 0).2.2 1) k what = o0) : KI l D cyC cyI yX7_spot wsX7_spot 2 42 [.ref (Q 0), .int 0, .int k, .int what] wa o0 (QW cyC cyI Q r S ud T) := by
  obtain ⟨R, E, N, P1, P2, P3, P4, d, t, tb, xn, xi, xc, hT, rfl⟩ := h
  have hT2 := hT.2.1
  subst hT2
  have e := f_spot_0 l D cyC cyI Q R E N P1 P2 P3 P4 r d (S 0) (S 1) (S 2) (S 3) (S 4) t tb ud (nI T.length) xi xc k what o0 hu
  exact ⟨_, _, ⟨rfl, rfl⟩, ⟨Nat.le_of_ble_eq_true rfl, Nat.le_of_ble_eq_true rfl⟩, e.1, e.2, ⟨R, E, N, P1, P2, P3, P4, d, t, tb, _, xi, xc, hT, rfl⟩⟩
theorem k_spot_1 {l : Launch} {D : va_G} {cyC cyI : ClassId} {Q : Nat → Nat} {r : Nat → Int32} {S : Nat → Sto} {ud : Int32} {T : List Int32} {wa : va_W} (h : QW cyC cyI Q r S ud T wa) (k : Int32) (what : Int32) (o0 : Int32) (hu : s_spot_1 ((S 0).1 27) ((S 0).2.2 2) ((S 0).2.2 3) k what = o0) : KI l D cyC cyI yX7_spot wsX7_spot 2 42 [.ref (Q 0), .int 1, .int k, .int what] wa o0 (QW cyC cyI Q r S ud T) := by
  obtain ⟨R, E, N, P1, P2, P3, P4, d, t, tb, xn, xi, xc, hT, rfl⟩ := h
  have hT2 := hT.2.1
  subst hT2
  have e := f_spot_1 l D cyC cyI Q R E N P1 P2 P3 P4 r d (S 0) (S 1) (S 2) (S 3) (S 4) t tb ud (nI T.length) xi xc k what o0 hu
  exact ⟨_, _, ⟨rfl, rfl⟩, ⟨Nat.le_of_ble_eq_true rfl, Nat.le_of_ble_eq_true rfl⟩, e.1, e.2, ⟨R, E, N, P1, P2, P3, P4, d, t, tb, _, xi, xc, hT, rfl⟩⟩
theorem k_spot_b {l : Launch} {D : va_G} {cyC cyI : ClassId} {Q : Nat → Nat} {r : Nat → Int32} {S : Nat → Sto} {ud : Int32} {T : List Int32} {wa : va_W} (h : QW cyC cyI Q r S ud T wa) (c : Int32) (k : Int32) (what : Int32) (o0 : Int32) (hu : s_spot_b = o0) (hc0 : ¬ c = 0) (hc1 : ¬ c = 1) : KI l D cyC cyI yX7_spot wsX7_spot 2 42 [.ref (Q 0), .int c, .int k, .int what] wa o0 (QW cyC cyI Q r S ud T) := by
  obtain ⟨R, E, N, P1, P2, P3, P4, d, t, tb, xn, xi, xc, hT, rfl⟩ := h
  have hT2 := hT.2.1
  subst hT2
  have e := f_spot_b l D cyC cyI Q R E N P1 P2 P3 P4 r d (S 0) (S 1) (S 2) (S 3) (S 4) t tb ud (nI T.length) xi xc c k what o0 hu hc0 hc1
  exact ⟨_, _, ⟨rfl, rfl⟩, ⟨Nat.le_of_ble_eq_true rfl, Nat.le_of_ble_eq_true rfl⟩, e.1, e.2, ⟨R, E, N, P1, P2, P3, P4, d, t, tb, _, xi, xc, hT, rfl⟩⟩
theorem k_stop {l : Launch} {D : va_G} {cyC cyI : ClassId} {Q : Nat → Nat} {r : Nat → Int32} {S : Nat → Sto} {ud : Int32} {T : List Int32} {wa : va_W} (h : QW cyC cyI Q r S ud T wa) (v : Int32) (o0 : Int32) (hu : s_stop (r 2) v = o0) : KI l D cyC cyI yX7_stop wsX7_stop 2 42 [.ref (Q 0), .int v] wa o0 (QW cyC cyI Q r S ud T) := by
  obtain ⟨R, E, N, P1, P2, P3, P4, d, t, tb, xn, xi, xc, hT, rfl⟩ := h
  have hT2 := hT.2.1
  subst hT2
  have e := f_stop l D cyC cyI Q R E N P1 P2 P3 P4 r d (S 0) (S 1) (S 2) (S 3) (S 4) t tb ud (nI T.length) xi xc v o0 hu
  exact ⟨_, _, ⟨rfl, rfl⟩, ⟨Nat.le_of_ble_eq_true rfl, Nat.le_of_ble_eq_true rfl⟩, e.1, e.2, ⟨R, E, N, P1, P2, P3, P4, d, t, tb, _, xi, xc, hT, rfl⟩⟩
theorem k_half {l : Launch} {D : va_G} {cyC cyI : ClassId} {Q : Nat → Nat} {r : Nat → Int32} {S : Nat → Sto} {ud : Int32} {T : List Int32} {wa : va_W} (h : QW cyC cyI Q r S ud T wa) (v : Int32) (o0 : Int32) (hu : s_half v = o0) : KI l D cyC cyI yX7_half wsX7_half 2 42 [.ref (Q 0), .int v] wa o0 (QW cyC cyI Q r S ud T) := by
  obtain ⟨R, E, N, P1, P2, P3, P4, d, t, tb, xn, xi, xc, hT, rfl⟩ := h
  have hT2 := hT.2.1
  subst hT2
  have e := f_half l D cyC cyI Q R E N P1 P2 P3 P4 r d (S 0) (S 1) (S 2) (S 3) (S 4) t tb ud (nI T.length) xi xc v o0 hu
  exact ⟨_, _, ⟨rfl, rfl⟩, ⟨Nat.le_of_ble_eq_true rfl, Nat.le_of_ble_eq_true rfl⟩, e.1, e.2, ⟨R, E, N, P1, P2, P3, P4, d, t, tb, _, xi, xc, hT, rfl⟩⟩
theorem k_been_0 {l : Launch} {D : va_G} {cyC cyI : ClassId} {Q : Nat → Nat} {r : Nat → Int32} {S : Nat → Sto} {ud : Int32} {T : List Int32} {wa : va_W} (h : QW cyC cyI Q r S ud T wa) (x : Int32) (rp : Int32) (o0 : Int32) (hu : s_been_0 ((S 0).1 26) ((S 0).2.2 0) ((S 0).2.2 1) x rp = o0) : KI l D cyC cyI yX7_been wsX7_been 3 65 [.ref (Q 0), .int 0, .int x, .int rp] wa o0 (QW cyC cyI Q r S ud T) := by
  obtain ⟨R, E, N, P1, P2, P3, P4, d, t, tb, xn, xi, xc, hT, rfl⟩ := h
  have hT2 := hT.2.1
  subst hT2
  have e := f_been_0 l D cyC cyI Q R E N P1 P2 P3 P4 r d (S 0) (S 1) (S 2) (S 3) (S 4) t tb ud (nI T.length) xi xc x rp o0 hu
  exact ⟨_, _, ⟨rfl, rfl⟩, ⟨Nat.le_of_ble_eq_true rfl, Nat.le_of_ble_eq_true rfl⟩, e.1, e.2, ⟨R, E, N, P1, P2, P3, P4, d, t, tb, _, xi, xc, hT, rfl⟩⟩
theorem k_been_1 {l : Launch} {D : va_G} {cyC cyI : ClassId} {Q : Nat → Nat} {r : Nat → Int32} {S : Nat → Sto} {ud : Int32} {T : List Int32} {wa : va_W} (h : QW cyC cyI Q r S ud T wa) (x : Int32) (rp : Int32) (o0 : Int32) (hu : s_been_1 ((S 0).1 27) ((S 0).2.2 2) ((S 0).2.2 3) x rp = o0) : KI l D cyC cyI yX7_been wsX7_been 3 65 [.ref (Q 0), .int 1, .int x, .int rp] wa o0 (QW cyC cyI Q r S ud T) := by
  obtain ⟨R, E, N, P1, P2, P3, P4, d, t, tb, xn, xi, xc, hT, rfl⟩ := h
  have hT2 := hT.2.1
  subst hT2
  have e := f_been_1 l D cyC cyI Q R E N P1 P2 P3 P4 r d (S 0) (S 1) (S 2) (S 3) (S 4) t tb ud (nI T.length) xi xc x rp o0 hu
  exact ⟨_, _, ⟨rfl, rfl⟩, ⟨Nat.le_of_ble_eq_true rfl, Nat.le_of_ble_eq_true rfl⟩, e.1, e.2, ⟨R, E, N, P1, P2, P3, P4, d, t, tb, _, xi, xc, hT, rfl⟩⟩
theorem k_been_b {l : Launch} {D : va_G} {cyC cyI : ClassId} {Q : Nat → Nat} {r : Nat → Int32} {S : Nat → Sto} {ud : Int32} {T : List Int32} {wa : va_W} (h : QW cyC cyI Q r S ud T wa) (c : Int32) (x : Int32) (rp : Int32) (o0 : Int32) (hu : s_been_b = o0) (hc0 : ¬ c = 0) (hc1 : ¬ c = 1) : KI l D cyC cyI yX7_been wsX7_been 3 65 [.ref (Q 0), .int c, .int x, .int rp] wa o0 (QW cyC cyI Q r S ud T) := by
  obtain ⟨R, E, N, P1, P2, P3, P4, d, t, tb, xn, xi, xc, hT, rfl⟩ := h
  have hT2 := hT.2.1
  subst hT2
  have e := f_been_b l D cyC cyI Q R E N P1 P2 P3 P4 r d (S 0) (S 1) (S 2) (S 3) (S 4) t tb ud (nI T.length) xi xc c x rp o0 hu hc0 hc1
  exact ⟨_, _, ⟨rfl, rfl⟩, ⟨Nat.le_of_ble_eq_true rfl, Nat.le_of_ble_eq_true rfl⟩, e.1, e.2, ⟨R, E, N, P1, P2, P3, P4, d, t, tb, _, xi, xc, hT, rfl⟩⟩
theorem k_ahead_b {l : Launch} {D : va_G} {cyC cyI : ClassId} {Q : Nat → Nat} {r : Nat → Int32} {S : Nat → Sto} {ud : Int32} {T : List Int32} {wa : va_W} (h : QW cyC cyI Q r S ud T wa) (tn : Int32) (c : Int32) (what : Int32) (o0 : Int32) (hu : s_ahead_b tn = o0) (hc0 : ¬ c = 0) (hc1 : ¬ c = 1) : KI l D cyC cyI yX7_ahead wsX7_ahead 5 108 [.ref (Q 0), .int tn, .int c, .int what] wa o0 (QW cyC cyI Q r S ud T) := by
  obtain ⟨R, E, N, P1, P2, P3, P4, d, t, tb, xn, xi, xc, hT, rfl⟩ := h
  have hT2 := hT.2.1
  subst hT2
  have e := f_ahead_b l D cyC cyI Q R E N P1 P2 P3 P4 r d (S 0) (S 1) (S 2) (S 3) (S 4) t tb ud (nI T.length) xi xc tn c what o0 hu hc0 hc1
  exact ⟨_, _, ⟨rfl, rfl⟩, ⟨Nat.le_of_ble_eq_true rfl, Nat.le_of_ble_eq_true rfl⟩, e.1, e.2, ⟨R, E, N, P1, P2, P3, P4, d, t, tb, _, xi, xc, hT, rfl⟩⟩
theorem k_quiet_b {l : Launch} {D : va_G} {cyC cyI : ClassId} {Q : Nat → Nat} {r : Nat → Int32} {S : Nat → Sto} {ud : Int32} {T : List Int32} {wa : va_W} (h : QW cyC cyI Q r S ud T wa) (c : Int32) (o0 : Int32) (hu : s_quiet_b = o0) (hc0 : ¬ c = 0) (hc1 : ¬ c = 1) : KI l D cyC cyI yX7_quiet wsX7_quiet 5 108 [.ref (Q 0), .int c] wa o0 (QW cyC cyI Q r S ud T) := by
  obtain ⟨R, E, N, P1, P2, P3, P4, d, t, tb, xn, xi, xc, hT, rfl⟩ := h
  have hT2 := hT.2.1
  subst hT2
  have e := f_quiet_b l D cyC cyI Q R E N P1 P2 P3 P4 r d (S 0) (S 1) (S 2) (S 3) (S 4) t tb ud (nI T.length) xi xc c o0 hu hc0 hc1
  exact ⟨_, _, ⟨rfl, rfl⟩, ⟨Nat.le_of_ble_eq_true rfl, Nat.le_of_ble_eq_true rfl⟩, e.1, e.2, ⟨R, E, N, P1, P2, P3, P4, d, t, tb, _, xi, xc, hT, rfl⟩⟩
theorem k_best_b {l : Launch} {D : va_G} {cyC cyI : ClassId} {Q : Nat → Nat} {r : Nat → Int32} {S : Nat → Sto} {ud : Int32} {T : List Int32} {wa : va_W} (h : QW cyC cyI Q r S ud T wa) (c : Int32) (w_ : Int32) (what : Int32) (o0 : Int32) (hu : s_best_b = o0) (hc0 : ¬ c = 0) (hc1 : ¬ c = 1) : KI l D cyC cyI yX7_best wsX7_best 6 134 [.ref (Q 0), .int c, .int w_, .int what] wa o0 (QW cyC cyI Q r S ud T) := by
  obtain ⟨R, E, N, P1, P2, P3, P4, d, t, tb, xn, xi, xc, hT, rfl⟩ := h
  have hT2 := hT.2.1
  subst hT2
  have e := f_best_b l D cyC cyI Q R E N P1 P2 P3 P4 r d (S 0) (S 1) (S 2) (S 3) (S 4) t tb ud (nI T.length) xi xc c w_ what o0 hu hc0 hc1
  exact ⟨_, _, ⟨rfl, rfl⟩, ⟨Nat.le_of_ble_eq_true rfl, Nat.le_of_ble_eq_true rfl⟩, e.1, e.2, ⟨R, E, N, P1, P2, P3, P4, d, t, tb, _, xi, xc, hT, rfl⟩⟩
theorem k_command_no {l : Launch} {D : va_G} {cyC cyI : ClassId} {Q : Nat → Nat} {r : Nat → Int32} {S : Nat → Sto} {ud : Int32} {T : List Int32} {wa : va_W} (h : QW cyC cyI Q r S ud T wa) (c : Int32) (w : Int32) (o0 : Int32) (hu : s_command_no c = o0) (hbad : ((s_isCrane c) = true) → ¬ ((s_isSpeed w) = true)) : KI l D cyC cyI yX7_command wsX7_command 4 87 [.ref (Q 0), .int c, .int w] wa o0 (QW cyC cyI Q r S ud T) := by
  obtain ⟨R, E, N, P1, P2, P3, P4, d, t, tb, xn, xi, xc, hT, rfl⟩ := h
  have hT2 := hT.2.1
  subst hT2
  have e := f_command_no l D cyC cyI Q R E N P1 P2 P3 P4 r d (S 0) (S 1) (S 2) (S 3) (S 4) t tb ud (nI T.length) xi xc c w o0 hu hbad
  exact ⟨_, _, ⟨rfl, rfl⟩, ⟨Nat.le_of_ble_eq_true rfl, Nat.le_of_ble_eq_true rfl⟩, e.1, e.2, ⟨R, E, N, P1, P2, P3, P4, d, t, tb, _, xi, xc, hT, rfl⟩⟩
theorem k_shape_no {l : Launch} {D : va_G} {cyC cyI : ClassId} {Q : Nat → Nat} {r : Nat → Int32} {S : Nat → Sto} {ud : Int32} {T : List Int32} {wa : va_W} (h : QW cyC cyI Q r S ud T wa) (c : Int32) (w : Int32) (pa : Int32) (o0 : Int32) (hu : s_shape_no c w = o0) (hbad : ((s_isCrane c) = true) → ((s_isSpeed w) = true) → ¬ ((s_isWithin pa (-1) 20) = true)) : KI l D cyC cyI yX7_shape wsX7_shape 4 87 [.ref (Q 0), .int c, .int w, .int pa] wa o0 (QW cyC cyI Q r S ud T) := by
  obtain ⟨R, E, N, P1, P2, P3, P4, d, t, tb, xn, xi, xc, hT, rfl⟩ := h
  have hT2 := hT.2.1
  subst hT2
  have e := f_shape_no l D cyC cyI Q R E N P1 P2 P3 P4 r d (S 0) (S 1) (S 2) (S 3) (S 4) t tb ud (nI T.length) xi xc c w pa o0 hu hbad
  exact ⟨_, _, ⟨rfl, rfl⟩, ⟨Nat.le_of_ble_eq_true rfl, Nat.le_of_ble_eq_true rfl⟩, e.1, e.2, ⟨R, E, N, P1, P2, P3, P4, d, t, tb, _, xi, xc, hT, rfl⟩⟩
theorem k_target_0_no {l : Launch} {D : va_G} {cyC cyI : ClassId} {Q : Nat → Nat} {r : Nat → Int32} {S : Nat → Sto} {ud : Int32} {T : List Int32} {wa : va_W} (h : QW cyC cyI Q r S ud T wa) (rp : Int32) (o0 : Int32) (hu : s_target_0_no rp = o0) (hbad : ((s_isCrane 0) = true) → ((s_isRope rp) = true) → ¬ (¬ ((s_aimsAt ((S 0).1 1) ((S 0).1 9) ((S 0).1 21) 0 rp) = true))) : KI l D cyC cyI yX7_target wsX7_target 4 87 [.ref (Q 0), .int 0, .int rp] wa o0 (QW cyC cyI Q r S ud T) := by
  obtain ⟨R, E, N, P1, P2, P3, P4, d, t, tb, xn, xi, xc, hT, rfl⟩ := h
  have hT2 := hT.2.1
  subst hT2
  have e := f_target_0_no l D cyC cyI Q R E N P1 P2 P3 P4 r d (S 0) (S 1) (S 2) (S 3) (S 4) t tb ud (nI T.length) xi xc rp o0 hu hbad
  exact ⟨_, _, ⟨rfl, rfl⟩, ⟨Nat.le_of_ble_eq_true rfl, Nat.le_of_ble_eq_true rfl⟩, e.1, e.2, ⟨R, E, N, P1, P2, P3, P4, d, t, tb, _, xi, xc, hT, rfl⟩⟩
theorem k_target_1_no {l : Launch} {D : va_G} {cyC cyI : ClassId} {Q : Nat → Nat} {r : Nat → Int32} {S : Nat → Sto} {ud : Int32} {T : List Int32} {wa : va_W} (h : QW cyC cyI Q r S ud T wa) (rp : Int32) (o0 : Int32) (hu : s_target_1_no rp = o0) (hbad : ((s_isCrane 1) = true) → ((s_isRope rp) = true) → ¬ (¬ ((s_aimsAt ((S 0).1 1) ((S 0).1 9) ((S 0).1 21) 1 rp) = true))) : KI l D cyC cyI yX7_target wsX7_target 4 87 [.ref (Q 0), .int 1, .int rp] wa o0 (QW cyC cyI Q r S ud T) := by
  obtain ⟨R, E, N, P1, P2, P3, P4, d, t, tb, xn, xi, xc, hT, rfl⟩ := h
  have hT2 := hT.2.1
  subst hT2
  have e := f_target_1_no l D cyC cyI Q R E N P1 P2 P3 P4 r d (S 0) (S 1) (S 2) (S 3) (S 4) t tb ud (nI T.length) xi xc rp o0 hu hbad
  exact ⟨_, _, ⟨rfl, rfl⟩, ⟨Nat.le_of_ble_eq_true rfl, Nat.le_of_ble_eq_true rfl⟩, e.1, e.2, ⟨R, E, N, P1, P2, P3, P4, d, t, tb, _, xi, xc, hT, rfl⟩⟩
theorem k_target_b {l : Launch} {D : va_G} {cyC cyI : ClassId} {Q : Nat → Nat} {r : Nat → Int32} {S : Nat → Sto} {ud : Int32} {T : List Int32} {wa : va_W} (h : QW cyC cyI Q r S ud T wa) (c : Int32) (rp : Int32) (o0 : Int32) (hu : s_target_b = o0) (hc0 : ¬ c = 0) (hc1 : ¬ c = 1) : KI l D cyC cyI yX7_target wsX7_target 4 87 [.ref (Q 0), .int c, .int rp] wa o0 (QW cyC cyI Q r S ud T) := by
  obtain ⟨R, E, N, P1, P2, P3, P4, d, t, tb, xn, xi, xc, hT, rfl⟩ := h
  have hT2 := hT.2.1
  subst hT2
  have e := f_target_b l D cyC cyI Q R E N P1 P2 P3 P4 r d (S 0) (S 1) (S 2) (S 3) (S 4) t tb ud (nI T.length) xi xc c rp o0 hu hc0 hc1
  exact ⟨_, _, ⟨rfl, rfl⟩, ⟨Nat.le_of_ble_eq_true rfl, Nat.le_of_ble_eq_true rfl⟩, e.1, e.2, ⟨R, E, N, P1, P2, P3, P4, d, t, tb, _, xi, xc, hT, rfl⟩⟩
theorem k_load_0_no {l : Launch} {D : va_G} {cyC cyI : ClassId} {Q : Nat → Nat} {r : Nat → Int32} {S : Nat → Sto} {ud : Int32} {T : List Int32} {wa : va_W} (h : QW cyC cyI Q r S ud T wa) (m : Int32) (o0 : Int32) (hu : s_load_0_no m = o0) (hbad : ((s_isCrane 0) = true) → ((s_isWithin m 0 99) = true) → ¬ (¬ (((S 0).1 5) = m))) : KI l D cyC cyI yX7_load wsX7_load 4 87 [.ref (Q 0), .int 0, .int m] wa o0 (QW cyC cyI Q r S ud T) := by
  obtain ⟨R, E, N, P1, P2, P3, P4, d, t, tb, xn, xi, xc, hT, rfl⟩ := h
  have hT2 := hT.2.1
  subst hT2
  have e := f_load_0_no l D cyC cyI Q R E N P1 P2 P3 P4 r d (S 0) (S 1) (S 2) (S 3) (S 4) t tb ud (nI T.length) xi xc m o0 hu hbad
  exact ⟨_, _, ⟨rfl, rfl⟩, ⟨Nat.le_of_ble_eq_true rfl, Nat.le_of_ble_eq_true rfl⟩, e.1, e.2, ⟨R, E, N, P1, P2, P3, P4, d, t, tb, _, xi, xc, hT, rfl⟩⟩
theorem k_load_1_no {l : Launch} {D : va_G} {cyC cyI : ClassId} {Q : Nat → Nat} {r : Nat → Int32} {S : Nat → Sto} {ud : Int32} {T : List Int32} {wa : va_W} (h : QW cyC cyI Q r S ud T wa) (m : Int32) (o0 : Int32) (hu : s_load_1_no m = o0) (hbad : ((s_isCrane 1) = true) → ((s_isWithin m 0 99) = true) → ¬ (¬ (((S 0).1 17) = m))) : KI l D cyC cyI yX7_load wsX7_load 4 87 [.ref (Q 0), .int 1, .int m] wa o0 (QW cyC cyI Q r S ud T) := by
  obtain ⟨R, E, N, P1, P2, P3, P4, d, t, tb, xn, xi, xc, hT, rfl⟩ := h
  have hT2 := hT.2.1
  subst hT2
  have e := f_load_1_no l D cyC cyI Q R E N P1 P2 P3 P4 r d (S 0) (S 1) (S 2) (S 3) (S 4) t tb ud (nI T.length) xi xc m o0 hu hbad
  exact ⟨_, _, ⟨rfl, rfl⟩, ⟨Nat.le_of_ble_eq_true rfl, Nat.le_of_ble_eq_true rfl⟩, e.1, e.2, ⟨R, E, N, P1, P2, P3, P4, d, t, tb, _, xi, xc, hT, rfl⟩⟩
theorem k_load_b {l : Launch} {D : va_G} {cyC cyI : ClassId} {Q : Nat → Nat} {r : Nat → Int32} {S : Nat → Sto} {ud : Int32} {T : List Int32} {wa : va_W} (h : QW cyC cyI Q r S ud T wa) (c : Int32) (m : Int32) (o0 : Int32) (hu : s_load_b = o0) (hc0 : ¬ c = 0) (hc1 : ¬ c = 1) : KI l D cyC cyI yX7_load wsX7_load 4 87 [.ref (Q 0), .int c, .int m] wa o0 (QW cyC cyI Q r S ud T) := by
  obtain ⟨R, E, N, P1, P2, P3, P4, d, t, tb, xn, xi, xc, hT, rfl⟩ := h
  have hT2 := hT.2.1
  subst hT2
  have e := f_load_b l D cyC cyI Q R E N P1 P2 P3 P4 r d (S 0) (S 1) (S 2) (S 3) (S 4) t tb ud (nI T.length) xi xc c m o0 hu hc0 hc1
  exact ⟨_, _, ⟨rfl, rfl⟩, ⟨Nat.le_of_ble_eq_true rfl, Nat.le_of_ble_eq_true rfl⟩, e.1, e.2, ⟨R, E, N, P1, P2, P3, P4, d, t, tb, _, xi, xc, hT, rfl⟩⟩
theorem k_tick_no {l : Launch} {D : va_G} {cyC cyI : ClassId} {Q : Nat → Nat} {r : Nat → Int32} {S : Nat → Sto} {ud : Int32} {T : List Int32} {wa : va_W} (h : QW cyC cyI Q r S ud T wa) (tn : Int32) (o0 : Int32) (hu : s_tick_no tn = o0) (hbad : ((s_isWithin tn 1 60) = true) → ¬ (((S 0).1 0) + tn ≤ 9999)) : KI l D cyC cyI yX7_tick wsX7_tick 6 130 [.ref (Q 0), .int tn] wa o0 (QW cyC cyI Q r S ud T) := by
  obtain ⟨R, E, N, P1, P2, P3, P4, d, t, tb, xn, xi, xc, hT, rfl⟩ := h
  have hT2 := hT.2.1
  subst hT2
  have e := f_tick_no l D cyC cyI Q R E N P1 P2 P3 P4 r d (S 0) (S 1) (S 2) (S 3) (S 4) t tb ud (nI T.length) xi xc tn o0 hu hbad
  exact ⟨_, _, ⟨rfl, rfl⟩, ⟨Nat.le_of_ble_eq_true rfl, Nat.le_of_ble_eq_true rfl⟩, e.1, e.2, ⟨R, E, N, P1, P2, P3, P4, d, t, tb, _, xi, xc, hT, rfl⟩⟩
theorem k_undo_no {l : Launch} {D : va_G} {cyC cyI : ClassId} {Q : Nat → Nat} {r : Nat → Int32} {S : Nat → Sto} {ud : Int32} {T : List Int32} {wa : va_W} (h : QW cyC cyI Q r S ud T wa) (o0 : Int32) (hu : s_undo_no = o0) (hbad : ¬ (1 ≤ ud)) : KI l D cyC cyI yX7_undo wsX7_undo 0 0 [.ref (Q 0)] wa o0 (QW cyC cyI Q r S ud T) := by
  obtain ⟨R, E, N, P1, P2, P3, P4, d, t, tb, xn, xi, xc, hT, rfl⟩ := h
  have hT2 := hT.2.1
  subst hT2
  have e := f_undo_no l D cyC cyI Q R E N P1 P2 P3 P4 r d (S 0) (S 1) (S 2) (S 3) (S 4) t tb ud (nI T.length) xi xc o0 hu hbad
  exact ⟨_, _, ⟨rfl, rfl⟩, ⟨Nat.le_of_ble_eq_true rfl, Nat.le_of_ble_eq_true rfl⟩, e.1, e.2, ⟨R, E, N, P1, P2, P3, P4, d, t, tb, _, xi, xc, hT, rfl⟩⟩
theorem k_coupleOff_no {l : Launch} {D : va_G} {cyC cyI : ClassId} {Q : Nat → Nat} {r : Nat → Int32} {S : Nat → Sto} {ud : Int32} {T : List Int32} {wa : va_W} (h : QW cyC cyI Q r S ud T wa) (lv : Int32) (o0 : Int32) (hu : s_coupleOff_no lv = o0) (h1_ : ¬ (0 ≤ lv)) (hbad : ((s_isWithin lv (-1) 20) = true) → ¬ (¬ (((S 0).1 1) = (-4)))) : KI l D cyC cyI yX7_couple wsX7_couple 4 87 [.ref (Q 0), .int lv] wa o0 (QW cyC cyI Q r S ud T) := by
  obtain ⟨R, E, N, P1, P2, P3, P4, d, t, tb, xn, xi, xc, hT, rfl⟩ := h
  have hT2 := hT.2.1
  subst hT2
  have e := f_coupleOff_no l D cyC cyI Q R E N P1 P2 P3 P4 r d (S 0) (S 1) (S 2) (S 3) (S 4) t tb ud (nI T.length) xi xc lv o0 hu h1_ hbad
  exact ⟨_, _, ⟨rfl, rfl⟩, ⟨Nat.le_of_ble_eq_true rfl, Nat.le_of_ble_eq_true rfl⟩, e.1, e.2, ⟨R, E, N, P1, P2, P3, P4, d, t, tb, _, xi, xc, hT, rfl⟩⟩
theorem k_coupleOn_no {l : Launch} {D : va_G} {cyC cyI : ClassId} {Q : Nat → Nat} {r : Nat → Int32} {S : Nat → Sto} {ud : Int32} {T : List Int32} {wa : va_W} (h : QW cyC cyI Q r S ud T wa) (lv : Int32) (o0 : Int32) (hu : s_coupleOn_no lv = o0) (h1_ : 0 ≤ lv) (hbad : ((s_isWithin lv (-1) 20) = true) → ¬ (¬ (((S 0).1 1) = lv))) : KI l D cyC cyI yX7_couple wsX7_couple 4 87 [.ref (Q 0), .int lv] wa o0 (QW cyC cyI Q r S ud T) := by
  obtain ⟨R, E, N, P1, P2, P3, P4, d, t, tb, xn, xi, xc, hT, rfl⟩ := h
  have hT2 := hT.2.1
  subst hT2
  have e := f_coupleOn_no l D cyC cyI Q R E N P1 P2 P3 P4 r d (S 0) (S 1) (S 2) (S 3) (S 4) t tb ud (nI T.length) xi xc lv o0 hu h1_ hbad
  exact ⟨_, _, ⟨rfl, rfl⟩, ⟨Nat.le_of_ble_eq_true rfl, Nat.le_of_ble_eq_true rfl⟩, e.1, e.2, ⟨R, E, N, P1, P2, P3, P4, d, t, tb, _, xi, xc, hT, rfl⟩⟩
theorem k_wipe {l : Launch} {D : va_G} {cyC cyI : ClassId} {Q : Nat → Nat} {r : Nat → Int32} {S : Nat → Sto} {ud : Int32} {T : List Int32} {wa : va_W} (h : QW cyC cyI Q r S ud T wa) : KI l D cyC cyI yX7_wipe wsX7_wipe 0 0 [.ref (Q 0)] wa (nI T.length) (QW cyC cyI Q r S ud []) := by
  obtain ⟨R, E, N, P1, P2, P3, P4, d, t, tb, xn, xi, xc, hT, rfl⟩ := h
  have hT2 := hT.2.1
  subst hT2
  have e := f_wipe l D cyC cyI Q R E N P1 P2 P3 P4 r d (S 0) (S 1) (S 2) (S 3) (S 4) t tb ud (nI T.length) xi xc _ rfl
  exact ⟨_, _, ⟨rfl, rfl⟩, ⟨Nat.le_of_ble_eq_true rfl, Nat.le_of_ble_eq_true rfl⟩, e.1, e.2, ⟨R, E, N, P1, P2, P3, P4, d, t, tb, _, xi, xc, ⟨Nat.zero_le _, rfl, fun i hi => absurd hi (Nat.not_lt_zero i)⟩, rfl⟩⟩
theorem k_fault {l : Launch} {D : va_G} {cyC cyI : ClassId} {Q : Nat → Nat} {r : Nat → Int32} {S : Nat → Sto} {ud : Int32} {T : List Int32} {wa : va_W} (h : QW cyC cyI Q r S ud T wa) (o : Int32) (ho : (RD T).1 = o) : KI l D cyC cyI yX7_fault wsX7_fault 5 114 [.ref (Q 0)] wa o (QW cyC cyI Q r S ud T) := by
  obtain ⟨R, E, N, P1, P2, P3, P4, d, t, tb, xn, xi, xc, hT, rfl⟩ := h
  have hT2 := hT.2.1
  subst hT2
  subst ho
  have hr := RD_eq hT
  obtain ⟨o0, o1, o2, o3, o4, o5, o6, o7, o8, o9, o10, o11, o12, hu⟩ := bEx13 (s_readInto (nI T.length) xc)
  rw [← hr, hu]
  have hf : s_fault (nI T.length) xc = (o0, o1, o2, o3, o4, o5, o6, o7, o8, o9, o10, o11, o12) := by unfold s_fault; rw [hu]
  have e := f_fault l D cyC cyI Q R E N P1 P2 P3 P4 r d (S 0) (S 1) (S 2) (S 3) (S 4) t tb ud (nI T.length) xi xc o0 o1 o2 o3 o4 o5 o6 o7 o8 o9 o10 o11 o12 hf
  exact ⟨_, _, ⟨rfl, rfl⟩, ⟨Nat.le_of_ble_eq_true rfl, Nat.le_of_ble_eq_true rfl⟩, e.1, e.2, ⟨R, E, N, P1, P2, P3, P4, _, t, tb, _, o1, xc, hT, rfl⟩⟩
theorem k_lay_no {l : Launch} {D : va_G} {cyC cyI : ClassId} {Q : Nat → Nat} {r : Nat → Int32} {S : Nat → Sto} {ud : Int32} {T : List Int32} {wa : va_W} (h : QW cyC cyI Q r S ud T wa) (hno : (RD T).1 = -4 → ¬ (s_holdsBoth (RD T).2.2.1 (RD T).2.2.2.1 (RD T).2.2.2.2.2.2.2.1 (RD T).2.2.2.2.2.2.2.2.2.2.1) = true) : KI l D cyC cyI yX7_lay wsX7_lay 5 114 [.ref (Q 0)] wa (-2) (QW cyC cyI Q r S ud T) := by
  obtain ⟨R, E, N, P1, P2, P3, P4, d, t, tb, xn, xi, xc, hT, rfl⟩ := h
  have hT2 := hT.2.1
  subst hT2
  have hr := RD_eq hT
  obtain ⟨o0, o1, o2, o3, o4, o5, o6, o7, o8, o9, o10, o11, o12, hu⟩ := bEx13 (s_readInto (nI T.length) xc)
  rw [← hr, hu] at hno
  have hf : s_lay_no (nI T.length) xc = (-2, o1, o2, o3, o4, o5, o6, o7, o8, o9, o10, o11, o12) := by
    unfold s_lay_no
    rw [hu]
    dsimp only
    split <;> rfl
  have e := f_lay_no l D cyC cyI Q R E N P1 P2 P3 P4 r d (S 0) (S 1) (S 2) (S 3) (S 4) t tb ud (nI T.length) xi xc (-2) o1 o2 o3 o4 o5 o6 o7 o8 o9 o10 o11 o12 hf (by
    intro a0 a1 a2 a3 a4 a5 a6 a7 a8 a9 a10 a11 a12 ha
    rw [hu] at ha
    simp only [Prod.mk.injEq] at ha
    obtain ⟨v0, v1, v2, v3, v4, v5, v6, v7, v8, v9, v10, v11, v12⟩ := ha
    subst v0 v1 v2 v3 v4 v5 v6 v7 v8 v9 v10 v11 v12
    exact hno)
  exact ⟨_, _, ⟨rfl, rfl⟩, ⟨Nat.le_of_ble_eq_true rfl, Nat.le_of_ble_eq_true rfl⟩, e.1, e.2, ⟨R, E, N, P1, P2, P3, P4, _, t, tb, _, o1, xc, hT, rfl⟩⟩
/-- the story now, anew -/
def setS (S : Nat → Sto) (n : Sto) : Nat → Sto := fun i => match i with
  | 0 => n
  | k + 1 => S (k + 1)
/-- a change: the story now, what it was kept ahead of the others -/
def pushS (S : Nat → Sto) (n c : Sto) : Nat → Sto := fun i => match i with
  | 0 => n
  | 1 => c
  | k + 2 => S (k + 1)
/-- undone -/
def popS (S : Nat → Sto) : Nat → Sto := fun i => match i with
  | 4 => S 0
  | k => S (k + 1)
/-- a story as laying begins it -/
def layS (x1 l1 m1 x2 l2 m2 : Int32) (A : Nat → Nat → Int32) : Sto := (mk28 0 (-4) x1 0 l1 m1 0 0 0 l1 1 0 (1 + 0) 0 x2 0 l2 m2 0 0 0 l2 1 0 (1 + 0) 0 0 0, mkB false false, A)
theorem k_lay_ok {l : Launch} {D : va_G} {cyC cyI : ClassId} {Q : Nat → Nat} {r : Nat → Int32} {S : Nat → Sto} {ud : Int32} {T : List Int32} {wa : va_W} (h : QW cyC cyI Q r S ud T wa) {o1 o2 o3 o4 o5 o6 o7 o8 o9 o10 o11 o12 : Int32} (hR : RD T = (-4, o1, o2, o3, o4, o5, o6, o7, o8, o9, o10, o11, o12)) (hok : s_holdsBoth o2 o3 o7 o10 = true) : KI l D cyC cyI yX7_lay wsX7_lay 5 114 [.ref (Q 0)] wa o2 (QW cyC cyI Q (mk11 o2 o3 o4 o5 o6 o7 o8 o9 o10 o11 o12) (setS S (layS o7 o8 o9 o10 o11 o12 (mk4 ((S 0).2.2 0) ((S 0).2.2 1) ((S 0).2.2 2) ((S 0).2.2 3)))) 0 T) := by
  obtain ⟨R, E, N, P1, P2, P3, P4, d, t, tb, xn, xi, xc, hT, rfl⟩ := h
  have hT2 := hT.2.1
  subst hT2
  have hu := RD_eq hT
  rw [hR] at hu
  have hf : s_lay_ok (nI T.length) xc = (o2, o1, o2, o3, o4, o5, o6, o7, o8, o9, o10, o11, o12, o7, o8, o9, o8, o10, o11, o12, o11) := by
    unfold s_lay_ok
    rw [hu]
  have e := f_lay_ok l D cyC cyI Q R E N P1 P2 P3 P4 r d (S 0) (S 1) (S 2) (S 3) (S 4) t tb ud (nI T.length) xi xc o2 o1 o2 o3 o4 o5 o6 o7 o8 o9 o10 o11 o12 o7 o8 o9 o8 o10 o11 o12 o11 hf (by
    intro a0 a1 a2 a3 a4 a5 a6 a7 a8 a9 a10 a11 a12 ha
    rw [hu] at ha
    simp only [Prod.mk.injEq] at ha
    obtain ⟨v0, v1, v2, v3, v4, v5, v6, v7, v8, v9, v10, v11, v12⟩ := ha
    subst v0 v1 v2 v3 v4 v5 v6 v7 v8 v9 v10 v11 v12
    exact ⟨rfl, hok⟩)
  exact ⟨_, _, ⟨rfl, rfl⟩, ⟨Nat.le_of_ble_eq_true rfl, Nat.le_of_ble_eq_true rfl⟩, e.1, e.2, ⟨E, R, N, P1, P2, P3, P4, r, t, tb, _, o1, xc, hT, rfl⟩⟩
theorem k_write {l : Launch} {D : va_G} {cyC cyI : ClassId} {Q : Nat → Nat} {r : Nat → Int32} {S : Nat → Sto} {ud : Int32} {T : List Int32} {wa : va_W} (h : QW cyC cyI Q r S ud T wa) (w : Int32) (hl : T.length < 200) (hw : 32 ≤ w.toInt ∧ w.toInt ≤ 126) : KI l D cyC cyI yX7_write wsX7_write 1 22 [.ref (Q 0), .int w] wa (nI (T.length + 1)) (QW cyC cyI Q r S ud (T ++ [w])) := by
  obtain ⟨R, E, N, P1, P2, P3, P4, d, t, tb, xn, xi, xc, hT, rfl⟩ := h
  have hT2 := hT.2.1
  subst hT2
  obtain ⟨o0, o1, hu⟩ := bEx2 (s_append (nI T.length) xc ((w.toUInt32 % 65536).toInt32))
  obtain ⟨e1, e2⟩ := TX_app hT hl hw hu
  have hf : s_write (nI T.length) xc w = (o0, o0, o1) := by
    unfold s_write
    have e32 : (32 : Int32).toInt = 32 := by decide
    have e126 : (126 : Int32).toInt = 126 := by decide
    have e200 : (200 : Int32).toInt = 200 := by decide
    rw [if_pos (isWithin_y (by rw [e32]; exact hw.1) (by rw [e126]; exact hw.2)), if_neg (by
      unfold s_isFull
      rw [if_pos (show nI T.length < (200 : Int32) by rw [ltI, e200, nIt (by omega)]; omega)]
      decide), hu]
  have e := f_write l D cyC cyI Q R E N P1 P2 P3 P4 r d (S 0) (S 1) (S 2) (S 3) (S 4) t tb ud (nI T.length) xi xc w o0 o0 o1 hf
  have e3 : o0 = nI (T.length + 1) := by rw [e1, List.length_append]; rfl
  rw [e3] at e
  rw [e3] at e2
  exact ⟨_, _, ⟨rfl, rfl⟩, ⟨Nat.le_of_ble_eq_true rfl, Nat.le_of_ble_eq_true rfl⟩, e.1, e.2, ⟨R, E, N, P1, P2, P3, P4, d, t, tb, _, xi, _, e2, rfl⟩⟩
theorem k_write_no {l : Launch} {D : va_G} {cyC cyI : ClassId} {Q : Nat → Nat} {r : Nat → Int32} {S : Nat → Sto} {ud : Int32} {T : List Int32} {wa : va_W} (h : QW cyC cyI Q r S ud T wa) (w o : Int32) (hb : (¬ (s_isWithin w 32 126) = true ∧ o = -1) ∨ ((s_isWithin w 32 126) = true ∧ T.length = 200 ∧ o = -3)) : KI l D cyC cyI yX7_write wsX7_write 1 22 [.ref (Q 0), .int w] wa o (QW cyC cyI Q r S ud T) := by
  obtain ⟨R, E, N, P1, P2, P3, P4, d, t, tb, xn, xi, xc, hT, rfl⟩ := h
  have hT2 := hT.2.1
  subst hT2
  have hf : s_write (nI T.length) xc w = (o, nI T.length, xc) := by
    unfold s_write
    rcases hb with ⟨b1, b2⟩ | ⟨b1, b2, b3⟩
    · rw [if_neg b1, b2]
    · rw [if_pos b1, b3, b2, if_pos (by decide)]
  have e := f_write l D cyC cyI Q R E N P1 P2 P3 P4 r d (S 0) (S 1) (S 2) (S 3) (S 4) t tb ud (nI T.length) xi xc w o _ xc hf
  exact ⟨_, _, ⟨rfl, rfl⟩, ⟨Nat.le_of_ble_eq_true rfl, Nat.le_of_ble_eq_true rfl⟩, e.1, e.2, ⟨R, E, N, P1, P2, P3, P4, d, t, tb, _, xi, xc, hT, rfl⟩⟩
theorem k_undo {l : Launch} {D : va_G} {cyC cyI : ClassId} {Q : Nat → Nat} {r : Nat → Int32} {S : Nat → Sto} {ud : Int32} {T : List Int32} {wa : va_W} (h : QW cyC cyI Q r S ud T wa) (h1 : 1 ≤ ud) : KI l D cyC cyI yX7_undo wsX7_undo 0 0 [.ref (Q 0)] wa (ud - 1) (QW cyC cyI Q r (popS S) (ud - 1) T) := by
  obtain ⟨R, E, N, P1, P2, P3, P4, d, t, tb, xn, xi, xc, hT, rfl⟩ := h
  have hT2 := hT.2.1
  subst hT2
  have e := f_undo_ok l D cyC cyI Q R E N P1 P2 P3 P4 r d (S 0) (S 1) (S 2) (S 3) (S 4) t tb ud (nI T.length) xi xc _ rfl h1
  exact ⟨_, _, ⟨rfl, rfl⟩, ⟨Nat.le_of_ble_eq_true rfl, Nat.le_of_ble_eq_true rfl⟩, e.1, e.2, ⟨R, E, P1, P2, P3, P4, N, d, t, tb, _, xi, xc, hT, rfl⟩⟩
theorem k_command_ok {l : Launch} {D : va_G} {cyC cyI : ClassId} {Q : Nat → Nat} {r : Nat → Int32} {S : Nat → Sto} {ud : Int32} {T : List Int32} {wa : va_W} (h : QW cyC cyI Q r S ud T wa) (c : Int32) (w : Int32) (o0 : Int32) (o1 : Int32) (o2 : Int32) (o3 : Int32) (o4 : Int32) (o5 : Int32) (o6 : Int32) (o7 : Int32) (o8 : Int32) (o9 : Nat → Int32) (o10 : Nat → Int32) (o11 : Nat → Int32) (o12 : Nat → Int32) (hu : s_command_ok ((S 0).1 1) ((S 0).1 8) ((S 0).1 10) ((S 0).1 11) ((S 0).1 12) ((S 0).1 13) ((S 0).1 20) ((S 0).1 22) ((S 0).1 23) ((S 0).1 24) ((S 0).1 25) ((S 0).1 26) ((S 0).2.2 0) ((S 0).2.2 1) ((S 0).1 27) ((S 0).2.2 2) ((S 0).2.2 3) ((S 4).2.2 0) ((S 4).2.2 1) ((S 4).2.2 2) ((S 4).2.2 3) c w = (o0, o1, o2, o3, o4, o5, o6, o7, o8, o9, o10, o11, o12)) (h0_ : (s_isCrane c) = true) (h1_ : (s_isSpeed w) = true) : KI l D cyC cyI yX7_command wsX7_command 4 87 [.ref (Q 0), .int c, .int w] wa o0 (QW cyC cyI Q r (pushS S (mk28 ((S 0).1 0) ((S 0).1 1) ((S 0).1 2) ((S 0).1 3) ((S 0).1 4) ((S 0).1 5) ((S 0).1 6) ((S 0).1 7) ((S 0).1 8) ((S 0).1 9) o1 o2 o3 o4 ((S 0).1 14) ((S 0).1 15) ((S 0).1 16) ((S 0).1 17) ((S 0).1 18) ((S 0).1 19) ((S 0).1 20) ((S 0).1 21) o5 o6 o7 o8 ((S 0).1 26) ((S 0).1 27), mkB ((S 0).2.1 0) ((S 0).2.1 1), mk4 ((S 0).2.2 0) ((S 0).2.2 1) ((S 0).2.2 2) ((S 0).2.2 3)) (cpS (S 0) o9 o10 o11 o12)) (if 4 < (ud + 1) then 4 else (ud + 1)) T) := by
  obtain ⟨R, E, N, P1, P2, P3, P4, d, t, tb, xn, xi, xc, hT, rfl⟩ := h
  have hT2 := hT.2.1
  subst hT2
  have e := f_command_ok l D cyC cyI Q R E N P1 P2 P3 P4 r d (S 0) (S 1) (S 2) (S 3) (S 4) t tb ud (nI T.length) xi xc c w o0 o1 o2 o3 o4 o5 o6 o7 o8 o9 o10 o11 o12 hu h0_ h1_
  exact ⟨_, _, ⟨rfl, rfl⟩, ⟨Nat.le_of_ble_eq_true rfl, Nat.le_of_ble_eq_true rfl⟩, e.1, e.2, ⟨R, E, N, P4, P1, P2, P3, d, t, tb, _, xi, xc, hT, rfl⟩⟩
theorem k_shape_ok {l : Launch} {D : va_G} {cyC cyI : ClassId} {Q : Nat → Nat} {r : Nat → Int32} {S : Nat → Sto} {ud : Int32} {T : List Int32} {wa : va_W} (h : QW cyC cyI Q r S ud T wa) (c : Int32) (w : Int32) (pa : Int32) (o0 : Int32) (o1 : Int32) (o2 : Int32) (o3 : Int32) (o4 : Int32) (o5 : Int32) (o6 : Int32) (o7 : Int32) (o8 : Int32) (o9 : Nat → Int32) (o10 : Nat → Int32) (o11 : Nat → Int32) (o12 : Nat → Int32) (hu : s_shape_ok ((S 0).1 1) ((S 0).1 4) ((S 0).1 8) ((S 0).1 10) ((S 0).1 11) ((S 0).1 12) ((S 0).1 13) ((S 0).1 16) ((S 0).1 20) ((S 0).1 22) ((S 0).1 23) ((S 0).1 24) ((S 0).1 25) ((S 0).1 26) ((S 0).2.2 0) ((S 0).2.2 1) ((S 0).1 27) ((S 0).2.2 2) ((S 0).2.2 3) ((S 4).2.2 0) ((S 4).2.2 1) ((S 4).2.2 2) ((S 4).2.2 3) c w pa = (o0, o1, o2, o3, o4, o5, o6, o7, o8, o9, o10, o11, o12)) (h0_ : (s_isCrane c) = true) (h1_ : (s_isSpeed w) = true) (h2_ : (s_isWithin pa (-1) 20) = true) : KI l D cyC cyI yX7_shape wsX7_shape 4 87 [.ref (Q 0), .int c, .int w, .int pa] wa o0 (QW cyC cyI Q r (pushS S (mk28 ((S 0).1 0) ((S 0).1 1) ((S 0).1 2) ((S 0).1 3) ((S 0).1 4) ((S 0).1 5) ((S 0).1 6) ((S 0).1 7) ((S 0).1 8) ((S 0).1 9) o1 o2 o3 o4 ((S 0).1 14) ((S 0).1 15) ((S 0).1 16) ((S 0).1 17) ((S 0).1 18) ((S 0).1 19) ((S 0).1 20) ((S 0).1 21) o5 o6 o7 o8 ((S 0).1 26) ((S 0).1 27), mkB ((S 0).2.1 0) ((S 0).2.1 1), mk4 ((S 0).2.2 0) ((S 0).2.2 1) ((S 0).2.2 2) ((S 0).2.2 3)) (cpS (S 0) o9 o10 o11 o12)) (if 4 < (ud + 1) then 4 else (ud + 1)) T) := by
  obtain ⟨R, E, N, P1, P2, P3, P4, d, t, tb, xn, xi, xc, hT, rfl⟩ := h
  have hT2 := hT.2.1
  subst hT2
  have e := f_shape_ok l D cyC cyI Q R E N P1 P2 P3 P4 r d (S 0) (S 1) (S 2) (S 3) (S 4) t tb ud (nI T.length) xi xc c w pa o0 o1 o2 o3 o4 o5 o6 o7 o8 o9 o10 o11 o12 hu h0_ h1_ h2_
  exact ⟨_, _, ⟨rfl, rfl⟩, ⟨Nat.le_of_ble_eq_true rfl, Nat.le_of_ble_eq_true rfl⟩, e.1, e.2, ⟨R, E, N, P4, P1, P2, P3, d, t, tb, _, xi, xc, hT, rfl⟩⟩
theorem k_target_0_ok {l : Launch} {D : va_G} {cyC cyI : ClassId} {Q : Nat → Nat} {r : Nat → Int32} {S : Nat → Sto} {ud : Int32} {T : List Int32} {wa : va_W} (h : QW cyC cyI Q r S ud T wa) (rp : Int32) (o0 : Int32) (o1 : Int32) (o2 : Int32) (o3 : Nat → Int32) (o4 : Nat → Int32) (o5 : Nat → Int32) (o6 : Nat → Int32) (hu : s_target_0_ok ((S 0).1 1) ((S 0).1 9) ((S 0).1 21) ((S 0).1 26) ((S 0).2.2 0) ((S 0).2.2 1) ((S 0).1 27) ((S 0).2.2 2) ((S 0).2.2 3) ((S 4).2.2 0) ((S 4).2.2 1) ((S 4).2.2 2) ((S 4).2.2 3) rp = (o0, o1, o2, o3, o4, o5, o6)) (h0_ : (s_isCrane 0) = true) (h1_ : (s_isRope rp) = true) (h2_ : ¬ ((s_aimsAt ((S 0).1 1) ((S 0).1 9) ((S 0).1 21) 0 rp) = true)) : KI l D cyC cyI yX7_target wsX7_target 4 87 [.ref (Q 0), .int 0, .int rp] wa o0 (QW cyC cyI Q r (pushS S (mk28 ((S 0).1 0) ((S 0).1 1) ((S 0).1 2) ((S 0).1 3) ((S 0).1 4) ((S 0).1 5) ((S 0).1 6) ((S 0).1 7) ((S 0).1 8) o1 ((S 0).1 10) ((S 0).1 11) ((S 0).1 12) ((S 0).1 13) ((S 0).1 14) ((S 0).1 15) ((S 0).1 16) ((S 0).1 17) ((S 0).1 18) ((S 0).1 19) ((S 0).1 20) o2 ((S 0).1 22) ((S 0).1 23) ((S 0).1 24) ((S 0).1 25) ((S 0).1 26) ((S 0).1 27), mkB ((S 0).2.1 0) ((S 0).2.1 1), mk4 ((S 0).2.2 0) ((S 0).2.2 1) ((S 0).2.2 2) ((S 0).2.2 3)) (cpS (S 0) o3 o4 o5 o6)) (if 4 < (ud + 1) then 4 else (ud + 1)) T) := by
  obtain ⟨R, E, N, P1, P2, P3, P4, d, t, tb, xn, xi, xc, hT, rfl⟩ := h
  have hT2 := hT.2.1
  subst hT2
  have e := f_target_0_ok l D cyC cyI Q R E N P1 P2 P3 P4 r d (S 0) (S 1) (S 2) (S 3) (S 4) t tb ud (nI T.length) xi xc rp o0 o1 o2 o3 o4 o5 o6 hu h0_ h1_ h2_
  exact ⟨_, _, ⟨rfl, rfl⟩, ⟨Nat.le_of_ble_eq_true rfl, Nat.le_of_ble_eq_true rfl⟩, e.1, e.2, ⟨R, E, N, P4, P1, P2, P3, d, t, tb, _, xi, xc, hT, rfl⟩⟩
theorem k_target_1_ok {l : Launch} {D : va_G} {cyC cyI : ClassId} {Q : Nat → Nat} {r : Nat → Int32} {S : Nat → Sto} {ud : Int32} {T : List Int32} {wa : va_W} (h : QW cyC cyI Q r S ud T wa) (rp : Int32) (o0 : Int32) (o1 : Int32) (o2 : Int32) (o3 : Nat → Int32) (o4 : Nat → Int32) (o5 : Nat → Int32) (o6 : Nat → Int32) (hu : s_target_1_ok ((S 0).1 1) ((S 0).1 9) ((S 0).1 21) ((S 0).1 26) ((S 0).2.2 0) ((S 0).2.2 1) ((S 0).1 27) ((S 0).2.2 2) ((S 0).2.2 3) ((S 4).2.2 0) ((S 4).2.2 1) ((S 4).2.2 2) ((S 4).2.2 3) rp = (o0, o1, o2, o3, o4, o5, o6)) (h0_ : (s_isCrane 1) = true) (h1_ : (s_isRope rp) = true) (h2_ : ¬ ((s_aimsAt ((S 0).1 1) ((S 0).1 9) ((S 0).1 21) 1 rp) = true)) : KI l D cyC cyI yX7_target wsX7_target 4 87 [.ref (Q 0), .int 1, .int rp] wa o0 (QW cyC cyI Q r (pushS S (mk28 ((S 0).1 0) ((S 0).1 1) ((S 0).1 2) ((S 0).1 3) ((S 0).1 4) ((S 0).1 5) ((S 0).1 6) ((S 0).1 7) ((S 0).1 8) o1 ((S 0).1 10) ((S 0).1 11) ((S 0).1 12) ((S 0).1 13) ((S 0).1 14) ((S 0).1 15) ((S 0).1 16) ((S 0).1 17) ((S 0).1 18) ((S 0).1 19) ((S 0).1 20) o2 ((S 0).1 22) ((S 0).1 23) ((S 0).1 24) ((S 0).1 25) ((S 0).1 26) ((S 0).1 27), mkB ((S 0).2.1 0) ((S 0).2.1 1), mk4 ((S 0).2.2 0) ((S 0).2.2 1) ((S 0).2.2 2) ((S 0).2.2 3)) (cpS (S 0) o3 o4 o5 o6)) (if 4 < (ud + 1) then 4 else (ud + 1)) T) := by
  obtain ⟨R, E, N, P1, P2, P3, P4, d, t, tb, xn, xi, xc, hT, rfl⟩ := h
  have hT2 := hT.2.1
  subst hT2
  have e := f_target_1_ok l D cyC cyI Q R E N P1 P2 P3 P4 r d (S 0) (S 1) (S 2) (S 3) (S 4) t tb ud (nI T.length) xi xc rp o0 o1 o2 o3 o4 o5 o6 hu h0_ h1_ h2_
  exact ⟨_, _, ⟨rfl, rfl⟩, ⟨Nat.le_of_ble_eq_true rfl, Nat.le_of_ble_eq_true rfl⟩, e.1, e.2, ⟨R, E, N, P4, P1, P2, P3, d, t, tb, _, xi, xc, hT, rfl⟩⟩
theorem k_load_0_ok {l : Launch} {D : va_G} {cyC cyI : ClassId} {Q : Nat → Nat} {r : Nat → Int32} {S : Nat → Sto} {ud : Int32} {T : List Int32} {wa : va_W} (h : QW cyC cyI Q r S ud T wa) (m : Int32) (o0 : Int32) (o1 : Nat → Int32) (o2 : Nat → Int32) (o3 : Nat → Int32) (o4 : Nat → Int32) (hu : s_load_0_ok ((S 0).1 5) ((S 0).1 26) ((S 0).2.2 0) ((S 0).2.2 1) ((S 0).1 27) ((S 0).2.2 2) ((S 0).2.2 3) ((S 4).2.2 0) ((S 4).2.2 1) ((S 4).2.2 2) ((S 4).2.2 3) = (o0, o1, o2, o3, o4)) (h0_ : (s_isCrane 0) = true) (h1_ : (s_isWithin m 0 99) = true) (h2_ : ¬ (((S 0).1 5) = m)) : KI l D cyC cyI yX7_load wsX7_load 4 87 [.ref (Q 0), .int 0, .int m] wa o0 (QW cyC cyI Q r (pushS S (mk28 ((S 0).1 0) ((S 0).1 1) ((S 0).1 2) ((S 0).1 3) ((S 0).1 4) m ((S 0).1 6) ((S 0).1 7) ((S 0).1 8) ((S 0).1 9) ((S 0).1 10) ((S 0).1 11) ((S 0).1 12) ((S 0).1 13) ((S 0).1 14) ((S 0).1 15) ((S 0).1 16) ((S 0).1 17) ((S 0).1 18) ((S 0).1 19) ((S 0).1 20) ((S 0).1 21) ((S 0).1 22) ((S 0).1 23) ((S 0).1 24) ((S 0).1 25) ((S 0).1 26) ((S 0).1 27), mkB ((S 0).2.1 0) ((S 0).2.1 1), mk4 ((S 0).2.2 0) ((S 0).2.2 1) ((S 0).2.2 2) ((S 0).2.2 3)) (cpS (S 0) o1 o2 o3 o4)) (if 4 < (ud + 1) then 4 else (ud + 1)) T) := by
  obtain ⟨R, E, N, P1, P2, P3, P4, d, t, tb, xn, xi, xc, hT, rfl⟩ := h
  have hT2 := hT.2.1
  subst hT2
  have e := f_load_0_ok l D cyC cyI Q R E N P1 P2 P3 P4 r d (S 0) (S 1) (S 2) (S 3) (S 4) t tb ud (nI T.length) xi xc m o0 o1 o2 o3 o4 hu h0_ h1_ h2_
  exact ⟨_, _, ⟨rfl, rfl⟩, ⟨Nat.le_of_ble_eq_true rfl, Nat.le_of_ble_eq_true rfl⟩, e.1, e.2, ⟨R, E, N, P4, P1, P2, P3, d, t, tb, _, xi, xc, hT, rfl⟩⟩
theorem k_load_1_ok {l : Launch} {D : va_G} {cyC cyI : ClassId} {Q : Nat → Nat} {r : Nat → Int32} {S : Nat → Sto} {ud : Int32} {T : List Int32} {wa : va_W} (h : QW cyC cyI Q r S ud T wa) (m : Int32) (o0 : Int32) (o1 : Nat → Int32) (o2 : Nat → Int32) (o3 : Nat → Int32) (o4 : Nat → Int32) (hu : s_load_1_ok ((S 0).1 17) ((S 0).1 26) ((S 0).2.2 0) ((S 0).2.2 1) ((S 0).1 27) ((S 0).2.2 2) ((S 0).2.2 3) ((S 4).2.2 0) ((S 4).2.2 1) ((S 4).2.2 2) ((S 4).2.2 3) = (o0, o1, o2, o3, o4)) (h0_ : (s_isCrane 1) = true) (h1_ : (s_isWithin m 0 99) = true) (h2_ : ¬ (((S 0).1 17) = m)) : KI l D cyC cyI yX7_load wsX7_load 4 87 [.ref (Q 0), .int 1, .int m] wa o0 (QW cyC cyI Q r (pushS S (mk28 ((S 0).1 0) ((S 0).1 1) ((S 0).1 2) ((S 0).1 3) ((S 0).1 4) ((S 0).1 5) ((S 0).1 6) ((S 0).1 7) ((S 0).1 8) ((S 0).1 9) ((S 0).1 10) ((S 0).1 11) ((S 0).1 12) ((S 0).1 13) ((S 0).1 14) ((S 0).1 15) ((S 0).1 16) m ((S 0).1 18) ((S 0).1 19) ((S 0).1 20) ((S 0).1 21) ((S 0).1 22) ((S 0).1 23) ((S 0).1 24) ((S 0).1 25) ((S 0).1 26) ((S 0).1 27), mkB ((S 0).2.1 0) ((S 0).2.1 1), mk4 ((S 0).2.2 0) ((S 0).2.2 1) ((S 0).2.2 2) ((S 0).2.2 3)) (cpS (S 0) o1 o2 o3 o4)) (if 4 < (ud + 1) then 4 else (ud + 1)) T) := by
  obtain ⟨R, E, N, P1, P2, P3, P4, d, t, tb, xn, xi, xc, hT, rfl⟩ := h
  have hT2 := hT.2.1
  subst hT2
  have e := f_load_1_ok l D cyC cyI Q R E N P1 P2 P3 P4 r d (S 0) (S 1) (S 2) (S 3) (S 4) t tb ud (nI T.length) xi xc m o0 o1 o2 o3 o4 hu h0_ h1_ h2_
  exact ⟨_, _, ⟨rfl, rfl⟩, ⟨Nat.le_of_ble_eq_true rfl, Nat.le_of_ble_eq_true rfl⟩, e.1, e.2, ⟨R, E, N, P4, P1, P2, P3, d, t, tb, _, xi, xc, hT, rfl⟩⟩
theorem k_tick_ok {l : Launch} {D : va_G} {cyC cyI : ClassId} {Q : Nat → Nat} {r : Nat → Int32} {S : Nat → Sto} {ud : Int32} {T : List Int32} {wa : va_W} (h : QW cyC cyI Q r S ud T wa) (tn : Int32) (o0 : Int32) (o1 : Int32) (o2 : Int32) (o3 : Int32) (o4 : Int32) (o5 : Int32) (o6 : Int32) (o7 : Int32) (o8 : Int32) (o9 : Int32) (o10 : Int32) (o11 : Int32) (o12 : Int32) (o13 : Bool) (o14 : Int32) (o15 : Int32) (o16 : Int32) (o17 : Int32) (o18 : Int32) (o19 : Int32) (o20 : Int32) (o21 : Int32) (o22 : Int32) (o23 : Int32) (o24 : Bool) (o25 : Int32) (o26 : Nat → Int32) (o27 : Nat → Int32) (o28 : Int32) (o29 : Nat → Int32) (o30 : Nat → Int32) (o31 : Nat → Int32) (o32 : Nat → Int32) (o33 : Nat → Int32) (o34 : Nat → Int32) (hu : s_tick_ok ud ((S 0).1 0) ((S 0).1 1) ((S 0).1 2) ((S 0).1 3) ((S 0).1 4) ((S 0).1 5) ((S 0).1 6) ((S 0).1 7) ((S 0).1 8) ((S 0).1 9) ((S 0).1 10) ((S 0).1 11) ((S 0).1 12) ((S 0).1 13) ((S 0).2.1 0) ((S 0).1 14) ((S 0).1 15) ((S 0).1 16) ((S 0).1 17) ((S 0).1 18) ((S 0).1 19) ((S 0).1 20) ((S 0).1 21) ((S 0).1 22) ((S 0).1 23) ((S 0).1 24) ((S 0).1 25) ((S 0).2.1 1) ((S 0).1 26) ((S 0).2.2 0) ((S 0).2.2 1) ((S 0).1 27) ((S 0).2.2 2) ((S 0).2.2 3) ((S 4).2.2 0) ((S 4).2.2 1) ((S 4).2.2 2) ((S 4).2.2 3) (r 0) (r 1) (r 2) (r 3) (r 4) tn = (o0, o1, o2, o3, o4, o5, o6, o7, o8, o9, o10, o11, o12, o13, o14, o15, o16, o17, o18, o19, o20, o21, o22, o23, o24, o25, o26, o27, o28, o29, o30, o31, o32, o33, o34)) (h0_ : (s_isWithin tn 1 60) = true) (h1_ : ((S 0).1 0) + tn ≤ 9999) : KI l D cyC cyI yX7_tick wsX7_tick 6 130 [.ref (Q 0), .int tn] wa o0 (QW cyC cyI Q r (pushS S (mk28 o2 ((S 0).1 1) o3 o4 o5 ((S 0).1 5) o6 o7 o8 ((S 0).1 9) o9 o10 o11 o12 o14 o15 o16 ((S 0).1 17) o17 o18 o19 ((S 0).1 21) o20 o21 o22 o23 o25 o28, mkB o13 o24, mk4 o26 o27 o29 o30) (cpS (S 0) o31 o32 o33 o34)) o1 T) := by
  obtain ⟨R, E, N, P1, P2, P3, P4, d, t, tb, xn, xi, xc, hT, rfl⟩ := h
  have hT2 := hT.2.1
  subst hT2
  have e := f_tick_ok l D cyC cyI Q R E N P1 P2 P3 P4 r d (S 0) (S 1) (S 2) (S 3) (S 4) t tb ud (nI T.length) xi xc tn o0 o1 o2 o3 o4 o5 o6 o7 o8 o9 o10 o11 o12 o13 o14 o15 o16 o17 o18 o19 o20 o21 o22 o23 o24 o25 o26 o27 o28 o29 o30 o31 o32 o33 o34 hu h0_ h1_
  exact ⟨_, _, ⟨rfl, rfl⟩, ⟨Nat.le_of_ble_eq_true rfl, Nat.le_of_ble_eq_true rfl⟩, e.1, e.2, ⟨R, E, N, P4, P1, P2, P3, d, t, tb, _, xi, xc, hT, rfl⟩⟩
theorem k_coupleOff_ok {l : Launch} {D : va_G} {cyC cyI : ClassId} {Q : Nat → Nat} {r : Nat → Int32} {S : Nat → Sto} {ud : Int32} {T : List Int32} {wa : va_W} (h : QW cyC cyI Q r S ud T wa) (lv : Int32) (o0 : Int32) (o1 : Nat → Int32) (o2 : Nat → Int32) (o3 : Nat → Int32) (o4 : Nat → Int32) (hu : s_coupleOff_ok ((S 0).1 1) ((S 0).1 26) ((S 0).2.2 0) ((S 0).2.2 1) ((S 0).1 27) ((S 0).2.2 2) ((S 0).2.2 3) ((S 4).2.2 0) ((S 4).2.2 1) ((S 4).2.2 2) ((S 4).2.2 3) = (o0, o1, o2, o3, o4)) (h0_ : (s_isWithin lv (-1) 20) = true) (h1_ : ¬ (0 ≤ lv)) (h2_ : ¬ (((S 0).1 1) = (-4))) : KI l D cyC cyI yX7_couple wsX7_couple 4 87 [.ref (Q 0), .int lv] wa o0 (QW cyC cyI Q r (pushS S (mk28 ((S 0).1 0) (-4) ((S 0).1 2) ((S 0).1 3) ((S 0).1 4) ((S 0).1 5) ((S 0).1 6) ((S 0).1 7) ((S 0).1 8) ((S 0).1 9) ((S 0).1 10) ((S 0).1 11) ((S 0).1 12) ((S 0).1 13) ((S 0).1 14) ((S 0).1 15) ((S 0).1 16) ((S 0).1 17) ((S 0).1 18) ((S 0).1 19) ((S 0).1 20) ((S 0).1 21) ((S 0).1 22) ((S 0).1 23) ((S 0).1 24) ((S 0).1 25) ((S 0).1 26) ((S 0).1 27), mkB ((S 0).2.1 0) ((S 0).2.1 1), mk4 ((S 0).2.2 0) ((S 0).2.2 1) ((S 0).2.2 2) ((S 0).2.2 3)) (cpS (S 0) o1 o2 o3 o4)) (if 4 < (ud + 1) then 4 else (ud + 1)) T) := by
  obtain ⟨R, E, N, P1, P2, P3, P4, d, t, tb, xn, xi, xc, hT, rfl⟩ := h
  have hT2 := hT.2.1
  subst hT2
  have e := f_coupleOff_ok l D cyC cyI Q R E N P1 P2 P3 P4 r d (S 0) (S 1) (S 2) (S 3) (S 4) t tb ud (nI T.length) xi xc lv o0 o1 o2 o3 o4 hu h0_ h1_ h2_
  exact ⟨_, _, ⟨rfl, rfl⟩, ⟨Nat.le_of_ble_eq_true rfl, Nat.le_of_ble_eq_true rfl⟩, e.1, e.2, ⟨R, E, N, P4, P1, P2, P3, d, t, tb, _, xi, xc, hT, rfl⟩⟩
theorem k_coupleOn_ok {l : Launch} {D : va_G} {cyC cyI : ClassId} {Q : Nat → Nat} {r : Nat → Int32} {S : Nat → Sto} {ud : Int32} {T : List Int32} {wa : va_W} (h : QW cyC cyI Q r S ud T wa) (lv : Int32) (o0 : Int32) (o1 : Nat → Int32) (o2 : Nat → Int32) (o3 : Nat → Int32) (o4 : Nat → Int32) (hu : s_coupleOn_ok ((S 0).1 1) ((S 0).1 26) ((S 0).2.2 0) ((S 0).2.2 1) ((S 0).1 27) ((S 0).2.2 2) ((S 0).2.2 3) ((S 4).2.2 0) ((S 4).2.2 1) ((S 4).2.2 2) ((S 4).2.2 3) = (o0, o1, o2, o3, o4)) (h0_ : (s_isWithin lv (-1) 20) = true) (h1_ : 0 ≤ lv) (h2_ : ¬ (((S 0).1 1) = lv)) : KI l D cyC cyI yX7_couple wsX7_couple 4 87 [.ref (Q 0), .int lv] wa o0 (QW cyC cyI Q r (pushS S (mk28 ((S 0).1 0) lv ((S 0).1 2) ((S 0).1 3) ((S 0).1 4) ((S 0).1 5) ((S 0).1 6) ((S 0).1 7) ((S 0).1 8) ((S 0).1 9) ((S 0).1 10) ((S 0).1 11) ((S 0).1 12) ((S 0).1 13) ((S 0).1 14) ((S 0).1 15) ((S 0).1 16) ((S 0).1 17) ((S 0).1 18) ((S 0).1 19) ((S 0).1 20) ((S 0).1 21) ((S 0).1 22) ((S 0).1 23) ((S 0).1 24) ((S 0).1 25) ((S 0).1 26) ((S 0).1 27), mkB ((S 0).2.1 0) ((S 0).2.1 1), mk4 ((S 0).2.2 0) ((S 0).2.2 1) ((S 0).2.2 2) ((S 0).2.2 3)) (cpS (S 0) o1 o2 o3 o4)) (if 4 < (ud + 1) then 4 else (ud + 1)) T) := by
  obtain ⟨R, E, N, P1, P2, P3, P4, d, t, tb, xn, xi, xc, hT, rfl⟩ := h
  have hT2 := hT.2.1
  subst hT2
  have e := f_coupleOn_ok l D cyC cyI Q R E N P1 P2 P3 P4 r d (S 0) (S 1) (S 2) (S 3) (S 4) t tb ud (nI T.length) xi xc lv o0 o1 o2 o3 o4 hu h0_ h1_ h2_
  exact ⟨_, _, ⟨rfl, rfl⟩, ⟨Nat.le_of_ble_eq_true rfl, Nat.le_of_ble_eq_true rfl⟩, e.1, e.2, ⟨R, E, N, P4, P1, P2, P3, d, t, tb, _, xi, xc, hT, rfl⟩⟩
