/-! what holds of a story whatever was told: bounds, spots, and what of it can be seen -/
def sumT (ag : Nat → Int32) : Nat → Int
  | 0 => 0
  | k + 1 => sumT ag k + (ag k).toInt
def SpI (mm : Nat) (am : Int32) (af ag : Nat → Int32) (tk : Int) : Prop := mm ≤ 120 ∧ am = nI mm ∧ (∀ k, k < mm → spCode (af k)) ∧ (∀ j k, j < k → k < mm → af j ≠ af k) ∧ (∀ k, k < mm → 0 ≤ (ag k).toInt) ∧ sumT ag mm = tk
def rowOf (mm : Nat) (af ag : Nat → Int32) : Nat → Int32 := fun i => if i = 0 then nI mm else if i < 121 then af (i - 1) else ag (i - 121)
theorem SpI.row {mm : Nat} {am : Int32} {af ag : Nat → Int32} {tk : Int} (h : SpI mm am af ag tk) : SpR (rowOf mm af ag) 0 mm am af ag := by
  obtain ⟨h1, h2, h3, h4, h5, h6⟩ := h
  refine ⟨h1, h2, if_pos rfl, fun k hk => ⟨?_, ?_⟩, h3, h4⟩
  · unfold rowOf
    rw [if_neg (by omega), if_pos (by omega), show k + (0 + 1) - 1 = k by omega]
  · unfold rowOf
    rw [if_neg (by omega), if_neg (by omega), show k + (0 + 121) - 121 = k by omega]
theorem sumT_ge {ag : Nat → Int32} {x : Int32} {k : Nat} : ∀ mm : Nat, mm ≤ k → sumT (upd ag k x) mm = sumT ag mm := by
  intro mm
  induction mm with
  | zero => intro _; rfl
  | succ mm ih => intro h; rw [sumT, sumT, ih (by omega), upd_ne (by omega)]
theorem sumT_lt {ag : Nat → Int32} {x : Int32} {k : Nat} : ∀ mm : Nat, k < mm → sumT (upd ag k x) mm = sumT ag mm - (ag k).toInt + x.toInt := by
  intro mm
  induction mm with
  | zero => intro h; omega
  | succ mm ih =>
    intro h
    rw [sumT, sumT]
    by_cases q : k = mm
    · subst q
      rw [sumT_ge k (Nat.le_refl k), upd_eq]; omega
    · rw [ih (by omega), upd_ne (by omega)]; omega
theorem sumT_le {ag : Nat → Int32} : ∀ mm : Nat, (∀ k, k < mm → 0 ≤ (ag k).toInt) → 0 ≤ sumT ag mm ∧ ∀ k, k < mm → (ag k).toInt ≤ sumT ag mm := by
  intro mm
  induction mm with
  | zero => intro _; exact ⟨Int.le_refl _, fun k h => by omega⟩
  | succ mm ih =>
    intro h
    obtain ⟨a1, a2⟩ := ih (fun k hk => h k (by omega))
    have a3 := h mm (by omega)
    rw [sumT]
    refine ⟨by omega, fun k hk => ?_⟩
    by_cases q : k = mm
    · subst q; omega
    · have := a2 k (by omega); omega
theorem sumT_congr {a b : Nat → Int32} : ∀ mm : Nat, (∀ k, k < mm → a k = b k) → sumT a mm = sumT b mm := by
  intro mm
  induction mm with
  | zero => intro _; rfl
  | succ mm ih => intro h; rw [sumT, sumT, ih (fun k hk => h k (by omega)), h mm (by omega)]
theorem SpI_add {mm : Nat} {am : Int32} {af ag : Nat → Int32} {tk : Int} {b0 b2 o0 : Int32} {o1 o2 : Nat → Int32} (h : SpI mm am af ag tk) (hx : 0 ≤ b0.toInt ∧ b0.toInt ≤ 999) (hr : 10 ≤ b2.toInt ∧ b2.toInt ≤ 60) (ht : tk ≤ 100000) (hc : s_addTick am af ag b0 b2 = (o0, o1, o2)) : ∃ m2, SpI m2 o0 o1 o2 (tk + 1) := by
  have hs := h.row
  have hok : spCode (s_nameOf (b0 / 50) (b2 / 10)) := by
    unfold s_nameOf
    rw [Int32.mul_comm]
    exact code_ok hx hr
  have hf := find_eq hs (s_nameOf (b0 / 50) (b2 / 10))
  have hp := gIx_p (nw := rowOf mm af ag) (o := 0 + 1) (mm := mm) (cd := s_nameOf (b0 / 50) (b2 / 10)) hs.1 121 0 (by omega) (by omega) (fun i hi => by omega)
  unfold s_addTick at hc
  rw [hf] at hc
  generalize s_nameOf (b0 / 50) (b2 / 10) = cd at *
  generalize gIx (rowOf mm af ag) (0 + 1) mm cd 121 0 = ix at *
  obtain ⟨p1, p2, p3⟩ := hp
  have hsv := hs
  obtain ⟨q1, q2, q3, q4, q5, q6⟩ := hs
  obtain ⟨h1, h2, h3, h4, h5, h6⟩ := h
  obtain ⟨s1, s2⟩ := sumT_le mm h5
  have e1 : (1 : Int32).toInt = 1 := by decide
  by_cases hk : ix < mm
  · rw [ticksAt_old q2 hk h1, put_n (by omega)] at hc
    dsimp only at hc
    rw [if_neg (by rw [q2]; intro q; have := nI_ne (by omega) (by omega) q; omega)] at hc
    simp only [Prod.mk.injEq] at hc
    obtain ⟨u1, u2, u3⟩ := hc
    subst u1 u2 u3
    have a1 : af ix = cd := (q4 ix hk).1.symm.trans (p2 hk)
    have e : upd af ix cd = af := by
      funext i
      by_cases q : i = ix
      · subst q; rw [upd_eq, a1]
      · rw [upd_ne q]
    have a2 := s2 ix hk
    have a3 := h5 ix hk
    have e2 : (ag ix + 1).toInt = (ag ix).toInt + 1 := by rw [addI (by omega) (by omega), e1]
    rw [e]
    refine ⟨mm, h1, h2, h3, h4, fun k hk2 => ?_, ?_⟩
    · by_cases q : k = ix
      · subst q; rw [upd_eq, e2]; omega
      · rw [upd_ne q]; exact h5 k hk2
    · rw [sumT_lt mm hk, e2]; omega
  · have hk2 : ix = mm := by omega
    subst hk2
    have hno : ∀ k, k < ix → af k ≠ cd := fun k h' q => p3 k h' ((q4 k h').1.trans q)
    have hroom : ix < 120 := SpR_room hsv hok hno
    rw [ticksAt_new q2 h1, put_n (by omega)] at hc
    dsimp only at hc
    rw [if_pos q2.symm, if_neg (by rw [q2, leI, nIt (by omega), show (120 : Int32).toInt = 120 from by decide]; omega)] at hc
    simp only [Prod.mk.injEq] at hc
    obtain ⟨u1, u2, u3⟩ := hc
    subst u1 u2 u3
    have e0 : (0 + 1 : Int32).toInt = 1 := by decide
    refine ⟨ix + 1, by omega, by rw [h2, nI1 (by omega)], fun k hk2 => ?_, fun j k hj hk2 => ?_, fun k hk2 => ?_, ?_⟩
    · by_cases q : k = ix
      · subst q; rw [upd_eq]; exact hok
      · rw [upd_ne q]; exact h3 k (by omega)
    · rw [upd_ne (by omega)]
      by_cases q : k = ix
      · subst q; rw [upd_eq]; exact hno j (by omega)
      · rw [upd_ne q]; exact h4 j k hj (by omega)
    · by_cases q : k = ix
      · subst q; rw [upd_eq, e0]; omega
      · rw [upd_ne q]; exact h5 k (by omega)
    · rw [sumT, sumT_ge ix (Nat.le_refl ix), upd_eq, e0]; omega
def CrO (r3 a1 a2 a3 a4 a5 a7 : Int32) : Prop := (-r3.toInt ≤ a1.toInt ∧ a1.toInt ≤ r3.toInt) ∧ (10 ≤ a2.toInt ∧ a2.toInt ≤ 60) ∧ (0 ≤ a3.toInt ∧ a3.toInt ≤ 99) ∧ (10 ≤ a7.toInt ∧ a7.toInt ≤ 60) ∧ (-9999 ≤ a4.toInt ∧ a4.toInt ≤ 9999) ∧ (-9999 ≤ a5.toInt ∧ a5.toInt ≤ 9999)
theorem limit_t {a3 r3 : Int32} (h : 1 ≤ r3.toInt ∧ r3.toInt ≤ 40) (h3 : 0 ≤ a3.toInt ∧ a3.toInt ≤ 99) : 1 ≤ (s_limit a3 r3).toInt ∧ (s_limit a3 r3).toInt ≤ r3.toInt := by
  have e1 : (1 : Int32).toInt = 1 := by decide
  have e2 : (a3 / 10).toInt = a3.toInt / 10 := by
    rw [Int32.toInt_div_of_ne_right _ _ (by decide), show (10 : Int32).toInt = 10 from by decide]
    exact Int.tdiv_eq_ediv_of_nonneg h3.1
  have e3 : (r3 - a3 / 10).toInt = r3.toInt - a3.toInt / 10 := by rw [subI (by omega) (by omega), e2]
  unfold s_limit
  by_cases c : 1 < r3 - a3 / 10
  · rw [if_pos c, e3]; rw [ltI, e3, e1] at c; omega
  · rw [if_neg c, e1]; omega
theorem speed_t {a1 a3 a6 r2 r3 : Int32} (ht : 1 ≤ r3.toInt ∧ r3.toInt ≤ 40) (hv : -r3.toInt ≤ a1.toInt ∧ a1.toInt ≤ r3.toInt) (h3 : 0 ≤ a3.toInt ∧ a3.toInt ≤ 99) (hc : 1 ≤ r2.toInt ∧ r2.toInt ≤ 9) : -r3.toInt ≤ (s_speedNearerToWant a1 a3 a6 r2 r3).toInt ∧ (s_speedNearerToWant a1 a3 a6 r2 r3).toInt ≤ r3.toInt := by
  unfold s_speedNearerToWant
  have hb := limit_t ht h3
  generalize s_limit a3 r3 = lim at *
  have c1 := clampB (x := a6) (mo := lim) (by omega)
  generalize s_keptWithin a6 lim = x at *
  have e1 : (x - a1).toInt = x.toInt - a1.toInt := subI (by omega) (by omega)
  have c2 := clampB (x := x - a1) (mo := r2) (by omega)
  generalize s_keptWithin (x - a1) r2 = y at *
  rw [e1] at c2
  have e2 : (a1 + y).toInt = a1.toInt + y.toInt := addI (by omega) (by omega)
  rw [e2]
  omega
theorem bkC_t {v ro ch : Int32} {t : Int} (hv : -40 ≤ v.toInt ∧ v.toInt ≤ 40) (hc : 1 ≤ ch.toInt ∧ ch.toInt ≤ 9) (hr : 0 ≤ ro.toInt) (ht : -t ≤ v.toInt ∧ v.toInt ≤ t) : -t ≤ (bkC v ro ch).toInt ∧ (bkC v ro ch).toInt ≤ t := by
  have h := bkC_b (v := v) (ro := ro) (ch := ch) hv hc hr
  by_cases q : 0 ≤ v.toInt
  · have := h.1 q; omega
  · have := h.2 (by omega); omega
theorem swing_t (a2 a4 a5 d : Int32) : (-9999 ≤ (s_swingOut a2 a4 a5 d).1.toInt ∧ (s_swingOut a2 a4 a5 d).1.toInt ≤ 9999) ∧ (-9999 ≤ (s_swingOut a2 a4 a5 d).2.toInt ∧ (s_swingOut a2 a4 a5 d).2.toInt ≤ 9999) := by
  have k : ∀ x : Int32, -9999 ≤ (s_keptWithin x 9999).toInt ∧ (s_keptWithin x 9999).toInt ≤ 9999 := fun x => by
    have e : (9999 : Int32).toInt = 9999 := by decide
    have := clampB (x := x) (mo := 9999) (by rw [e]; omega)
    rw [e] at this
    exact ⟨this.1, this.2.1⟩
  unfold s_swingOut
  by_cases c : a2 ≤ 0
  · rw [if_pos c]
    dsimp only
    exact ⟨k _, k _⟩
  · rw [if_neg c]
    dsimp only
    exact ⟨k _, k _⟩
set_option maxHeartbeats 4000000 in
theorem pair_b {ret r0 r1 r2 r3 r4 pv l0 l1 l2 l3 l4 l5 l6 l7 l8 l9 l10 l11 q0 q1 q2 q3 q4 q5 q6 q7 q8 q9 q10 q11 m0 m1 m2 m4 m5 m6 m9 m11 n0 n1 n2 n4 n5 n6 n9 n11 : Int32} {mb nb : Bool}
    (hb : RuB r0 r1 r2 r3 r4 pv) (hlb : CrO r3 l1 l2 l3 l4 l5 l7) (hqb : CrO r3 q1 q2 q3 q4 q5 q7) (hx : XB r0 r1 l0 q0)
    (hc : s_pairGoOn pv l0 l1 l2 l3 l4 l5 l6 l7 l8 l9 l10 l11 q0 q1 q2 q3 q4 q5 q6 q7 q8 q9 q10 q11 r0 r1 r2 r3 r4 = (ret, m0, m1, m2, m4, m5, m6, m9, m11, mb, n0, n1, n2, n4, n5, n6, n9, n11, nb)) :
    CrO r3 m1 m2 l3 m4 m5 l7 ∧ CrO r3 n1 n2 q3 n4 n5 q7 ∧ XB r0 r1 m0 n0 ∧ (0 ≤ ret.toInt ∧ ret.toInt ≤ 2) := by
  obtain ⟨b0, b1, b2, b3, b4, b5⟩ := hb
  obtain ⟨lb1, lb2, lb3, lb7, lb4, lb5⟩ := hlb
  obtain ⟨qb1, qb2, qb3, qb7, qb4, qb5⟩ := hqb
  unfold s_pairGoOn at hc
  rw [roll_eq, roll_eq] at hc
  dsimp only at hc
  generalize (s_takeSteps l6 l8 l9 l10 l11) = ts at *
  generalize (s_takeSteps q6 q8 q9 q10 q11) = tt at *
  have st1 := speed_t (a6 := ts.1) b3 lb1 lb3 b2
  have st2 := speed_t (a6 := tt.1) b3 qb1 qb3 b2
  generalize s_speedNearerToWant l1 l3 ts.1 r2 r3 = v1 at *
  generalize s_speedNearerToWant q1 q3 tt.1 r2 r3 = v2 at *
  have mv := move_b b0 b1 b2 hx (v := v1) (w := v2) (by omega) (by omega)
  have hf := free_b b0 b1 hx
  have hs : (s_freeBetween l0 q0 r1 / 2).toInt = (q0.toInt - l0.toInt - r1.toInt) / 2 := hf.2
  have rv : 0 ≤ (if 0 ≤ v1 then s_freeBetween l0 q0 r1 / 2 else l0).toInt := by
    obtain ⟨g1, g2, g3⟩ := hx
    split <;> omega
  have he : (r0 - q0).toInt = r0.toInt - q0.toInt := by
    obtain ⟨g1, g2, g3⟩ := hx
    exact subI (by omega) (by omega)
  have rw' : 0 ≤ (if 0 ≤ v2 then r0 - q0 else s_freeBetween l0 q0 r1 / 2).toInt := by
    obtain ⟨g1, g2, g3⟩ := hx
    split <;> omega
  have bt1 := bkC_t (v := v1) (t := r3.toInt) (by omega) b2 rv st1
  have bt2 := bkC_t (v := v2) (t := r3.toInt) (by omega) b2 rw' st2
  obtain ⟨mx, -, -, -, -⟩ := mv
  generalize bkC v1 (if 0 ≤ v1 then s_freeBetween l0 q0 r1 / 2 else l0) r2 = x1 at *
  generalize bkC v2 (if 0 ≤ v2 then r0 - q0 else s_freeBetween l0 q0 r1 / 2) r2 = x2 at *
  obtain ⟨p1, eh1⟩ := bEx1 (s_hoistRope x1 l2 l7 r4 q2 pv)
  obtain ⟨p2, eh2⟩ := bEx1 (s_hoistRope x2 q2 q7 r4 p1 pv)
  have pb1 := hoR_b (a1 := x1) (sl := r4) (ot := q2) (lv := pv) lb2 lb7
  rw [eh1] at pb1
  have pb2 := hoR_b (a1 := x2) (sl := r4) (ot := p1) (lv := pv) qb2 qb7
  rw [eh2] at pb2
  rw [eh1] at hc
  dsimp only at hc
  rw [eh2] at hc
  dsimp only at hc
  have sw1 := swing_t l2 l4 l5 (x1 - l1)
  have sw2 := swing_t q2 q4 q5 (x2 - q1)
  generalize s_swingOut l2 l4 l5 (x1 - l1) = so1 at *
  generalize s_swingOut q2 q4 q5 (x2 - q1) = so2 at *
  generalize (if s_wayToStop v1 r2 ≤ (if 0 ≤ v1 then s_freeBetween l0 q0 r1 / 2 else l0) then false else true) = bb1 at *
  generalize (if s_wayToStop v2 r2 ≤ (if 0 ≤ v2 then r0 - q0 else s_freeBetween l0 q0 r1 / 2) then false else true) = bb2 at *
  cases bb1 <;> cases bb2 <;> simp only [Bool.false_eq_true, if_true, if_false, Prod.mk.injEq] at hc
  all_goals
    obtain ⟨u0, u1, u2, u3, u4, u5, u6, u7, u8, u9, u10, u11, u12, u13, u14, u15, u16, u17, u18⟩ := hc
    subst u0 u1 u2 u3 u4 u5 u6 u7 u8 u9 u10 u11 u12 u13 u14 u15 u16 u17 u18
    exact ⟨⟨bt1, pb1, lb3, lb7, sw1⟩, ⟨bt2, pb2, qb3, qb7, sw2⟩, mx, by decide⟩
/-- a story that is well -/
def OkN (r : Nat → Int32) (pv l0 l1 l2 l3 l4 l5 l7 q0 q1 q2 q3 q4 q5 q7 : Int32) : Prop := RuB (r 0) (r 1) (r 2) (r 3) (r 4) pv ∧ CrO (r 3) l1 l2 l3 l4 l5 l7 ∧ CrO (r 3) q1 q2 q3 q4 q5 q7 ∧ XB (r 0) (r 1) l0 q0
def OkP (sm : Int32) (sf sg : Nat → Int32) (tk : Int) : Prop := ∃ mm, SpI mm sm sf sg tk
def OkS (r : Nat → Int32) (n : Sto) : Prop := OkN r (n.1 1) (n.1 2) (n.1 3) (n.1 4) (n.1 5) (n.1 6) (n.1 7) (n.1 9) (n.1 14) (n.1 15) (n.1 16) (n.1 17) (n.1 18) (n.1 19) (n.1 21) ∧ (0 ≤ (n.1 0).toInt ∧ (n.1 0).toInt ≤ 9999) ∧ OkP (n.1 26) (n.2.2 0) (n.2.2 1) (n.1 0).toInt ∧ OkP (n.1 27) (n.2.2 2) (n.2.2 3) (n.1 0).toInt
theorem goOn_O {r : Nat → Int32} {ret pv l0 l1 l2 l3 l4 l5 l6 l7 l8 l9 l10 l11 q0 q1 q2 q3 q4 q5 q6 q7 q8 q9 q10 q11 m0 m1 m2 m4 m5 m6 m9 m11 n0 n1 n2 n4 n5 n6 n9 n11 sm zm sm2 zm2 : Int32} {mb nb : Bool} {sf sg zf zg sf2 sg2 zf2 zg2 : Nat → Int32} {tk : Int} (hN : OkN r pv l0 l1 l2 l3 l4 l5 l7 q0 q1 q2 q3 q4 q5 q7) (hS : OkP sm sf sg tk) (hZ : OkP zm zf zg tk) (ht : tk ≤ 100000)
    (hc : s_storyGoOn pv l0 l1 l2 l3 l4 l5 l6 l7 l8 l9 l10 l11 q0 q1 q2 q3 q4 q5 q6 q7 q8 q9 q10 q11 sm sf sg zm zf zg (r 0) (r 1) (r 2) (r 3) (r 4) = (ret, m0, m1, m2, m4, m5, m6, m9, m11, mb, n0, n1, n2, n4, n5, n6, n9, n11, nb, sm2, sf2, sg2, zm2, zf2, zg2)) :
    OkN r pv m0 m1 m2 l3 m4 m5 l7 n0 n1 n2 q3 n4 n5 q7 ∧ OkP sm2 sf2 sg2 (tk + 1) ∧ OkP zm2 zf2 zg2 (tk + 1) ∧ (0 ≤ ret.toInt ∧ ret.toInt ≤ 2) := by
  obtain ⟨hb, hlb, hqb, hx⟩ := hN
  unfold s_storyGoOn at hc
  obtain ⟨a0, a1, a2, a3, a4, a5, a6, a7, a8, a9, a10, a11, a12, a13, a14, a15, a16, a17, a18, ea⟩ := bEx19 (s_pairGoOn pv l0 l1 l2 l3 l4 l5 l6 l7 l8 l9 l10 l11 q0 q1 q2 q3 q4 q5 q6 q7 q8 q9 q10 q11 (r 0) (r 1) (r 2) (r 3) (r 4))
  rw [ea] at hc
  dsimp only at hc
  obtain ⟨b0, b1, b2, eb⟩ := bEx3 (s_addTick sm sf sg a1 a3)
  rw [eb] at hc
  dsimp only at hc
  obtain ⟨c0, c1, c2, ec⟩ := bEx3 (s_addTick zm zf zg a10 a12)
  rw [ec] at hc
  dsimp only at hc
  simp only [Prod.mk.injEq] at hc
  obtain ⟨u0, u1, u2, u3, u4, u5, u6, u7, u8, u9, u10, u11, u12, u13, u14, u15, u16, u17, u18, u19, u20, u21, u22, u23, u24⟩ := hc
  subst u0 u1 u2 u3 u4 u5 u6 u7 u8 u9 u10 u11 u12 u13 u14 u15 u16 u17 u18 u19 u20 u21 u22 u23 u24
  obtain ⟨t1, t2, t3, t4⟩ := pair_b hb hlb hqb hx ea
  obtain ⟨x1, x2, x3⟩ := t3
  obtain ⟨ms, hS⟩ := hS
  obtain ⟨mz, hZ⟩ := hZ
  obtain ⟨v0, v1, -⟩ := id hb
  exact ⟨⟨hb, t1, t2, x1, x2, x3⟩, SpI_add hS ⟨x1, by omega⟩ t1.2.1 ht eb, SpI_add hZ ⟨by omega, by omega⟩ t2.2.1 ht ec, t4⟩
set_option maxHeartbeats 4000000 in
theorem gtick_O {r : Nat → Int32} {tn nv nl3 nl7 nr3 nr7 : Int32} {o0 o1 o2 o3 o4 o5 o6 o7 o8 o9 o10 o11 o12 o14 o15 o16 o17 o18 o19 o20 o21 o22 o23 o25 o28 : Int32} {o13 o24 : Bool} {o26 o27 o29 o30 o31 o32 o33 o34 : Nat → Int32} {tN : Nat} (hK : tn = nI tN) (hT : tN ≤ 60) : ∀ (n j : Nat) (br u9 wk wl0 wl1 wl2 wl4 wl5 wl6 wl8 wl9 wl10 wl11 wr0 wr1 wr2 wr4 wr5 wr6 wr8 wr9 wr10 wr11 wsm wzm : Int32) (wlb wrb : Bool) (wsf wsg wzf wzg v0 v1 v2 v3 : Nat → Int32), 61 ≤ j + n → j ≤ tN → (0 ≤ wk.toInt ∧ wk.toInt + tN ≤ 9999 + j) → (0 ≤ br.toInt ∧ br.toInt ≤ 2 * j) →
    OkN r nv wl0 wl1 wl2 nl3 wl4 wl5 nl7 wr0 wr1 wr2 nr3 wr4 wr5 nr7 → OkP wsm wsf wsg wk.toInt → OkP wzm wzf wzg wk.toInt →
    g_tick nv nl3 nl7 nr3 nr7 (r 0) (r 1) (r 2) (r 3) (r 4) tn n j br u9 wk wl0 wl1 wl2 wl4 wl5 wl6 wl8 wl9 wl10 wl11 wlb wr0 wr1 wr2 wr4 wr5 wr6 wr8 wr9 wr10 wr11 wrb wsm wsf wsg wzm wzf wzg v0 v1 v2 v3 = (o0, o1, o2, o3, o4, o5, o6, o7, o8, o9, o10, o11, o12, o13, o14, o15, o16, o17, o18, o19, o20, o21, o22, o23, o24, o25, o26, o27, o28, o29, o30, o31, o32, o33, o34) →
    (0 ≤ o0.toInt ∧ o0.toInt ≤ 120) ∧ o1 = u9 ∧ (0 ≤ o2.toInt ∧ o2.toInt ≤ 9999) ∧ OkN r nv o3 o4 o5 nl3 o6 o7 nl7 o14 o15 o16 nr3 o17 o18 nr7 ∧ OkP o25 o26 o27 o2.toInt ∧ OkP o28 o29 o30 o2.toInt ∧ o31 = v0 ∧ o32 = v1 ∧ o33 = v2 ∧ o34 = v3 := by
  intro n
  induction n with
  | zero => intro j br u9 wk wl0 wl1 wl2 wl4 wl5 wl6 wl8 wl9 wl10 wl11 wr0 wr1 wr2 wr4 wr5 wr6 wr8 wr9 wr10 wr11 wsm wzm wlb wrb wsf wsg wzf wzg v0 v1 v2 v3 h1 h2; omega
  | succ n ih =>
    intro j br u9 wk wl0 wl1 wl2 wl4 wl5 wl6 wl8 wl9 wl10 wl11 wr0 wr1 wr2 wr4 wr5 wr6 wr8 wr9 wr10 wr11 wsm wzm wlb wrb wsf wsg wzf wzg v0 v1 v2 v3 h1 h2 hk hbr hP hS hZ hc
    rw [g_tick] at hc
    by_cases c1 : tn ≤ nI j
    · have c2 : tN ≤ j := Nat.le_of_not_lt fun q => nI_ge q (by omega) (by rw [hK] at c1; exact c1)
      rw [if_pos c1] at hc
      simp only [Prod.mk.injEq] at hc
      obtain ⟨u0, u1, u2, u3, u4, u5, u6, u7, u8, u9, u10, u11, u12, u13, u14, u15, u16, u17, u18, u19, u20, u21, u22, u23, u24, u25, u26, u27, u28, u29, u30, u31, u32, u33, u34⟩ := hc
      subst u0 u1 u2 u3 u4 u5 u6 u7 u8 u9 u10 u11 u12 u13 u14 u15 u16 u17 u18 u19 u20 u21 u22 u23 u24 u25 u26 u27 u28 u29 u30 u31 u32 u33 u34
      exact ⟨⟨hbr.1, by omega⟩, rfl, ⟨hk.1, by omega⟩, hP, hS, hZ, rfl, rfl, rfl, rfl⟩
    · rw [if_neg c1] at hc
      have c3 : j < tN := by
        rw [hK] at c1
        exact (bLtN (by omega) (by omega)).mp (bLtN2 c1)
      obtain ⟨a0, a1, a2, a3, a4, a5, a6, a7, a8, a9, a10, a11, a12, a13, a14, a15, a16, a17, a18, a19, a20, a21, a22, a23, a24, ea⟩ := bEx25 (s_storyGoOn nv wl0 wl1 wl2 nl3 wl4 wl5 wl6 nl7 wl8 wl9 wl10 wl11 wr0 wr1 wr2 nr3 wr4 wr5 wr6 nr7 wr8 wr9 wr10 wr11 wsm wsf wsg wzm wzf wzg (r 0) (r 1) (r 2) (r 3) (r 4))
      rw [ea] at hc
      dsimp only at hc
      obtain ⟨g1, g2, g3, g4⟩ := goOn_O hP hS hZ (by omega) ea
      have e1 : (1 : Int32).toInt = 1 := by decide
      have ek : (wk + 1).toInt = wk.toInt + 1 := by rw [addI (by omega) (by omega), e1]
      have eb : (br + a0).toInt = br.toInt + a0.toInt := addI (by omega) (by omega)
      rw [← ek] at g2 g3
      exact ih (j + 1) _ _ _ _ _ _ _ _ _ _ _ _ _ _ _ _ _ _ _ _ _ _ _ _ _ _ _ _ _ _ _ _ _ _ _ (by omega) (by omega) (by omega) (by omega) g1 g2 g3 hc
/-- two stories that show the same -/
def SE (a b : Sto) : Prop := (∀ i, i < 28 → a.1 i = b.1 i) ∧ (∀ m, a.1 26 = nI m → m ≤ 120 → ∀ k, k < m → a.2.2 0 k = b.2.2 0 k ∧ a.2.2 1 k = b.2.2 1 k) ∧ (∀ m, a.1 27 = nI m → m ≤ 120 → ∀ k, k < m → a.2.2 2 k = b.2.2 2 k ∧ a.2.2 3 k = b.2.2 3 k)
theorem gsc_R {bm : Int32} {bf bg o0 o1 : Nat → Int32} {mm : Nat} (hb : bm = nI mm) (hm : mm ≤ 120) : ∀ (n j : Nat) (fn ft : Nat → Int32), 121 ≤ j + n → j ≤ mm → (∀ k, k < j → fn k = bf k ∧ ft k = bg k) → g_spotsCopy bm bf bg n j fn ft = (o0, o1) → ∀ k, k < mm → o0 k = bf k ∧ o1 k = bg k := by
  intro n
  induction n with
  | zero => intro j fn ft h1 h2; omega
  | succ n ih =>
    intro j fn ft h1 h2 h3 h
    rw [g_spotsCopy] at h
    by_cases c1 : nI mm ≤ nI j
    · have c2 : mm ≤ j := Nat.le_of_not_lt fun q => nI_ge q (by omega) c1
      rw [if_pos (by rw [hb]; exact c1)] at h
      have e1 := (Prod.mk.inj h).1
      have e2 := (Prod.mk.inj h).2
      subst e1 e2
      exact fun k hk => h3 k (by omega)
    · have c2 := (bLtN (by omega) (by omega)).mp (bLtN2 c1)
      rw [if_neg (by rw [hb]; exact c1), if_neg (by rw [leI, nIt (by omega), show (120 : Int32).toInt = 120 from by decide]; omega), put_n (by omega), nameAt_n (by omega), ticksAt_old hb c2 hm] at h
      dsimp only at h
      refine ih (j + 1) _ _ (by omega) (by omega) ?_ h
      intro k hk
      by_cases q : k = j
      · subst q; rw [upd_eq, upd_eq]; exact ⟨rfl, rfl⟩
      · rw [upd_ne q, upd_ne q]; exact h3 k (by omega)
theorem OkP_of {sm : Int32} {sf sg tf tg : Nat → Int32} {tk : Int} (h : OkP sm sf sg tk) (he : ∀ m, sm = nI m → m ≤ 120 → ∀ k, k < m → sf k = tf k ∧ sg k = tg k) : OkP sm tf tg tk := by
  obtain ⟨mm, h1, h2, h3, h4, h5, h6⟩ := h
  have e := he mm h2 h1
  refine ⟨mm, h1, h2, fun k hk => ?_, fun j k hj hk => ?_, fun k hk => ?_, ?_⟩
  · rw [← (e k hk).1]; exact h3 k hk
  · rw [← (e k hk).1, ← (e j (by omega)).1]; exact h4 j k hj hk
  · rw [← (e k hk).2]; exact h5 k hk
  · rw [← h6]; exact (sumT_congr mm (fun k hk => (e k hk).2)).symm
theorem OkS_of {r : Nat → Int32} {a b : Sto} (h : OkS r a) (e : SE a b) : OkS r b := by
  obtain ⟨h1, h2, h3, h4⟩ := h
  obtain ⟨e1, e2, e3⟩ := e
  unfold OkS
  rw [← e1 0 (by omega), ← e1 1 (by omega), ← e1 2 (by omega), ← e1 3 (by omega), ← e1 4 (by omega), ← e1 5 (by omega), ← e1 6 (by omega), ← e1 7 (by omega), ← e1 9 (by omega), ← e1 14 (by omega), ← e1 15 (by omega), ← e1 16 (by omega), ← e1 17 (by omega), ← e1 18 (by omega), ← e1 19 (by omega), ← e1 21 (by omega), ← e1 26 (by omega), ← e1 27 (by omega)]
  exact ⟨h1, h2, OkP_of h3 e2, OkP_of h4 e3⟩
/-- a copy as keeping makes it -/
def cpS (n : Sto) (v0 v1 v2 v3 : Nat → Int32) : Sto := (mk28 (n.1 0) (n.1 1) (n.1 2) (n.1 3) (n.1 4) (n.1 5) (n.1 6) (n.1 7) (n.1 8) (n.1 9) (n.1 10) (n.1 11) (n.1 12) (n.1 13) (n.1 14) (n.1 15) (n.1 16) (n.1 17) (n.1 18) (n.1 19) (n.1 20) (n.1 21) (n.1 22) (n.1 23) (n.1 24) (n.1 25) (n.1 26) (n.1 27), mkB (n.2.1 0) (n.2.1 1), mk4 v0 v1 v2 v3)
theorem mk28_at {f : Nat → Int32} : ∀ i, i < 28 → mk28 (f 0) (f 1) (f 2) (f 3) (f 4) (f 5) (f 6) (f 7) (f 8) (f 9) (f 10) (f 11) (f 12) (f 13) (f 14) (f 15) (f 16) (f 17) (f 18) (f 19) (f 20) (f 21) (f 22) (f 23) (f 24) (f 25) (f 26) (f 27) i = f i := by
  intro i hi
  match i, hi with
  | 0, _ => rfl
  | 1, _ => rfl
  | 2, _ => rfl
  | 3, _ => rfl
  | 4, _ => rfl
  | 5, _ => rfl
  | 6, _ => rfl
  | 7, _ => rfl
  | 8, _ => rfl
  | 9, _ => rfl
  | 10, _ => rfl
  | 11, _ => rfl
  | 12, _ => rfl
  | 13, _ => rfl
  | 14, _ => rfl
  | 15, _ => rfl
  | 16, _ => rfl
  | 17, _ => rfl
  | 18, _ => rfl
  | 19, _ => rfl
  | 20, _ => rfl
  | 21, _ => rfl
  | 22, _ => rfl
  | 23, _ => rfl
  | 24, _ => rfl
  | 25, _ => rfl
  | 26, _ => rfl
  | 27, _ => rfl
  | k + 28, h => exact absurd h (by omega)
theorem SE_cp {r : Nat → Int32} {n : Sto} {f0 f1 f2 f3 v0 v1 v2 v3 : Nat → Int32} (hu : s_keepForUndo (n.1 26) (n.2.2 0) (n.2.2 1) (n.1 27) (n.2.2 2) (n.2.2 3) f0 f1 f2 f3 = (v0, v1, v2, v3)) : SE n (cpS n v0 v1 v2 v3) := by
  unfold s_keepForUndo s_storyCopy at hu
  obtain ⟨a0, a1, ea⟩ := bEx2 (s_spotsCopy f0 f1 (n.1 26) (n.2.2 0) (n.2.2 1))
  obtain ⟨b0, b1, eb⟩ := bEx2 (s_spotsCopy f2 f3 (n.1 27) (n.2.2 2) (n.2.2 3))
  rw [ea] at hu
  dsimp only at hu
  rw [eb] at hu
  dsimp only at hu
  simp only [Prod.mk.injEq] at hu
  obtain ⟨u0, u1, u2, u3⟩ := hu
  subst u0 u1 u2 u3
  refine ⟨fun i hi => (mk28_at i hi).symm, fun m hm h120 k hk => ?_, fun m hm h120 k hk => ?_⟩
  · have e := gsc_R hm h120 121 0 f0 f1 (by omega) (by omega) (fun k hk => by omega) ea k hk
    exact ⟨e.1.symm, e.2.symm⟩
  · have e := gsc_R hm h120 121 0 f2 f3 (by omega) (by omega) (fun k hk => by omega) eb k hk
    exact ⟨e.1.symm, e.2.symm⟩
