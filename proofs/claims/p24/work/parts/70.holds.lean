/-! what shows the same has the same digest -/
theorem cntV_c {r : Nat → Int32} {a b : Sto} (e : ∀ i, i < 28 → a.1 i = b.1 i) (ud xn k : Int32) : cntV r a ud xn k = cntV r b ud xn k := by
  unfold cntV
  rw [e 0 (by omega), e 1 (by omega), e 2 (by omega), e 14 (by omega)]
theorem crV_c {r : Nat → Int32} {a b : Sto} (e : ∀ i, i < 28 → a.1 i = b.1 i) (c : Nat) (k : Int32) : crV r a c k = crV r b c k := by
  cases c with
  | zero => show s_crane_0 _ _ _ _ _ _ _ _ _ _ _ _ _ = s_crane_0 _ _ _ _ _ _ _ _ _ _ _ _ _; rw [e 2 (by omega), e 3 (by omega), e 4 (by omega), e 5 (by omega), e 6 (by omega), e 7 (by omega), e 8 (by omega), e 9 (by omega), e 11 (by omega), e 13 (by omega)]
  | succ c => show s_crane_1 _ _ _ _ _ _ _ _ _ _ _ _ _ = s_crane_1 _ _ _ _ _ _ _ _ _ _ _ _ _; rw [e 14 (by omega), e 15 (by omega), e 16 (by omega), e 17 (by omega), e 18 (by omega), e 19 (by omega), e 20 (by omega), e 21 (by omega), e 23 (by omega), e 25 (by omega)]
theorem stV_c {a b : Sto} (e : ∀ i, i < 28 → a.1 i = b.1 i) (c : Nat) (k w : Int32) : stV a c k w = stV b c k w := by
  cases c with
  | zero => show s_stepOf_0 _ _ _ _ _ _ = s_stepOf_0 _ _ _ _ _ _; rw [e 10 (by omega), e 11 (by omega), e 12 (by omega), e 13 (by omega)]
  | succ c => show s_stepOf_1 _ _ _ _ _ _ = s_stepOf_1 _ _ _ _ _ _; rw [e 22 (by omega), e 23 (by omega), e 24 (by omega), e 25 (by omega)]
theorem ticksAt_c {am : Int32} {ag bg : Nat → Int32} {k : Nat} (hk : k < 120) (h : ag k = bg k) : s_ticksAt am ag (nI k) = s_ticksAt am bg (nI k) := by
  unfold s_ticksAt
  rw [nI_clamp (by omega), h]
theorem spot0_c {am : Int32} {af ag bf bg : Nat → Int32} {k : Nat} (w : Int32) (hk : k < 120) (h1 : af k = bf k) (h2 : ag k = bg k) : s_spot_0 am af ag (nI k) w = s_spot_0 am bf bg (nI k) w := by
  unfold s_spot_0 s_blockAt s_floorAt
  rw [nameAt_n hk, nameAt_n hk, h1, ticksAt_c hk h2]
theorem spot1_c {am : Int32} {af ag bf bg : Nat → Int32} {k : Nat} (w : Int32) (hk : k < 120) (h1 : af k = bf k) (h2 : ag k = bg k) : s_spot_1 am af ag (nI k) w = s_spot_1 am bf bg (nI k) w := by
  unfold s_spot_1 s_blockAt s_floorAt
  rw [nameAt_n hk, nameAt_n hk, h1, ticksAt_c hk h2]
theorem spV_c {a b : Sto} (h : SE a b) (hm : MmO a) (c : Nat) (hc : c < 2) (k : Nat) (hk : k < mmV a c) (w : Int32) : spV a c (nI k) w = spV b c (nI k) w := by
  obtain ⟨e, s1, s2⟩ := h
  obtain ⟨m1, m2⟩ := hm c hc
  rcases (show c = 0 ∨ c = 1 by omega) with rfl | rfl
  · have z := s1 _ m1 m2 k hk
    show s_spot_0 (a.1 26) _ _ _ _ = s_spot_0 (b.1 26) _ _ _ _
    rw [← e 26 (by omega)]
    exact spot0_c w (by omega) z.1 z.2
  · have z := s2 _ m1 m2 k hk
    show s_spot_1 (a.1 27) _ _ _ _ = s_spot_1 (b.1 27) _ _ _ _
    rw [← e 27 (by omega)]
    exact spot1_c w (by omega) z.1 z.2
theorem whA_c {r : Nat → Int32} {a b : Sto} (e : ∀ i, i < 28 → a.1 i = b.1 i) : ∀ k, whA r a k = whA r b k := by
  intro k
  induction k with
  | zero => rw [whA, whA]
  | succ k ih => rw [whA, whA, ih, cntV_c e]
theorem whB_c {r : Nat → Int32} {a b : Sto} (e : ∀ i, i < 28 → a.1 i = b.1 i) (c : Nat) (h : Int64) : ∀ k, whB r a c h k = whB r b c h k := by
  intro k
  induction k with
  | zero => rw [whB, whB]
  | succ k ih => rw [whB, whB, ih, crV_c e]
theorem whC_c {a b : Sto} (e : ∀ i, i < 28 → a.1 i = b.1 i) (c : Nat) (h : Int64) : ∀ k, whC a c h k = whC b c h k := by
  intro k
  induction k with
  | zero => rw [whC, whC]
  | succ k ih => rw [whC, whC, ih, stV_c e, stV_c e]
theorem whD_c {a b : Sto} (hs : SE a b) (hm : MmO a) (c : Nat) (hc : c < 2) (h : Int64) : ∀ k, k ≤ mmV a c → whD a c h k = whD b c h k := by
  intro k
  induction k with
  | zero => intro _; rw [whD, whD]
  | succ k ih => intro hk; rw [whD, whD, ih (by omega), spV_c hs hm c hc k (by omega), spV_c hs hm c hc k (by omega), spV_c hs hm c hc k (by omega)]
theorem mmV_c {a b : Sto} (e : ∀ i, i < 28 → a.1 i = b.1 i) (c : Nat) : mmV a c = mmV b c := by
  cases c with
  | zero => show (a.1 26).toInt.toNat = (b.1 26).toInt.toNat; rw [e 26 (by omega)]
  | succ c => show (a.1 27).toInt.toNat = (b.1 27).toInt.toNat; rw [e 27 (by omega)]
theorem whP_c {r : Nat → Int32} {a b : Sto} (hs : SE a b) (hm : MmO a) : ∀ c, c ≤ 2 → whP r a c = whP r b c := by
  intro c
  induction c with
  | zero => intro _; rw [whP, whP, whA_c hs.1]
  | succ c ih => intro hc; rw [whP, whP, ih (by omega), whB_c hs.1, whC_c hs.1, whD_c hs hm c (by omega) _ _ (Nat.le_refl _), mmV_c hs.1]
theorem wh_c {r : Nat → Int32} {a b : Sto} (hs : SE a b) (hm : MmO a) : wh r a = wh r b := whP_c hs hm 2 (Nat.le_refl 2)
/-! the law's `holds` -/
def tgV (n : Sto) (c : Nat) : Nat → Int32 := match c with
  | 0 => n.2.2 1
  | _ => n.2.2 3
def SumO (n : Sto) : Prop := ∀ c, c < 2 → (∀ k, k < mmV n c → 0 ≤ (tgV n c k).toInt) ∧ sumT (tgV n c) (mmV n c) = (n.1 0).toInt
theorem OkP_sum {sm : Int32} {sf sg : Nat → Int32} {tk : Int} (h : OkP sm sf sg tk) : (∀ k, k < sm.toInt.toNat → 0 ≤ (sg k).toInt) ∧ sumT sg sm.toInt.toNat = tk := by
  obtain ⟨mm, h1, h2, -, -, h5, h6⟩ := h
  have e : sm.toInt.toNat = mm := by rw [h2, nIt (by omega)]; omega
  rw [e]
  exact ⟨h5, h6⟩
theorem OkS_sum {r : Nat → Int32} {n : Sto} (h : OkS r n) : SumO n := by
  obtain ⟨-, -, h3, h4⟩ := h
  intro c hc
  rcases (show c = 0 ∨ c = 1 by omega) with rfl | rfl
  · exact OkP_sum h3
  · exact OkP_sum h4
theorem sumT_mono {ag : Nat → Int32} {k : Nat} : ∀ mm : Nat, k ≤ mm → (∀ i, i < mm → 0 ≤ (ag i).toInt) → sumT ag k ≤ sumT ag mm := by
  intro mm
  induction mm with
  | zero => intro h _; rw [show k = 0 by omega]; exact Int.le_refl _
  | succ mm ih =>
    intro h hn
    by_cases q : k = mm + 1
    · subst q; exact Int.le_refl _
    · have := ih (by omega) (fun i hi => hn i (by omega))
      have := hn mm (by omega)
      rw [sumT]; omega
theorem spV_2 {n : Sto} (hm : MmO n) (c : Nat) (hc : c < 2) (k : Nat) (hk : k < mmV n c) : spV n c (nI k) 2 = tgV n c k := by
  obtain ⟨m1, m2⟩ := hm c hc
  have e1 : ¬ (nI k < (-1 : Int32)) := by rw [ltI, nIt (by omega), show (-1 : Int32).toInt = -1 by decide]; omega
  have e2 : ¬ (nI k = (-1 : Int32)) := by rw [eqI, nIt (by omega), show (-1 : Int32).toInt = -1 by decide]; omega
  have e3 : nI k < nI (mmV n c) := by rw [ltI, nIt (by omega), nIt (by omega)]; omega
  rcases (show c = 0 ∨ c = 1 by omega) with rfl | rfl
  · have m1' : n.1 26 = nI (mmV n 0) := m1
    show s_spot_0 (n.1 26) (n.2.2 0) (n.2.2 1) (nI k) 2 = n.2.2 1 k
    unfold s_spot_0
    rw [if_pos (by decide), if_neg e1, if_pos (by decide), if_neg e2, m1', if_pos e3, if_neg (by decide), if_neg (by decide)]
    exact ticksAt_old rfl hk m2
  · have m1' : n.1 27 = nI (mmV n 1) := m1
    show s_spot_1 (n.1 27) (n.2.2 2) (n.2.2 3) (nI k) 2 = n.2.2 3 k
    unfold s_spot_1
    rw [if_pos (by decide), if_neg e1, if_pos (by decide), if_neg e2, m1', if_pos e3, if_neg (by decide), if_neg (by decide)]
    exact ticksAt_old rfl hk m2
theorem q_sp2 {l : Launch} {D : va_G} {cyC cyI : ClassId} {Q : Nat → Nat} {r : Nat → Int32} {S : Nat → Sto} {ud : Int32} {T : List Int32} {wa : va_W} (h : QW cyC cyI Q r S ud T wa) (hm : MmO (S 0)) (c : Nat) (hc : c < 2) (k : Nat) (hk : k < mmV (S 0) c) : KI l D cyC cyI yX7_spot wsX7_spot 2 42 [.ref (Q 0), .int (nI c), .int (nI k), .int 2] wa (tgV (S 0) c k) (QW cyC cyI Q r S ud T) := by
  rw [← spV_2 hm c hc k hk]
  exact q_sp h c hc (nI k) 2
theorem lim_ge {a3 r3 : Int32} (h : 1 ≤ r3 - a3 / 10) : s_limit a3 r3 = r3 - a3 / 10 := by
  unfold s_limit
  by_cases c : 1 < r3 - a3 / 10
  · rw [if_pos c]
  · rw [if_neg c]; rw [ltI] at c; rw [leI] at h; rw [eqI]; omega
theorem lim_lt {a3 r3 : Int32} (h : ¬ 1 ≤ r3 - a3 / 10) : s_limit a3 r3 = 1 := by
  unfold s_limit
  rw [if_neg (fun c => h (by rw [ltI] at c; rw [leI]; omega))]
theorem addZ (x : Int32) : x + 100000 - 100000 = x := Int32.add_sub_cancel x 100000
theorem szI_b {v : Int32} {m : Int} (h : -m ≤ v.toInt ∧ v.toInt ≤ m) (hm : m ≤ 100000) : (szI v).toInt ≤ m := by
  unfold szI
  by_cases c : 0 ≤ v
  · rw [if_pos c]; exact h.2
  · rw [if_neg c, negI (by omega)]; omega
theorem stopK {r2 v : Int32} (h : -40 ≤ v.toInt ∧ v.toInt ≤ 40) : s_stop r2 v = s_wayToStop v r2 := by
  unfold s_stop s_isSpeed
  rw [if_pos (isWithin_y (by rw [show (-40 : Int32).toInt = -40 by decide]; exact h.1) (by rw [show (40 : Int32).toInt = 40 by decide]; exact h.2))]
theorem halfK {v : Int32} (h : 10 ≤ v.toInt ∧ v.toInt ≤ 60) : s_half v = nI (s_halfSwing v) := by
  unfold s_half
  rw [if_pos (isRope_iff.mpr h)]
set_option maxHeartbeats 4000000 in
set_option maxRecDepth 100000 in
theorem lp_hS {p_ : Program} {e_ : Env} {s_ : State} {m_ : MethodId} {bl_ : List Frame} {me_ : Method} {cd_ : Code} {A_ : Nat → Prop} (l : Launch) (D : va_G) (cyC cyI : ClassId) (sb sL : Nat) (xs : Nat → Int32) {Q : Nat → Nat} {r : Nat → Int32} {S : Nat → Sto} {ud : Int32} {T : List Int32} {wc : va_W} (hm : MmO (S 0)) (hs : SumO (S 0)) (htk : 0 ≤ ((S 0).1 0).toInt ∧ ((S 0).1 0).toInt ≤ 9999) (c : Nat) (hc2 : c < 2) (fr vv lm : Int32) (X : qX p_ s_ m_ ([.ref (Q 0)] : List Value).toArray cd_ cL_holds 7 wsL_holds yL_holds.cls D cyC cyI sb sL xs A_) (hr : me_.sig.returnType = (some .boolean)) (hlk : me_.locks = false) (kk : ∀ (wa : va_W) (H : Heap) (locs : List Loc) (ls : Array Slot), QW cyC cyI Q r S ud T wa → wPerm wc wa → lv_has ls 7 [(0, .ref (Q 0)), (1, .int fr), (2, .int (nI c)), (3, .int vv), (4, .int lm), (5, .int ((S 0).1 0))] → bY D A_ s_.heap ([] ++ wa) H locs → W p_ l e_ ({ frames := 3, cells := 0, slots := 0, locals := 66 } : Room) s_ m_ ([.ref (Q 0)] : List Value).toArray bl_ me_ cd_ H locs 0 0 (qQI bl_ ([.ref (Q 0)] : List Value).toArray s_ D wc (fun rv w1 => rv = 1 ∧ QW cyC cyI Q r S ud T w1) 0 0 A_) (F0 m_ 261 ls [])) : ∀ (n k : Nat) (su : Int32), su.toInt = sumT (tgV (S 0) c) k → 121 ≤ k + n → k ≤ mmV (S 0) c → ∀ (wa : va_W) (H : Heap) (locs : List Loc) (ls : Array Slot), QW cyC cyI Q r S ud T wa → wPerm wc wa → lv_has ls 7 [(0, .ref (Q 0)), (1, .int fr), (2, .int (nI c)), (3, .int vv), (4, .int lm), (5, .int su), (6, .int (nI k))] → bY D A_ s_.heap ([] ++ wa) H locs → W p_ l e_ ({ frames := 3, cells := 0, slots := 0, locals := 66 } : Room) s_ m_ ([.ref (Q 0)] : List Value).toArray bl_ me_ cd_ H locs 0 0 (qQI bl_ ([.ref (Q 0)] : List Value).toArray s_ D wc (fun rv w1 => rv = 1 ∧ QW cyC cyI Q r S ud T w1) 0 0 A_) (F0 m_ 230 ls []) := by
  have hx := X.1.1.1
  have hb := X.1.1.2.1
  have h120 := (hm c hc2).2
  intro n
  induction n with
  | zero => intro k su hsu h1 h2; omega
  | succ n ih =>
    intro k su hsu h1 h2 wa H locs ls hI hW hl Y
    refine lv_iload hx hb dL_holds_230 (lv_at hl 6 rfl) ?_
    refine lv_aload_n hx hb dL_holds_232 rfl (lv_at hl 0 rfl) ?_
    refine lv_iload_n hx hb dL_holds_233 rfl (lv_at hl 2 rfl) ?_
    refine lv_iconst (v := (-1)) hx hb dL_holds_234 (by decide) ?_
    refine lv_iconst (v := 0) hx hb dL_holds_235 (by decide) ?_
    refine qVI (al := []) (As := [.int (nI c), .int (-1), .int 0]) (rest := [.int (nI k)]) X Y (q_spm hI hm c hc2) gL_holds_X7_spot rfl hdq_X7_spot ⟨Nat.le_of_ble_eq_true rfl, Nat.le_of_ble_eq_true rfl⟩ hI.head rfl rfl hl.1 (Nat.le_of_ble_eq_true rfl) ⟨Nat.le_of_ble_eq_true rfl, Nat.le_of_ble_eq_true rfl⟩ dL_holds_236 (fun wa_1 H locs hI_1 hw_1 Y => ?_)
    have hW_1 := hW.trans hw_1
    refine lv_icmp_ge (tgt := 261) hx hb dL_holds_239 (by decide) (fun c_2 => ?_) (fun c_2 => ?_)
    · have c_2 : (nI (mmV (S 0) c)) ≤ (nI k) := c_2
      have hkz : mmV (S 0) c ≤ k := Nat.le_of_not_lt (fun q => nI_ge q (by omega) c_2)
      have hke : k = mmV (S 0) c := by omega
      subst hke
      have hse : su = (S 0).1 0 := by rw [eqI, hsu]; exact (hs c hc2).2
      subst hse
      exact kk _ _ _ _ hI_1 hW_1 (lv_sub hl [0, 1, 2, 3, 4, 5] rfl) Y
    · have c_2 : ¬ ((nI (mmV (S 0) c)) ≤ (nI k)) := c_2
      have hkb : k < mmV (S 0) c := (bLtN (by omega) (by omega)).mp (bLtN2 c_2)
      refine lv_iload hx hb dL_holds_242 (lv_at hl 5 rfl) ?_
      refine lv_aload_n hx hb dL_holds_244 rfl (lv_at hl 0 rfl) ?_
      refine lv_iload_n hx hb dL_holds_245 rfl (lv_at hl 2 rfl) ?_
      refine lv_iload hx hb dL_holds_246 (lv_at hl 6 rfl) ?_
      refine lv_iconst (v := 2) hx hb dL_holds_248 (by decide) ?_
      refine qVI (al := []) (As := [.int (nI c), .int (nI k), .int 2]) (rest := [.int su]) X Y (q_sp2 hI_1 hm c hc2 k hkb) gL_holds_X7_spot rfl hdq_X7_spot ⟨Nat.le_of_ble_eq_true rfl, Nat.le_of_ble_eq_true rfl⟩ hI_1.head rfl rfl hl.1 (Nat.le_of_ble_eq_true rfl) ⟨Nat.le_of_ble_eq_true rfl, Nat.le_of_ble_eq_true rfl⟩ dL_holds_249 (fun wa_3 H locs hI_3 hw_3 Y => ?_)
      have hW_3 := hW_1.trans hw_3
      refine bAdd (v := su + (tgV (S 0) c k)) X.1 dL_holds_252 rfl ?_
      refine lv_istore (lv' := [(5, .int (su + (tgV (S 0) c k))), (0, .ref (Q 0)), (1, .int fr), (2, .int (nI c)), (3, .int vv), (4, .int lm), (6, .int (nI k))]) hx hb dL_holds_253 hl (by decide) rfl (fun ls hl => ?_)
      refine lv_iinc (v := nI (k + 1)) (lv' := [(6, .int (nI (k + 1))), (5, .int (su + (tgV (S 0) c k))), (0, .ref (Q 0)), (1, .int fr), (2, .int (nI c)), (3, .int vv), (4, .int lm)]) hx hb dL_holds_255 hl (k := 6) rfl (nI_inc _) (by decide) rfl (fun ls hl => ?_)
      refine lv_goto (tgt := 230) hx hb dL_holds_258 (by decide) ?_
      have hsk := sumT_mono (ag := tgV (S 0) c) (k := k) (mmV (S 0) c) (by omega) (hs c hc2).1
      have hsk1 := sumT_mono (ag := tgV (S 0) c) (k := k + 1) (mmV (S 0) c) (by omega) (hs c hc2).1
      have hs0 := (sumT_le (ag := tgV (S 0) c) k (fun i hi => (hs c hc2).1 i (by omega))).1
      have hsn := (hs c hc2).1 k hkb
      have hst := (hs c hc2).2
      rw [sumT] at hsk1
      have hsu2 : (su + tgV (S 0) c k).toInt = sumT (tgV (S 0) c) (k + 1) := by rw [addI (by omega) (by omega), hsu, sumT]
      exact ih (k + 1) (su + tgV (S 0) c k) hsu2 (by omega) (by omega) _ _ _ _ hI_3 hW_3 (lv_sub hl [2, 3, 4, 5, 6, 1, 0] rfl) Y
theorem k_L_holds_56 : Cond.constant RL 56 (100000) ∈ wsL_holds := by decide +kernel
theorem hdq_L_size : bD1 yL_size RL 1 := by decide +kernel
theorem hdq_X7_stop : bD1 yX7_stop RX7 1 := by decide +kernel
theorem hdq_X7_half : bD1 yX7_half RX7 1 := by decide +kernel
set_option maxHeartbeats 4000000 in
set_option maxRecDepth 100000 in
theorem c_holds (l : Launch) (D : va_G) (cyC cyI : ClassId) (sb sL : Nat) (xs : Nat → Int32) {Q : Nat → Nat} {r : Nat → Int32} {S : Nat → Sto} {ud : Int32} {T : List Int32} {wa : va_W} (hI : QW cyC cyI Q r S ud T wa) (hok : OkS r (S 0)) : QI l yL_holds wsL_holds { frames := 3, cells := 0, slots := 0, locals := 66 } D cyC cyI sb sL xs [.ref (Q 0)] wa 0 0 (fun rv w1 => rv = 1 ∧ QW cyC cyI Q r S ud T w1) := by
  refine QI.of (cc := cL_holds) (n := 7) (ret := (some .boolean)) (by decide +kernel) rfl (Nat.le_of_ble_eq_true rfl) ?_
  intro p_ e_ s_ m_ bl_ me_ cd_ A_ ls X Y hr hlk hl
  have hx := X.1.1.1
  have hb := X.1.1.2.1
  have hl : lv_has ls 7 [(0, .ref (Q 0))] := hl
  have Y : bY D A_ s_.heap ([] ++ wa) s_.heap [] := Y
  have hW := Y.wpR
  obtain ⟨⟨⟨b0, b1, b2, b3, b4, b5⟩, ⟨l1, l2, l3, l7, l4, l5⟩, ⟨q1, q2, q3, q7, q4, q5⟩, x1, x2, x3⟩, htk, -, -⟩ := id hok
  have hm := OkS_mm hok
  have hs := OkS_sum hok
  have hfr : (((S 0).1 14 - (S 0).1 2) - r 1).toInt = ((S 0).1 14).toInt - ((S 0).1 2).toInt - (r 1).toInt := (free_b b0 b1 ⟨x1, x2, x3⟩).1
  refine lv_aload_n hx hb dL_holds_0 rfl (lv_at hl 0 rfl) ?_
  refine lv_iconst (v := 1) hx hb dL_holds_1 (by decide) ?_
  refine lv_iconst (v := 0) hx hb dL_holds_2 (by decide) ?_
  refine qVI (al := []) (As := [.int 1, .int 0]) (rest := []) X Y (k_crane_1 hI 0 ((S 0).1 14) rfl) gL_holds_X7_crane rfl hdq_X7_crane ⟨Nat.le_of_ble_eq_true rfl, Nat.le_of_ble_eq_true rfl⟩ hI.head rfl rfl hl.1 (Nat.le_of_ble_eq_true rfl) ⟨Nat.le_of_ble_eq_true rfl, Nat.le_of_ble_eq_true rfl⟩ dL_holds_3 (fun wa_1 H locs hI_1 hw_1 Y => ?_)
  have hW_1 := hW.trans hw_1
  refine lv_aload_n hx hb dL_holds_6 rfl (lv_at hl 0 rfl) ?_
  refine lv_iconst (v := 0) hx hb dL_holds_7 (by decide) ?_
  refine lv_iconst (v := 0) hx hb dL_holds_8 (by decide) ?_
  refine qVI (al := []) (As := [.int 0, .int 0]) (rest := [.int ((S 0).1 14)]) X Y (k_crane_0 hI_1 0 ((S 0).1 2) rfl) gL_holds_X7_crane rfl hdq_X7_crane ⟨Nat.le_of_ble_eq_true rfl, Nat.le_of_ble_eq_true rfl⟩ hI_1.head rfl rfl hl.1 (Nat.le_of_ble_eq_true rfl) ⟨Nat.le_of_ble_eq_true rfl, Nat.le_of_ble_eq_true rfl⟩ dL_holds_9 (fun wa_2 H locs hI_2 hw_2 Y => ?_)
  have hW_2 := hW_1.trans hw_2
  refine bSub (v := ((S 0).1 14) - ((S 0).1 2)) X.1 dL_holds_12 rfl ?_
  refine lv_aload_n hx hb dL_holds_13 rfl (lv_at hl 0 rfl) ?_
  refine lv_iconst (v := 1) hx hb dL_holds_14 (by decide) ?_
  refine qVI (al := []) (As := [.int 1]) (rest := [.int (((S 0).1 14) - ((S 0).1 2))]) X Y (k_count hI_2 1 (r 1) rfl) gL_holds_X7_count rfl hdq_X7_count ⟨Nat.le_of_ble_eq_true rfl, Nat.le_of_ble_eq_true rfl⟩ hI_2.head rfl rfl hl.1 (Nat.le_of_ble_eq_true rfl) ⟨Nat.le_of_ble_eq_true rfl, Nat.le_of_ble_eq_true rfl⟩ dL_holds_15 (fun wa_3 H locs hI_3 hw_3 Y => ?_)
  have hW_3 := hW_2.trans hw_3
  refine bSub (v := (((S 0).1 14) - ((S 0).1 2)) - (r 1)) X.1 dL_holds_18 rfl ?_
  refine lv_istore_n (lv' := [(1, .int ((((S 0).1 14) - ((S 0).1 2)) - (r 1))), (0, .ref (Q 0))]) hx hb dL_holds_19 rfl hl (by decide) rfl (fun ls hl => ?_)
  refine lv_aload_n hx hb dL_holds_20 rfl (lv_at hl 1 rfl) ?_
  refine lv_iconst (v := 0) hx hb dL_holds_21 (by decide) ?_
  refine lv_iconst (v := 0) hx hb dL_holds_22 (by decide) ?_
  refine qVI (al := []) (As := [.int 0, .int 0]) (rest := []) X Y (k_crane_0 hI_3 0 ((S 0).1 2) rfl) gL_holds_X7_crane rfl hdq_X7_crane ⟨Nat.le_of_ble_eq_true rfl, Nat.le_of_ble_eq_true rfl⟩ hI_3.head rfl rfl hl.1 (Nat.le_of_ble_eq_true rfl) ⟨Nat.le_of_ble_eq_true rfl, Nat.le_of_ble_eq_true rfl⟩ dL_holds_23 (fun wa_4 H locs hI_4 hw_4 Y => ?_)
  have hW_4 := hW_3.trans hw_4
  refine lv_if_lt (tgt := 57) hx hb dL_holds_26 (by decide) (fun c_5 => ?_) (fun c_5 => ?_)
  · exact absurd (show ((S 0).1 2) < 0 from c_5) (by rw [ltI, zI]; omega)
  · have c_5 : ¬ (((S 0).1 2) < 0) := c_5
    refine lv_aload_n hx hb dL_holds_29 rfl (lv_at hl 1 rfl) ?_
    refine lv_iconst (v := 1) hx hb dL_holds_30 (by decide) ?_
    refine lv_iconst (v := 0) hx hb dL_holds_31 (by decide) ?_
    refine qVI (al := []) (As := [.int 1, .int 0]) (rest := []) X Y (k_crane_1 hI_4 0 ((S 0).1 14) rfl) gL_holds_X7_crane rfl hdq_X7_crane ⟨Nat.le_of_ble_eq_true rfl, Nat.le_of_ble_eq_true rfl⟩ hI_4.head rfl rfl hl.1 (Nat.le_of_ble_eq_true rfl) ⟨Nat.le_of_ble_eq_true rfl, Nat.le_of_ble_eq_true rfl⟩ dL_holds_32 (fun wa_6 H locs hI_6 hw_6 Y => ?_)
    have hW_6 := hW_4.trans hw_6
    refine lv_aload_n hx hb dL_holds_35 rfl (lv_at hl 1 rfl) ?_
    refine lv_iconst (v := 0) hx hb dL_holds_36 (by decide) ?_
    refine qVI (al := []) (As := [.int 0]) (rest := [.int ((S 0).1 14)]) X Y (k_count hI_6 0 (r 0) rfl) gL_holds_X7_count rfl hdq_X7_count ⟨Nat.le_of_ble_eq_true rfl, Nat.le_of_ble_eq_true rfl⟩ hI_6.head rfl rfl hl.1 (Nat.le_of_ble_eq_true rfl) ⟨Nat.le_of_ble_eq_true rfl, Nat.le_of_ble_eq_true rfl⟩ dL_holds_37 (fun wa_7 H locs hI_7 hw_7 Y => ?_)
    have hW_7 := hW_6.trans hw_7
    refine lv_icmp_gt (tgt := 57) hx hb dL_holds_40 (by decide) (fun c_8 => ?_) (fun c_8 => ?_)
    · exact absurd (show (r 0) < ((S 0).1 14) from c_8) (by rw [ltI]; omega)
    · have c_8 : ¬ ((r 0) < ((S 0).1 14)) := c_8
      refine lv_iload_n hx hb dL_holds_43 rfl (lv_at hl 0 rfl) ?_
      refine lv_if_lt (tgt := 57) hx hb dL_holds_44 (by decide) (fun c_9 => ?_) (fun c_9 => ?_)
      · exact absurd (show ((((S 0).1 14) - ((S 0).1 2)) - (r 1)) < 0 from c_9) (by rw [ltI, zI]; omega)
      · have c_9 : ¬ (((((S 0).1 14) - ((S 0).1 2)) - (r 1)) < 0) := c_9
        refine lv_aload_n hx hb dL_holds_47 rfl (lv_at hl 1 rfl) ?_
        refine lv_bipush (v := 9) hx hb dL_holds_48 (by decide) ?_
        refine qVI (al := []) (As := [.int 9]) (rest := []) X Y (k_count hI_7 9 (((S 0).1 14 - (S 0).1 2) - r 1) rfl) gL_holds_X7_count rfl hdq_X7_count ⟨Nat.le_of_ble_eq_true rfl, Nat.le_of_ble_eq_true rfl⟩ hI_7.head rfl rfl hl.1 (Nat.le_of_ble_eq_true rfl) ⟨Nat.le_of_ble_eq_true rfl, Nat.le_of_ble_eq_true rfl⟩ dL_holds_50 (fun wa_10 H locs hI_10 hw_10 Y => ?_)
        have hW_10 := hW_7.trans hw_10
        refine lv_iload_n hx hb dL_holds_53 rfl (lv_at hl 0 rfl) ?_
        refine lv_icmp_eq (tgt := 59) hx hb dL_holds_54 (by decide) (fun c_11 => ?_) (fun c_11 => ?_)
        · have c_11 : (((S 0).1 14 - (S 0).1 2) - r 1) = ((((S 0).1 14) - ((S 0).1 2)) - (r 1)) := c_11
          refine lv_iconst (v := 0) hx hb dL_holds_59 (by decide) ?_
          refine lv_istore_n (lv' := [(2, .int 0), (1, .int ((((S 0).1 14) - ((S 0).1 2)) - (r 1))), (0, .ref (Q 0))]) hx hb dL_holds_60 rfl hl (by decide) rfl (fun ls hl => ?_)
          refine lv_iload_n hx hb dL_holds_61 rfl (lv_at hl 0 rfl) ?_
          refine lv_iconst (v := 2) hx hb dL_holds_62 (by decide) ?_
          refine lv_icmp_ge (tgt := 280) hx hb dL_holds_63 (by decide) (fun c_ => absurd c_ (by decide)) (fun _ => ?_)
          refine lv_aload_n hx hb dL_holds_66 rfl (lv_at hl 2 rfl) ?_
          refine lv_iload_n hx hb dL_holds_67 rfl (lv_at hl 0 rfl) ?_
          refine lv_iconst (v := 1) hx hb dL_holds_68 (by decide) ?_
          refine qVI (al := []) (As := [.int 0, .int 1]) (rest := []) X Y (k_crane_0 hI_10 1 ((S 0).1 3 + 100000) rfl) gL_holds_X7_crane rfl hdq_X7_crane ⟨Nat.le_of_ble_eq_true rfl, Nat.le_of_ble_eq_true rfl⟩ hI_10.head rfl rfl hl.1 (Nat.le_of_ble_eq_true rfl) ⟨Nat.le_of_ble_eq_true rfl, Nat.le_of_ble_eq_true rfl⟩ dL_holds_69 (fun wa_12 H locs hI_12 hw_12 Y => ?_)
          have hW_12 := hW_10.trans hw_12
          refine lv_ldc (v := 100000) hx hb X.1.1.2.2.2.1 (X.1.1.2.2.2.2 _ k_L_holds_56) dL_holds_72 ?_
          refine bSub (v := (S 0).1 3) X.1 dL_holds_74 (addZ _) ?_
          refine lv_istore_n (lv' := [(3, .int ((S 0).1 3)), (2, .int 0), (1, .int ((((S 0).1 14) - ((S 0).1 2)) - (r 1))), (0, .ref (Q 0))]) hx hb dL_holds_75 rfl hl (by decide) rfl (fun ls hl => ?_)
          refine lv_aload_n hx hb dL_holds_76 rfl (lv_at hl 3 rfl) ?_
          refine lv_iconst (v := 3) hx hb dL_holds_77 (by decide) ?_
          refine qVI (al := []) (As := [.int 3]) (rest := []) X Y (k_count hI_12 3 (r 3) rfl) gL_holds_X7_count rfl hdq_X7_count ⟨Nat.le_of_ble_eq_true rfl, Nat.le_of_ble_eq_true rfl⟩ hI_12.head rfl rfl hl.1 (Nat.le_of_ble_eq_true rfl) ⟨Nat.le_of_ble_eq_true rfl, Nat.le_of_ble_eq_true rfl⟩ dL_holds_78 (fun wa_13 H locs hI_13 hw_13 Y => ?_)
          have hW_13 := hW_12.trans hw_13
          refine lv_aload_n hx hb dL_holds_81 rfl (lv_at hl 3 rfl) ?_
          refine lv_iload_n hx hb dL_holds_82 rfl (lv_at hl 1 rfl) ?_
          refine lv_iconst (v := 3) hx hb dL_holds_83 (by decide) ?_
          refine qVI (al := []) (As := [.int 0, .int 3]) (rest := [.int (r 3)]) X Y (k_crane_0 hI_13 3 ((S 0).1 5) rfl) gL_holds_X7_crane rfl hdq_X7_crane ⟨Nat.le_of_ble_eq_true rfl, Nat.le_of_ble_eq_true rfl⟩ hI_13.head rfl rfl hl.1 (Nat.le_of_ble_eq_true rfl) ⟨Nat.le_of_ble_eq_true rfl, Nat.le_of_ble_eq_true rfl⟩ dL_holds_84 (fun wa_14 H locs hI_14 hw_14 Y => ?_)
          have hW_14 := hW_13.trans hw_14
          refine lv_bipush (v := 10) hx hb dL_holds_87 (by decide) ?_
          refine bDiv (v := ((S 0).1 5) / 10) X.1 dL_holds_89 (by decide) rfl ?_
          refine bSub (v := (r 3) - (((S 0).1 5) / 10)) X.1 dL_holds_90 rfl ?_
          refine lv_istore (lv' := [(4, .int ((r 3) - (((S 0).1 5) / 10))), (3, .int ((S 0).1 3)), (2, .int 0), (1, .int ((((S 0).1 14) - ((S 0).1 2)) - (r 1))), (0, .ref (Q 0))]) hx hb dL_holds_91 hl (by decide) rfl (fun ls hl => ?_)
          refine lv_iload_n hx hb dL_holds_93 rfl (lv_at hl 1 rfl) ?_
          refine bSI (As := [.int ((S 0).1 3)]) (rest := []) X.1 Y (c_size l D cyC cyI ((S 0).1 3)) gL_holds_L_size rfl ⟨rfl, rfl⟩ hdq_L_size.2 ⟨Nat.le_of_ble_eq_true rfl, Nat.le_of_ble_eq_true rfl⟩ rfl rfl hl.1 (Nat.le_of_ble_eq_true rfl) ⟨Nat.le_of_ble_eq_true rfl, Nat.le_of_ble_eq_true rfl⟩ dL_holds_94 (fun H locs Y => ?_)
          refine lv_aload_n hx hb dL_holds_97 rfl (lv_at hl 4 rfl) ?_
          refine lv_iconst (v := 3) hx hb dL_holds_98 (by decide) ?_
          refine qVI (al := []) (As := [.int 3]) (rest := [.int (szI ((S 0).1 3))]) X Y (k_count hI_14 3 (r 3) rfl) gL_holds_X7_count rfl hdq_X7_count ⟨Nat.le_of_ble_eq_true rfl, Nat.le_of_ble_eq_true rfl⟩ hI_14.head rfl rfl hl.1 (Nat.le_of_ble_eq_true rfl) ⟨Nat.le_of_ble_eq_true rfl, Nat.le_of_ble_eq_true rfl⟩ dL_holds_99 (fun wa_16 H locs hI_16 hw_16 Y => ?_)
          have hW_16 := hW_14.trans hw_16
          refine lv_icmp_gt (tgt := 184) hx hb dL_holds_102 (by decide) (fun c_17 => ?_) (fun c_17 => ?_)
          · exact absurd (show (r 3) < (szI ((S 0).1 3)) from c_17) (by rw [ltI]; have := szI_b (m := (r 3).toInt) l1 (by omega); omega)
          · have c_17 : ¬ ((r 3) < (szI ((S 0).1 3))) := c_17
            refine lv_aload_n hx hb dL_holds_105 rfl (lv_at hl 4 rfl) ?_
            refine lv_iload_n hx hb dL_holds_106 rfl (lv_at hl 2 rfl) ?_
            refine lv_iconst (v := 2) hx hb dL_holds_107 (by decide) ?_
            refine qVI (al := []) (As := [.int 0, .int 2]) (rest := []) X Y (k_crane_0 hI_16 2 ((S 0).1 4) rfl) gL_holds_X7_crane rfl hdq_X7_crane ⟨Nat.le_of_ble_eq_true rfl, Nat.le_of_ble_eq_true rfl⟩ hI_16.head rfl rfl hl.1 (Nat.le_of_ble_eq_true rfl) ⟨Nat.le_of_ble_eq_true rfl, Nat.le_of_ble_eq_true rfl⟩ dL_holds_108 (fun wa_18 H locs hI_18 hw_18 Y => ?_)
            have hW_18 := hW_16.trans hw_18
            refine lv_bipush (v := 10) hx hb dL_holds_111 (by decide) ?_
            refine lv_icmp_lt (tgt := 184) hx hb dL_holds_113 (by decide) (fun c_19 => ?_) (fun c_19 => ?_)
            · exact absurd (show ((S 0).1 4) < 10 from c_19) (by rw [ltI, show (10 : Int32).toInt = 10 by decide]; omega)
            · have c_19 : ¬ (((S 0).1 4) < 10) := c_19
              refine lv_aload_n hx hb dL_holds_116 rfl (lv_at hl 4 rfl) ?_
              refine lv_iload_n hx hb dL_holds_117 rfl (lv_at hl 2 rfl) ?_
              refine lv_iconst (v := 2) hx hb dL_holds_118 (by decide) ?_
              refine qVI (al := []) (As := [.int 0, .int 2]) (rest := []) X Y (k_crane_0 hI_18 2 ((S 0).1 4) rfl) gL_holds_X7_crane rfl hdq_X7_crane ⟨Nat.le_of_ble_eq_true rfl, Nat.le_of_ble_eq_true rfl⟩ hI_18.head rfl rfl hl.1 (Nat.le_of_ble_eq_true rfl) ⟨Nat.le_of_ble_eq_true rfl, Nat.le_of_ble_eq_true rfl⟩ dL_holds_119 (fun wa_20 H locs hI_20 hw_20 Y => ?_)
              have hW_20 := hW_18.trans hw_20
              refine lv_bipush (v := 60) hx hb dL_holds_122 (by decide) ?_
              refine lv_icmp_gt (tgt := 184) hx hb dL_holds_124 (by decide) (fun c_21 => ?_) (fun c_21 => ?_)
              · exact absurd (show 60 < ((S 0).1 4) from c_21) (by rw [ltI, show (60 : Int32).toInt = 60 by decide]; omega)
              · have c_21 : ¬ (60 < ((S 0).1 4)) := c_21
                refine lv_aload_n hx hb dL_holds_127 rfl (lv_at hl 4 rfl) ?_
                refine lv_iload_n hx hb dL_holds_128 rfl (lv_at hl 2 rfl) ?_
                refine lv_bipush (v := 8) hx hb dL_holds_129 (by decide) ?_
                refine qVI (al := []) (As := [.int 0, .int 8]) (rest := []) X Y (k_crane_0 hI_20 8 (s_limit ((S 0).1 5) (r 3)) rfl) gL_holds_X7_crane rfl hdq_X7_crane ⟨Nat.le_of_ble_eq_true rfl, Nat.le_of_ble_eq_true rfl⟩ hI_20.head rfl rfl hl.1 (Nat.le_of_ble_eq_true rfl) ⟨Nat.le_of_ble_eq_true rfl, Nat.le_of_ble_eq_true rfl⟩ dL_holds_131 (fun wa_22 H locs hI_22 hw_22 Y => ?_)
                have hW_22 := hW_20.trans hw_22
                refine lv_iload hx hb dL_holds_134 (lv_at hl 0 rfl) ?_
                refine lv_iconst (v := 1) hx hb dL_holds_136 (by decide) ?_
                refine lv_icmp_ge (tgt := 144) hx hb dL_holds_137 (by decide) (fun c_23 => ?_) (fun c_23 => ?_)
                · have c_23 : 1 ≤ ((r 3) - (((S 0).1 5) / 10)) := c_23
                  refine lv_iload hx hb dL_holds_144 (lv_at hl 0 rfl) ?_
                  refine lv_icmp_ne (tgt := 184) hx hb dL_holds_146 (by decide) (fun c_24 => ?_) (fun c_24 => ?_)
                  · exact absurd (lim_ge c_23) (show ¬ ((s_limit ((S 0).1 5) (r 3)) = ((r 3) - (((S 0).1 5) / 10))) from c_24)
                  · have c_24 : (s_limit ((S 0).1 5) (r 3)) = ((r 3) - (((S 0).1 5) / 10)) := c_24
                    refine lv_aload_n hx hb dL_holds_149 rfl (lv_at hl 4 rfl) ?_
                    refine lv_iload_n hx hb dL_holds_150 rfl (lv_at hl 2 rfl) ?_
                    refine lv_bipush (v := 10) hx hb dL_holds_151 (by decide) ?_
                    refine qVI (al := []) (As := [.int 0, .int 10]) (rest := []) X Y (k_crane_0 hI_22 10 (s_wayToStop ((S 0).1 3) (r 2)) rfl) gL_holds_X7_crane rfl hdq_X7_crane ⟨Nat.le_of_ble_eq_true rfl, Nat.le_of_ble_eq_true rfl⟩ hI_22.head rfl rfl hl.1 (Nat.le_of_ble_eq_true rfl) ⟨Nat.le_of_ble_eq_true rfl, Nat.le_of_ble_eq_true rfl⟩ dL_holds_153 (fun wa_25 H locs hI_25 hw_25 Y => ?_)
                    have hW_25 := hW_22.trans hw_25
                    refine lv_aload_n hx hb dL_holds_156 rfl (lv_at hl 4 rfl) ?_
                    refine lv_iload_n hx hb dL_holds_157 rfl (lv_at hl 1 rfl) ?_
                    refine qVI (al := []) (As := [.int ((S 0).1 3)]) (rest := [.int (s_wayToStop ((S 0).1 3) (r 2))]) X Y (k_stop hI_25 ((S 0).1 3) (s_wayToStop ((S 0).1 3) (r 2)) (stopK (by omega))) gL_holds_X7_stop rfl hdq_X7_stop ⟨Nat.le_of_ble_eq_true rfl, Nat.le_of_ble_eq_true rfl⟩ hI_25.head rfl rfl hl.1 (Nat.le_of_ble_eq_true rfl) ⟨Nat.le_of_ble_eq_true rfl, Nat.le_of_ble_eq_true rfl⟩ dL_holds_158 (fun wa_26 H locs hI_26 hw_26 Y => ?_)
                    have hW_26 := hW_25.trans hw_26
                    refine lv_icmp_ne (tgt := 184) hx hb dL_holds_161 (by decide) (fun c_27 => ?_) (fun c_27 => ?_)
                    · exact absurd rfl (show ¬ ((s_wayToStop ((S 0).1 3) (r 2)) = (s_wayToStop ((S 0).1 3) (r 2))) from c_27)
                    · have c_27 : (s_wayToStop ((S 0).1 3) (r 2)) = (s_wayToStop ((S 0).1 3) (r 2)) := c_27
                      refine lv_aload_n hx hb dL_holds_164 rfl (lv_at hl 4 rfl) ?_
                      refine lv_iload_n hx hb dL_holds_165 rfl (lv_at hl 2 rfl) ?_
                      refine lv_bipush (v := 11) hx hb dL_holds_166 (by decide) ?_
                      refine qVI (al := []) (As := [.int 0, .int 11]) (rest := []) X Y (k_crane_0 hI_26 11 (nI (s_halfSwing ((S 0).1 4))) rfl) gL_holds_X7_crane rfl hdq_X7_crane ⟨Nat.le_of_ble_eq_true rfl, Nat.le_of_ble_eq_true rfl⟩ hI_26.head rfl rfl hl.1 (Nat.le_of_ble_eq_true rfl) ⟨Nat.le_of_ble_eq_true rfl, Nat.le_of_ble_eq_true rfl⟩ dL_holds_168 (fun wa_28 H locs hI_28 hw_28 Y => ?_)
                      have hW_28 := hW_26.trans hw_28
                      refine lv_aload_n hx hb dL_holds_171 rfl (lv_at hl 4 rfl) ?_
                      refine lv_aload_n hx hb dL_holds_172 rfl (lv_at hl 4 rfl) ?_
                      refine lv_iload_n hx hb dL_holds_173 rfl (lv_at hl 2 rfl) ?_
                      refine lv_iconst (v := 2) hx hb dL_holds_174 (by decide) ?_
                      refine qVI (al := []) (As := [.int 0, .int 2]) (rest := [.ref (Q 0), .int (nI (s_halfSwing ((S 0).1 4)))]) X Y (k_crane_0 hI_28 2 ((S 0).1 4) rfl) gL_holds_X7_crane rfl hdq_X7_crane ⟨Nat.le_of_ble_eq_true rfl, Nat.le_of_ble_eq_true rfl⟩ hI_28.head rfl rfl hl.1 (Nat.le_of_ble_eq_true rfl) ⟨Nat.le_of_ble_eq_true rfl, Nat.le_of_ble_eq_true rfl⟩ dL_holds_175 (fun wa_29 H locs hI_29 hw_29 Y => ?_)
                      have hW_29 := hW_28.trans hw_29
                      refine qVI (al := []) (As := [.int ((S 0).1 4)]) (rest := [.int (nI (s_halfSwing ((S 0).1 4)))]) X Y (k_half hI_29 ((S 0).1 4) (nI (s_halfSwing ((S 0).1 4))) (halfK (by omega))) gL_holds_X7_half rfl hdq_X7_half ⟨Nat.le_of_ble_eq_true rfl, Nat.le_of_ble_eq_true rfl⟩ hI_29.head rfl rfl hl.1 (Nat.le_of_ble_eq_true rfl) ⟨Nat.le_of_ble_eq_true rfl, Nat.le_of_ble_eq_true rfl⟩ dL_holds_178 (fun wa_30 H locs hI_30 hw_30 Y => ?_)
                      have hW_30 := hW_29.trans hw_30
                      refine lv_icmp_eq (tgt := 186) hx hb dL_holds_181 (by decide) (fun c_31 => ?_) (fun c_31 => ?_)
                      · have c_31 : (nI (s_halfSwing ((S 0).1 4))) = (nI (s_halfSwing ((S 0).1 4))) := c_31
                        refine lv_aload_n hx hb dL_holds_186 rfl (lv_at hl 4 rfl) ?_
                        refine lv_iload_n hx hb dL_holds_187 rfl (lv_at hl 2 rfl) ?_
                        refine lv_iconst (v := 4) hx hb dL_holds_188 (by decide) ?_
                        refine qVI (al := []) (As := [.int 0, .int 4]) (rest := []) X Y (k_crane_0 hI_30 4 ((S 0).1 6 + 100000) rfl) gL_holds_X7_crane rfl hdq_X7_crane ⟨Nat.le_of_ble_eq_true rfl, Nat.le_of_ble_eq_true rfl⟩ hI_30.head rfl rfl hl.1 (Nat.le_of_ble_eq_true rfl) ⟨Nat.le_of_ble_eq_true rfl, Nat.le_of_ble_eq_true rfl⟩ dL_holds_189 (fun wa_32 H locs hI_32 hw_32 Y => ?_)
                        have hW_32 := hW_30.trans hw_32
                        refine lv_ldc (v := 100000) hx hb X.1.1.2.2.2.1 (X.1.1.2.2.2.2 _ k_L_holds_56) dL_holds_192 ?_
                        refine bSub (v := (S 0).1 6) X.1 dL_holds_194 (addZ _) ?_
                        refine bSI (As := [.int ((S 0).1 6)]) (rest := []) X.1 Y (c_size l D cyC cyI ((S 0).1 6)) gL_holds_L_size rfl ⟨rfl, rfl⟩ hdq_L_size.2 ⟨Nat.le_of_ble_eq_true rfl, Nat.le_of_ble_eq_true rfl⟩ rfl rfl hl.1 (Nat.le_of_ble_eq_true rfl) ⟨Nat.le_of_ble_eq_true rfl, Nat.le_of_ble_eq_true rfl⟩ dL_holds_195 (fun H locs Y => ?_)
                        refine lv_sipush (v := 9999) hx hb dL_holds_198 (by decide) ?_
                        refine lv_icmp_gt (tgt := 222) hx hb dL_holds_201 (by decide) (fun c_34 => ?_) (fun c_34 => ?_)
                        · exact absurd (show 9999 < (szI ((S 0).1 6)) from c_34) (by rw [ltI, show (9999 : Int32).toInt = 9999 by decide]; have := szI_b (m := 9999) l4 (by omega); omega)
                        · have c_34 : ¬ (9999 < (szI ((S 0).1 6))) := c_34
                          refine lv_aload_n hx hb dL_holds_204 rfl (lv_at hl 4 rfl) ?_
                          refine lv_iload_n hx hb dL_holds_205 rfl (lv_at hl 2 rfl) ?_
                          refine lv_iconst (v := 5) hx hb dL_holds_206 (by decide) ?_
                          refine qVI (al := []) (As := [.int 0, .int 5]) (rest := []) X Y (k_crane_0 hI_32 5 ((S 0).1 7 + 100000) rfl) gL_holds_X7_crane rfl hdq_X7_crane ⟨Nat.le_of_ble_eq_true rfl, Nat.le_of_ble_eq_true rfl⟩ hI_32.head rfl rfl hl.1 (Nat.le_of_ble_eq_true rfl) ⟨Nat.le_of_ble_eq_true rfl, Nat.le_of_ble_eq_true rfl⟩ dL_holds_207 (fun wa_35 H locs hI_35 hw_35 Y => ?_)
                          have hW_35 := hW_32.trans hw_35
                          refine lv_ldc (v := 100000) hx hb X.1.1.2.2.2.1 (X.1.1.2.2.2.2 _ k_L_holds_56) dL_holds_210 ?_
                          refine bSub (v := (S 0).1 7) X.1 dL_holds_212 (addZ _) ?_
                          refine bSI (As := [.int ((S 0).1 7)]) (rest := []) X.1 Y (c_size l D cyC cyI ((S 0).1 7)) gL_holds_L_size rfl ⟨rfl, rfl⟩ hdq_L_size.2 ⟨Nat.le_of_ble_eq_true rfl, Nat.le_of_ble_eq_true rfl⟩ rfl rfl hl.1 (Nat.le_of_ble_eq_true rfl) ⟨Nat.le_of_ble_eq_true rfl, Nat.le_of_ble_eq_true rfl⟩ dL_holds_213 (fun H locs Y => ?_)
                          refine lv_sipush (v := 9999) hx hb dL_holds_216 (by decide) ?_
                          refine lv_icmp_le (tgt := 224) hx hb dL_holds_219 (by decide) (fun c_37 => ?_) (fun c_37 => ?_)
                          · have c_37 : (szI ((S 0).1 7)) ≤ 9999 := c_37
                            refine lv_iconst (v := 0) hx hb dL_holds_224 (by decide) ?_
                            refine lv_istore (lv' := [(5, .int 0), (4, .int ((r 3) - (((S 0).1 5) / 10))), (3, .int ((S 0).1 3)), (2, .int 0), (1, .int ((((S 0).1 14) - ((S 0).1 2)) - (r 1))), (0, .ref (Q 0))]) hx hb dL_holds_225 hl (by decide) rfl (fun ls hl => ?_)
                            refine lv_iconst (v := 0) hx hb dL_holds_227 (by decide) ?_
                            refine lv_istore (lv' := [(6, .int 0), (5, .int 0), (4, .int ((r 3) - (((S 0).1 5) / 10))), (3, .int ((S 0).1 3)), (2, .int 0), (1, .int ((((S 0).1 14) - ((S 0).1 2)) - (r 1))), (0, .ref (Q 0))]) hx hb dL_holds_228 hl (by decide) rfl (fun ls hl => ?_)
                            refine lp_hS l D cyC cyI sb sL xs hm hs htk 0 (by omega) ((((S 0).1 14) - ((S 0).1 2)) - (r 1)) ((S 0).1 3) ((r 3) - (((S 0).1 5) / 10)) X hr hlk ?_ 121 0 0 rfl (by omega) (by omega) _ _ _ _ hI_35 hW_35 (lv_sub hl [6, 5, 4, 3, 2, 1, 0] rfl) Y
                            intro wa H locs ls hI hW hl Y
                            have hl : lv_has ls 7 [(0, .ref (Q 0)), (1, .int ((((S 0).1 14) - ((S 0).1 2)) - (r 1))), (2, .int 0), (3, .int ((S 0).1 3)), (4, .int ((r 3) - (((S 0).1 5) / 10))), (5, .int ((S 0).1 0))] := hl
                            refine lv_iload hx hb dL_holds_261 (lv_at hl 5 rfl) ?_
                            refine lv_aload_n hx hb dL_holds_263 rfl (lv_at hl 0 rfl) ?_
                            refine lv_bipush (v := 6) hx hb dL_holds_264 (by decide) ?_
                            refine qVI (al := []) (As := [.int 6]) (rest := [.int ((S 0).1 0)]) X Y (k_count hI 6 ((S 0).1 0) rfl) gL_holds_X7_count rfl hdq_X7_count ⟨Nat.le_of_ble_eq_true rfl, Nat.le_of_ble_eq_true rfl⟩ hI.head rfl rfl hl.1 (Nat.le_of_ble_eq_true rfl) ⟨Nat.le_of_ble_eq_true rfl, Nat.le_of_ble_eq_true rfl⟩ dL_holds_266 (fun wa_38 H locs hI_38 hw_38 Y => ?_)
                            have hW_38 := hW.trans hw_38
                            refine lv_icmp_eq (tgt := 274) hx hb dL_holds_269 (by decide) (fun c_39 => ?_) (fun c_39 => ?_)
                            · have c_39 : ((S 0).1 0) = ((S 0).1 0) := c_39
                              refine lv_iinc (v := 1) (lv' := [(2, .int 1), (0, .ref (Q 0)), (1, .int ((((S 0).1 14) - ((S 0).1 2)) - (r 1))), (3, .int ((S 0).1 3)), (4, .int ((r 3) - (((S 0).1 5) / 10))), (5, .int ((S 0).1 0))]) hx hb dL_holds_274 hl (k := 2) rfl (by decide) (by decide) rfl (fun ls hl => ?_)
                              refine lv_goto (tgt := 61) hx hb dL_holds_277 (by decide) ?_
                              refine lv_iload_n hx hb dL_holds_61 rfl (lv_at hl 0 rfl) ?_
                              refine lv_iconst (v := 2) hx hb dL_holds_62 (by decide) ?_
                              refine lv_icmp_ge (tgt := 280) hx hb dL_holds_63 (by decide) (fun c_ => absurd c_ (by decide)) (fun _ => ?_)
                              refine lv_aload_n hx hb dL_holds_66 rfl (lv_at hl 1 rfl) ?_
                              refine lv_iload_n hx hb dL_holds_67 rfl (lv_at hl 0 rfl) ?_
                              refine lv_iconst (v := 1) hx hb dL_holds_68 (by decide) ?_
                              refine qVI (al := []) (As := [.int 1, .int 1]) (rest := []) X Y (k_crane_1 hI_38 1 ((S 0).1 15 + 100000) rfl) gL_holds_X7_crane rfl hdq_X7_crane ⟨Nat.le_of_ble_eq_true rfl, Nat.le_of_ble_eq_true rfl⟩ hI_38.head rfl rfl hl.1 (Nat.le_of_ble_eq_true rfl) ⟨Nat.le_of_ble_eq_true rfl, Nat.le_of_ble_eq_true rfl⟩ dL_holds_69 (fun wa_40 H locs hI_40 hw_40 Y => ?_)
                              have hW_40 := hW_38.trans hw_40
                              refine lv_ldc (v := 100000) hx hb X.1.1.2.2.2.1 (X.1.1.2.2.2.2 _ k_L_holds_56) dL_holds_72 ?_
                              refine bSub (v := (S 0).1 15) X.1 dL_holds_74 (addZ _) ?_
                              refine lv_istore_n (lv' := [(3, .int ((S 0).1 15)), (2, .int 1), (0, .ref (Q 0)), (1, .int ((((S 0).1 14) - ((S 0).1 2)) - (r 1))), (4, .int ((r 3) - (((S 0).1 5) / 10))), (5, .int ((S 0).1 0))]) hx hb dL_holds_75 rfl hl (by decide) rfl (fun ls hl => ?_)
                              refine lv_aload_n hx hb dL_holds_76 rfl (lv_at hl 2 rfl) ?_
                              refine lv_iconst (v := 3) hx hb dL_holds_77 (by decide) ?_
                              refine qVI (al := []) (As := [.int 3]) (rest := []) X Y (k_count hI_40 3 (r 3) rfl) gL_holds_X7_count rfl hdq_X7_count ⟨Nat.le_of_ble_eq_true rfl, Nat.le_of_ble_eq_true rfl⟩ hI_40.head rfl rfl hl.1 (Nat.le_of_ble_eq_true rfl) ⟨Nat.le_of_ble_eq_true rfl, Nat.le_of_ble_eq_true rfl⟩ dL_holds_78 (fun wa_41 H locs hI_41 hw_41 Y => ?_)
                              have hW_41 := hW_40.trans hw_41
                              refine lv_aload_n hx hb dL_holds_81 rfl (lv_at hl 2 rfl) ?_
                              refine lv_iload_n hx hb dL_holds_82 rfl (lv_at hl 1 rfl) ?_
                              refine lv_iconst (v := 3) hx hb dL_holds_83 (by decide) ?_
                              refine qVI (al := []) (As := [.int 1, .int 3]) (rest := [.int (r 3)]) X Y (k_crane_1 hI_41 3 ((S 0).1 17) rfl) gL_holds_X7_crane rfl hdq_X7_crane ⟨Nat.le_of_ble_eq_true rfl, Nat.le_of_ble_eq_true rfl⟩ hI_41.head rfl rfl hl.1 (Nat.le_of_ble_eq_true rfl) ⟨Nat.le_of_ble_eq_true rfl, Nat.le_of_ble_eq_true rfl⟩ dL_holds_84 (fun wa_42 H locs hI_42 hw_42 Y => ?_)
                              have hW_42 := hW_41.trans hw_42
                              refine lv_bipush (v := 10) hx hb dL_holds_87 (by decide) ?_
                              refine bDiv (v := ((S 0).1 17) / 10) X.1 dL_holds_89 (by decide) rfl ?_
                              refine bSub (v := (r 3) - (((S 0).1 17) / 10)) X.1 dL_holds_90 rfl ?_
                              refine lv_istore (lv' := [(4, .int ((r 3) - (((S 0).1 17) / 10))), (3, .int ((S 0).1 15)), (2, .int 1), (0, .ref (Q 0)), (1, .int ((((S 0).1 14) - ((S 0).1 2)) - (r 1))), (5, .int ((S 0).1 0))]) hx hb dL_holds_91 hl (by decide) rfl (fun ls hl => ?_)
                              refine lv_iload_n hx hb dL_holds_93 rfl (lv_at hl 1 rfl) ?_
                              refine bSI (As := [.int ((S 0).1 15)]) (rest := []) X.1 Y (c_size l D cyC cyI ((S 0).1 15)) gL_holds_L_size rfl ⟨rfl, rfl⟩ hdq_L_size.2 ⟨Nat.le_of_ble_eq_true rfl, Nat.le_of_ble_eq_true rfl⟩ rfl rfl hl.1 (Nat.le_of_ble_eq_true rfl) ⟨Nat.le_of_ble_eq_true rfl, Nat.le_of_ble_eq_true rfl⟩ dL_holds_94 (fun H locs Y => ?_)
                              refine lv_aload_n hx hb dL_holds_97 rfl (lv_at hl 3 rfl) ?_
                              refine lv_iconst (v := 3) hx hb dL_holds_98 (by decide) ?_
                              refine qVI (al := []) (As := [.int 3]) (rest := [.int (szI ((S 0).1 15))]) X Y (k_count hI_42 3 (r 3) rfl) gL_holds_X7_count rfl hdq_X7_count ⟨Nat.le_of_ble_eq_true rfl, Nat.le_of_ble_eq_true rfl⟩ hI_42.head rfl rfl hl.1 (Nat.le_of_ble_eq_true rfl) ⟨Nat.le_of_ble_eq_true rfl, Nat.le_of_ble_eq_true rfl⟩ dL_holds_99 (fun wa_44 H locs hI_44 hw_44 Y => ?_)
                              have hW_44 := hW_42.trans hw_44
                              refine lv_icmp_gt (tgt := 184) hx hb dL_holds_102 (by decide) (fun c_45 => ?_) (fun c_45 => ?_)
                              · exact absurd (show (r 3) < (szI ((S 0).1 15)) from c_45) (by rw [ltI]; have := szI_b (m := (r 3).toInt) q1 (by omega); omega)
                              · have c_45 : ¬ ((r 3) < (szI ((S 0).1 15))) := c_45
                                refine lv_aload_n hx hb dL_holds_105 rfl (lv_at hl 3 rfl) ?_
                                refine lv_iload_n hx hb dL_holds_106 rfl (lv_at hl 2 rfl) ?_
                                refine lv_iconst (v := 2) hx hb dL_holds_107 (by decide) ?_
                                refine qVI (al := []) (As := [.int 1, .int 2]) (rest := []) X Y (k_crane_1 hI_44 2 ((S 0).1 16) rfl) gL_holds_X7_crane rfl hdq_X7_crane ⟨Nat.le_of_ble_eq_true rfl, Nat.le_of_ble_eq_true rfl⟩ hI_44.head rfl rfl hl.1 (Nat.le_of_ble_eq_true rfl) ⟨Nat.le_of_ble_eq_true rfl, Nat.le_of_ble_eq_true rfl⟩ dL_holds_108 (fun wa_46 H locs hI_46 hw_46 Y => ?_)
                                have hW_46 := hW_44.trans hw_46
                                refine lv_bipush (v := 10) hx hb dL_holds_111 (by decide) ?_
                                refine lv_icmp_lt (tgt := 184) hx hb dL_holds_113 (by decide) (fun c_47 => ?_) (fun c_47 => ?_)
                                · exact absurd (show ((S 0).1 16) < 10 from c_47) (by rw [ltI, show (10 : Int32).toInt = 10 by decide]; omega)
                                · have c_47 : ¬ (((S 0).1 16) < 10) := c_47
                                  refine lv_aload_n hx hb dL_holds_116 rfl (lv_at hl 3 rfl) ?_
                                  refine lv_iload_n hx hb dL_holds_117 rfl (lv_at hl 2 rfl) ?_
                                  refine lv_iconst (v := 2) hx hb dL_holds_118 (by decide) ?_
                                  refine qVI (al := []) (As := [.int 1, .int 2]) (rest := []) X Y (k_crane_1 hI_46 2 ((S 0).1 16) rfl) gL_holds_X7_crane rfl hdq_X7_crane ⟨Nat.le_of_ble_eq_true rfl, Nat.le_of_ble_eq_true rfl⟩ hI_46.head rfl rfl hl.1 (Nat.le_of_ble_eq_true rfl) ⟨Nat.le_of_ble_eq_true rfl, Nat.le_of_ble_eq_true rfl⟩ dL_holds_119 (fun wa_48 H locs hI_48 hw_48 Y => ?_)
                                  have hW_48 := hW_46.trans hw_48
                                  refine lv_bipush (v := 60) hx hb dL_holds_122 (by decide) ?_
                                  refine lv_icmp_gt (tgt := 184) hx hb dL_holds_124 (by decide) (fun c_49 => ?_) (fun c_49 => ?_)
                                  · exact absurd (show 60 < ((S 0).1 16) from c_49) (by rw [ltI, show (60 : Int32).toInt = 60 by decide]; omega)
                                  · have c_49 : ¬ (60 < ((S 0).1 16)) := c_49
                                    refine lv_aload_n hx hb dL_holds_127 rfl (lv_at hl 3 rfl) ?_
                                    refine lv_iload_n hx hb dL_holds_128 rfl (lv_at hl 2 rfl) ?_
                                    refine lv_bipush (v := 8) hx hb dL_holds_129 (by decide) ?_
                                    refine qVI (al := []) (As := [.int 1, .int 8]) (rest := []) X Y (k_crane_1 hI_48 8 (s_limit ((S 0).1 17) (r 3)) rfl) gL_holds_X7_crane rfl hdq_X7_crane ⟨Nat.le_of_ble_eq_true rfl, Nat.le_of_ble_eq_true rfl⟩ hI_48.head rfl rfl hl.1 (Nat.le_of_ble_eq_true rfl) ⟨Nat.le_of_ble_eq_true rfl, Nat.le_of_ble_eq_true rfl⟩ dL_holds_131 (fun wa_50 H locs hI_50 hw_50 Y => ?_)
                                    have hW_50 := hW_48.trans hw_50
                                    refine lv_iload hx hb dL_holds_134 (lv_at hl 0 rfl) ?_
                                    refine lv_iconst (v := 1) hx hb dL_holds_136 (by decide) ?_
                                    refine lv_icmp_ge (tgt := 144) hx hb dL_holds_137 (by decide) (fun c_51 => ?_) (fun c_51 => ?_)
                                    · have c_51 : 1 ≤ ((r 3) - (((S 0).1 17) / 10)) := c_51
                                      refine lv_iload hx hb dL_holds_144 (lv_at hl 0 rfl) ?_
                                      refine lv_icmp_ne (tgt := 184) hx hb dL_holds_146 (by decide) (fun c_52 => ?_) (fun c_52 => ?_)
                                      · exact absurd (lim_ge c_51) (show ¬ ((s_limit ((S 0).1 17) (r 3)) = ((r 3) - (((S 0).1 17) / 10))) from c_52)
                                      · have c_52 : (s_limit ((S 0).1 17) (r 3)) = ((r 3) - (((S 0).1 17) / 10)) := c_52
                                        refine lv_aload_n hx hb dL_holds_149 rfl (lv_at hl 3 rfl) ?_
                                        refine lv_iload_n hx hb dL_holds_150 rfl (lv_at hl 2 rfl) ?_
                                        refine lv_bipush (v := 10) hx hb dL_holds_151 (by decide) ?_
                                        refine qVI (al := []) (As := [.int 1, .int 10]) (rest := []) X Y (k_crane_1 hI_50 10 (s_wayToStop ((S 0).1 15) (r 2)) rfl) gL_holds_X7_crane rfl hdq_X7_crane ⟨Nat.le_of_ble_eq_true rfl, Nat.le_of_ble_eq_true rfl⟩ hI_50.head rfl rfl hl.1 (Nat.le_of_ble_eq_true rfl) ⟨Nat.le_of_ble_eq_true rfl, Nat.le_of_ble_eq_true rfl⟩ dL_holds_153 (fun wa_53 H locs hI_53 hw_53 Y => ?_)
                                        have hW_53 := hW_50.trans hw_53
                                        refine lv_aload_n hx hb dL_holds_156 rfl (lv_at hl 3 rfl) ?_
                                        refine lv_iload_n hx hb dL_holds_157 rfl (lv_at hl 1 rfl) ?_
                                        refine qVI (al := []) (As := [.int ((S 0).1 15)]) (rest := [.int (s_wayToStop ((S 0).1 15) (r 2))]) X Y (k_stop hI_53 ((S 0).1 15) (s_wayToStop ((S 0).1 15) (r 2)) (stopK (by omega))) gL_holds_X7_stop rfl hdq_X7_stop ⟨Nat.le_of_ble_eq_true rfl, Nat.le_of_ble_eq_true rfl⟩ hI_53.head rfl rfl hl.1 (Nat.le_of_ble_eq_true rfl) ⟨Nat.le_of_ble_eq_true rfl, Nat.le_of_ble_eq_true rfl⟩ dL_holds_158 (fun wa_54 H locs hI_54 hw_54 Y => ?_)
                                        have hW_54 := hW_53.trans hw_54
                                        refine lv_icmp_ne (tgt := 184) hx hb dL_holds_161 (by decide) (fun c_55 => ?_) (fun c_55 => ?_)
                                        · exact absurd rfl (show ¬ ((s_wayToStop ((S 0).1 15) (r 2)) = (s_wayToStop ((S 0).1 15) (r 2))) from c_55)
                                        · have c_55 : (s_wayToStop ((S 0).1 15) (r 2)) = (s_wayToStop ((S 0).1 15) (r 2)) := c_55
                                          refine lv_aload_n hx hb dL_holds_164 rfl (lv_at hl 3 rfl) ?_
                                          refine lv_iload_n hx hb dL_holds_165 rfl (lv_at hl 2 rfl) ?_
                                          refine lv_bipush (v := 11) hx hb dL_holds_166 (by decide) ?_
                                          refine qVI (al := []) (As := [.int 1, .int 11]) (rest := []) X Y (k_crane_1 hI_54 11 (nI (s_halfSwing ((S 0).1 16))) rfl) gL_holds_X7_crane rfl hdq_X7_crane ⟨Nat.le_of_ble_eq_true rfl, Nat.le_of_ble_eq_true rfl⟩ hI_54.head rfl rfl hl.1 (Nat.le_of_ble_eq_true rfl) ⟨Nat.le_of_ble_eq_true rfl, Nat.le_of_ble_eq_true rfl⟩ dL_holds_168 (fun wa_56 H locs hI_56 hw_56 Y => ?_)
                                          have hW_56 := hW_54.trans hw_56
                                          refine lv_aload_n hx hb dL_holds_171 rfl (lv_at hl 3 rfl) ?_
                                          refine lv_aload_n hx hb dL_holds_172 rfl (lv_at hl 3 rfl) ?_
                                          refine lv_iload_n hx hb dL_holds_173 rfl (lv_at hl 2 rfl) ?_
                                          refine lv_iconst (v := 2) hx hb dL_holds_174 (by decide) ?_
                                          refine qVI (al := []) (As := [.int 1, .int 2]) (rest := [.ref (Q 0), .int (nI (s_halfSwing ((S 0).1 16)))]) X Y (k_crane_1 hI_56 2 ((S 0).1 16) rfl) gL_holds_X7_crane rfl hdq_X7_crane ⟨Nat.le_of_ble_eq_true rfl, Nat.le_of_ble_eq_true rfl⟩ hI_56.head rfl rfl hl.1 (Nat.le_of_ble_eq_true rfl) ⟨Nat.le_of_ble_eq_true rfl, Nat.le_of_ble_eq_true rfl⟩ dL_holds_175 (fun wa_57 H locs hI_57 hw_57 Y => ?_)
                                          have hW_57 := hW_56.trans hw_57
                                          refine qVI (al := []) (As := [.int ((S 0).1 16)]) (rest := [.int (nI (s_halfSwing ((S 0).1 16)))]) X Y (k_half hI_57 ((S 0).1 16) (nI (s_halfSwing ((S 0).1 16))) (halfK (by omega))) gL_holds_X7_half rfl hdq_X7_half ⟨Nat.le_of_ble_eq_true rfl, Nat.le_of_ble_eq_true rfl⟩ hI_57.head rfl rfl hl.1 (Nat.le_of_ble_eq_true rfl) ⟨Nat.le_of_ble_eq_true rfl, Nat.le_of_ble_eq_true rfl⟩ dL_holds_178 (fun wa_58 H locs hI_58 hw_58 Y => ?_)
                                          have hW_58 := hW_57.trans hw_58
                                          refine lv_icmp_eq (tgt := 186) hx hb dL_holds_181 (by decide) (fun c_59 => ?_) (fun c_59 => ?_)
                                          · have c_59 : (nI (s_halfSwing ((S 0).1 16))) = (nI (s_halfSwing ((S 0).1 16))) := c_59
                                            refine lv_aload_n hx hb dL_holds_186 rfl (lv_at hl 3 rfl) ?_
                                            refine lv_iload_n hx hb dL_holds_187 rfl (lv_at hl 2 rfl) ?_
                                            refine lv_iconst (v := 4) hx hb dL_holds_188 (by decide) ?_
                                            refine qVI (al := []) (As := [.int 1, .int 4]) (rest := []) X Y (k_crane_1 hI_58 4 ((S 0).1 18 + 100000) rfl) gL_holds_X7_crane rfl hdq_X7_crane ⟨Nat.le_of_ble_eq_true rfl, Nat.le_of_ble_eq_true rfl⟩ hI_58.head rfl rfl hl.1 (Nat.le_of_ble_eq_true rfl) ⟨Nat.le_of_ble_eq_true rfl, Nat.le_of_ble_eq_true rfl⟩ dL_holds_189 (fun wa_60 H locs hI_60 hw_60 Y => ?_)
                                            have hW_60 := hW_58.trans hw_60
                                            refine lv_ldc (v := 100000) hx hb X.1.1.2.2.2.1 (X.1.1.2.2.2.2 _ k_L_holds_56) dL_holds_192 ?_
                                            refine bSub (v := (S 0).1 18) X.1 dL_holds_194 (addZ _) ?_
                                            refine bSI (As := [.int ((S 0).1 18)]) (rest := []) X.1 Y (c_size l D cyC cyI ((S 0).1 18)) gL_holds_L_size rfl ⟨rfl, rfl⟩ hdq_L_size.2 ⟨Nat.le_of_ble_eq_true rfl, Nat.le_of_ble_eq_true rfl⟩ rfl rfl hl.1 (Nat.le_of_ble_eq_true rfl) ⟨Nat.le_of_ble_eq_true rfl, Nat.le_of_ble_eq_true rfl⟩ dL_holds_195 (fun H locs Y => ?_)
                                            refine lv_sipush (v := 9999) hx hb dL_holds_198 (by decide) ?_
                                            refine lv_icmp_gt (tgt := 222) hx hb dL_holds_201 (by decide) (fun c_62 => ?_) (fun c_62 => ?_)
                                            · exact absurd (show 9999 < (szI ((S 0).1 18)) from c_62) (by rw [ltI, show (9999 : Int32).toInt = 9999 by decide]; have := szI_b (m := 9999) q4 (by omega); omega)
                                            · have c_62 : ¬ (9999 < (szI ((S 0).1 18))) := c_62
                                              refine lv_aload_n hx hb dL_holds_204 rfl (lv_at hl 3 rfl) ?_
                                              refine lv_iload_n hx hb dL_holds_205 rfl (lv_at hl 2 rfl) ?_
                                              refine lv_iconst (v := 5) hx hb dL_holds_206 (by decide) ?_
                                              refine qVI (al := []) (As := [.int 1, .int 5]) (rest := []) X Y (k_crane_1 hI_60 5 ((S 0).1 19 + 100000) rfl) gL_holds_X7_crane rfl hdq_X7_crane ⟨Nat.le_of_ble_eq_true rfl, Nat.le_of_ble_eq_true rfl⟩ hI_60.head rfl rfl hl.1 (Nat.le_of_ble_eq_true rfl) ⟨Nat.le_of_ble_eq_true rfl, Nat.le_of_ble_eq_true rfl⟩ dL_holds_207 (fun wa_63 H locs hI_63 hw_63 Y => ?_)
                                              have hW_63 := hW_60.trans hw_63
                                              refine lv_ldc (v := 100000) hx hb X.1.1.2.2.2.1 (X.1.1.2.2.2.2 _ k_L_holds_56) dL_holds_210 ?_
                                              refine bSub (v := (S 0).1 19) X.1 dL_holds_212 (addZ _) ?_
                                              refine bSI (As := [.int ((S 0).1 19)]) (rest := []) X.1 Y (c_size l D cyC cyI ((S 0).1 19)) gL_holds_L_size rfl ⟨rfl, rfl⟩ hdq_L_size.2 ⟨Nat.le_of_ble_eq_true rfl, Nat.le_of_ble_eq_true rfl⟩ rfl rfl hl.1 (Nat.le_of_ble_eq_true rfl) ⟨Nat.le_of_ble_eq_true rfl, Nat.le_of_ble_eq_true rfl⟩ dL_holds_213 (fun H locs Y => ?_)
                                              refine lv_sipush (v := 9999) hx hb dL_holds_216 (by decide) ?_
                                              refine lv_icmp_le (tgt := 224) hx hb dL_holds_219 (by decide) (fun c_65 => ?_) (fun c_65 => ?_)
                                              · have c_65 : (szI ((S 0).1 19)) ≤ 9999 := c_65
                                                refine lv_iconst (v := 0) hx hb dL_holds_224 (by decide) ?_
                                                refine lv_istore (lv' := [(5, .int 0), (4, .int ((r 3) - (((S 0).1 17) / 10))), (3, .int ((S 0).1 15)), (2, .int 1), (0, .ref (Q 0)), (1, .int ((((S 0).1 14) - ((S 0).1 2)) - (r 1)))]) hx hb dL_holds_225 hl (by decide) rfl (fun ls hl => ?_)
                                                refine lv_iconst (v := 0) hx hb dL_holds_227 (by decide) ?_
                                                refine lv_istore (lv' := [(6, .int 0), (5, .int 0), (4, .int ((r 3) - (((S 0).1 17) / 10))), (3, .int ((S 0).1 15)), (2, .int 1), (0, .ref (Q 0)), (1, .int ((((S 0).1 14) - ((S 0).1 2)) - (r 1)))]) hx hb dL_holds_228 hl (by decide) rfl (fun ls hl => ?_)
                                                refine lp_hS l D cyC cyI sb sL xs hm hs htk 1 (by omega) ((((S 0).1 14) - ((S 0).1 2)) - (r 1)) ((S 0).1 15) ((r 3) - (((S 0).1 17) / 10)) X hr hlk ?_ 121 0 0 rfl (by omega) (by omega) _ _ _ _ hI_63 hW_63 (lv_sub hl [5, 6, 4, 3, 2, 1, 0] rfl) Y
                                                intro wa H locs ls hI hW hl Y
                                                have hl : lv_has ls 7 [(0, .ref (Q 0)), (1, .int ((((S 0).1 14) - ((S 0).1 2)) - (r 1))), (2, .int 1), (3, .int ((S 0).1 15)), (4, .int ((r 3) - (((S 0).1 17) / 10))), (5, .int ((S 0).1 0))] := hl
                                                refine lv_iload hx hb dL_holds_261 (lv_at hl 5 rfl) ?_
                                                refine lv_aload_n hx hb dL_holds_263 rfl (lv_at hl 0 rfl) ?_
                                                refine lv_bipush (v := 6) hx hb dL_holds_264 (by decide) ?_
                                                refine qVI (al := []) (As := [.int 6]) (rest := [.int ((S 0).1 0)]) X Y (k_count hI 6 ((S 0).1 0) rfl) gL_holds_X7_count rfl hdq_X7_count ⟨Nat.le_of_ble_eq_true rfl, Nat.le_of_ble_eq_true rfl⟩ hI.head rfl rfl hl.1 (Nat.le_of_ble_eq_true rfl) ⟨Nat.le_of_ble_eq_true rfl, Nat.le_of_ble_eq_true rfl⟩ dL_holds_266 (fun wa_66 H locs hI_66 hw_66 Y => ?_)
                                                have hW_66 := hW.trans hw_66
                                                refine lv_icmp_eq (tgt := 274) hx hb dL_holds_269 (by decide) (fun c_67 => ?_) (fun c_67 => ?_)
                                                · have c_67 : ((S 0).1 0) = ((S 0).1 0) := c_67
                                                  refine lv_iinc (v := 2) (lv' := [(2, .int 2), (0, .ref (Q 0)), (1, .int ((((S 0).1 14) - ((S 0).1 2)) - (r 1))), (3, .int ((S 0).1 15)), (4, .int ((r 3) - (((S 0).1 17) / 10))), (5, .int ((S 0).1 0))]) hx hb dL_holds_274 hl (k := 2) rfl (by decide) (by decide) rfl (fun ls hl => ?_)
                                                  refine lv_goto (tgt := 61) hx hb dL_holds_277 (by decide) ?_
                                                  refine lv_iload_n hx hb dL_holds_61 rfl (lv_at hl 0 rfl) ?_
                                                  refine lv_iconst (v := 2) hx hb dL_holds_62 (by decide) ?_
                                                  refine lv_icmp_ge (tgt := 280) hx hb dL_holds_63 (by decide) (fun _ => ?_) (fun c_ => absurd (by decide) c_)
                                                  refine lv_iconst (v := 1) hx hb dL_holds_280 (by decide) ?_
                                                  exact qEndZ X Y hr hlk dL_holds_281 rfl (⟨rfl, hI_66⟩) hW_66 (Nat.le_of_ble_eq_true rfl) (Nat.le_of_ble_eq_true rfl)
                                                · exact absurd rfl (show ¬ (((S 0).1 0) = ((S 0).1 0)) from c_67)
                                              · exact absurd (by rw [leI, show (9999 : Int32).toInt = 9999 by decide]; have := szI_b (m := 9999) q5 (by omega); omega) (show ¬ ((szI ((S 0).1 19)) ≤ 9999) from c_65)
                                          · exact absurd rfl (show ¬ ((nI (s_halfSwing ((S 0).1 16))) = (nI (s_halfSwing ((S 0).1 16)))) from c_59)
                                    · have c_51 : ¬ (1 ≤ ((r 3) - (((S 0).1 17) / 10))) := c_51
                                      refine lv_iconst (v := 1) hx hb dL_holds_140 (by decide) ?_
                                      refine lv_goto (tgt := 146) hx hb dL_holds_141 (by decide) ?_
                                      refine lv_icmp_ne (tgt := 184) hx hb dL_holds_146 (by decide) (fun c_68 => ?_) (fun c_68 => ?_)
                                      · exact absurd (lim_lt c_51) (show ¬ ((s_limit ((S 0).1 17) (r 3)) = 1) from c_68)
                                      · have c_68 : (s_limit ((S 0).1 17) (r 3)) = 1 := c_68
                                        refine lv_aload_n hx hb dL_holds_149 rfl (lv_at hl 3 rfl) ?_
                                        refine lv_iload_n hx hb dL_holds_150 rfl (lv_at hl 2 rfl) ?_
                                        refine lv_bipush (v := 10) hx hb dL_holds_151 (by decide) ?_
                                        refine qVI (al := []) (As := [.int 1, .int 10]) (rest := []) X Y (k_crane_1 hI_50 10 (s_wayToStop ((S 0).1 15) (r 2)) rfl) gL_holds_X7_crane rfl hdq_X7_crane ⟨Nat.le_of_ble_eq_true rfl, Nat.le_of_ble_eq_true rfl⟩ hI_50.head rfl rfl hl.1 (Nat.le_of_ble_eq_true rfl) ⟨Nat.le_of_ble_eq_true rfl, Nat.le_of_ble_eq_true rfl⟩ dL_holds_153 (fun wa_69 H locs hI_69 hw_69 Y => ?_)
                                        have hW_69 := hW_50.trans hw_69
                                        refine lv_aload_n hx hb dL_holds_156 rfl (lv_at hl 3 rfl) ?_
                                        refine lv_iload_n hx hb dL_holds_157 rfl (lv_at hl 1 rfl) ?_
                                        refine qVI (al := []) (As := [.int ((S 0).1 15)]) (rest := [.int (s_wayToStop ((S 0).1 15) (r 2))]) X Y (k_stop hI_69 ((S 0).1 15) (s_wayToStop ((S 0).1 15) (r 2)) (stopK (by omega))) gL_holds_X7_stop rfl hdq_X7_stop ⟨Nat.le_of_ble_eq_true rfl, Nat.le_of_ble_eq_true rfl⟩ hI_69.head rfl rfl hl.1 (Nat.le_of_ble_eq_true rfl) ⟨Nat.le_of_ble_eq_true rfl, Nat.le_of_ble_eq_true rfl⟩ dL_holds_158 (fun wa_70 H locs hI_70 hw_70 Y => ?_)
                                        have hW_70 := hW_69.trans hw_70
                                        refine lv_icmp_ne (tgt := 184) hx hb dL_holds_161 (by decide) (fun c_71 => ?_) (fun c_71 => ?_)
                                        · exact absurd rfl (show ¬ ((s_wayToStop ((S 0).1 15) (r 2)) = (s_wayToStop ((S 0).1 15) (r 2))) from c_71)
                                        · have c_71 : (s_wayToStop ((S 0).1 15) (r 2)) = (s_wayToStop ((S 0).1 15) (r 2)) := c_71
                                          refine lv_aload_n hx hb dL_holds_164 rfl (lv_at hl 3 rfl) ?_
                                          refine lv_iload_n hx hb dL_holds_165 rfl (lv_at hl 2 rfl) ?_
                                          refine lv_bipush (v := 11) hx hb dL_holds_166 (by decide) ?_
                                          refine qVI (al := []) (As := [.int 1, .int 11]) (rest := []) X Y (k_crane_1 hI_70 11 (nI (s_halfSwing ((S 0).1 16))) rfl) gL_holds_X7_crane rfl hdq_X7_crane ⟨Nat.le_of_ble_eq_true rfl, Nat.le_of_ble_eq_true rfl⟩ hI_70.head rfl rfl hl.1 (Nat.le_of_ble_eq_true rfl) ⟨Nat.le_of_ble_eq_true rfl, Nat.le_of_ble_eq_true rfl⟩ dL_holds_168 (fun wa_72 H locs hI_72 hw_72 Y => ?_)
                                          have hW_72 := hW_70.trans hw_72
                                          refine lv_aload_n hx hb dL_holds_171 rfl (lv_at hl 3 rfl) ?_
                                          refine lv_aload_n hx hb dL_holds_172 rfl (lv_at hl 3 rfl) ?_
                                          refine lv_iload_n hx hb dL_holds_173 rfl (lv_at hl 2 rfl) ?_
                                          refine lv_iconst (v := 2) hx hb dL_holds_174 (by decide) ?_
                                          refine qVI (al := []) (As := [.int 1, .int 2]) (rest := [.ref (Q 0), .int (nI (s_halfSwing ((S 0).1 16)))]) X Y (k_crane_1 hI_72 2 ((S 0).1 16) rfl) gL_holds_X7_crane rfl hdq_X7_crane ⟨Nat.le_of_ble_eq_true rfl, Nat.le_of_ble_eq_true rfl⟩ hI_72.head rfl rfl hl.1 (Nat.le_of_ble_eq_true rfl) ⟨Nat.le_of_ble_eq_true rfl, Nat.le_of_ble_eq_true rfl⟩ dL_holds_175 (fun wa_73 H locs hI_73 hw_73 Y => ?_)
                                          have hW_73 := hW_72.trans hw_73
                                          refine qVI (al := []) (As := [.int ((S 0).1 16)]) (rest := [.int (nI (s_halfSwing ((S 0).1 16)))]) X Y (k_half hI_73 ((S 0).1 16) (nI (s_halfSwing ((S 0).1 16))) (halfK (by omega))) gL_holds_X7_half rfl hdq_X7_half ⟨Nat.le_of_ble_eq_true rfl, Nat.le_of_ble_eq_true rfl⟩ hI_73.head rfl rfl hl.1 (Nat.le_of_ble_eq_true rfl) ⟨Nat.le_of_ble_eq_true rfl, Nat.le_of_ble_eq_true rfl⟩ dL_holds_178 (fun wa_74 H locs hI_74 hw_74 Y => ?_)
                                          have hW_74 := hW_73.trans hw_74
                                          refine lv_icmp_eq (tgt := 186) hx hb dL_holds_181 (by decide) (fun c_75 => ?_) (fun c_75 => ?_)
                                          · have c_75 : (nI (s_halfSwing ((S 0).1 16))) = (nI (s_halfSwing ((S 0).1 16))) := c_75
                                            refine lv_aload_n hx hb dL_holds_186 rfl (lv_at hl 3 rfl) ?_
                                            refine lv_iload_n hx hb dL_holds_187 rfl (lv_at hl 2 rfl) ?_
                                            refine lv_iconst (v := 4) hx hb dL_holds_188 (by decide) ?_
                                            refine qVI (al := []) (As := [.int 1, .int 4]) (rest := []) X Y (k_crane_1 hI_74 4 ((S 0).1 18 + 100000) rfl) gL_holds_X7_crane rfl hdq_X7_crane ⟨Nat.le_of_ble_eq_true rfl, Nat.le_of_ble_eq_true rfl⟩ hI_74.head rfl rfl hl.1 (Nat.le_of_ble_eq_true rfl) ⟨Nat.le_of_ble_eq_true rfl, Nat.le_of_ble_eq_true rfl⟩ dL_holds_189 (fun wa_76 H locs hI_76 hw_76 Y => ?_)
                                            have hW_76 := hW_74.trans hw_76
                                            refine lv_ldc (v := 100000) hx hb X.1.1.2.2.2.1 (X.1.1.2.2.2.2 _ k_L_holds_56) dL_holds_192 ?_
                                            refine bSub (v := (S 0).1 18) X.1 dL_holds_194 (addZ _) ?_
                                            refine bSI (As := [.int ((S 0).1 18)]) (rest := []) X.1 Y (c_size l D cyC cyI ((S 0).1 18)) gL_holds_L_size rfl ⟨rfl, rfl⟩ hdq_L_size.2 ⟨Nat.le_of_ble_eq_true rfl, Nat.le_of_ble_eq_true rfl⟩ rfl rfl hl.1 (Nat.le_of_ble_eq_true rfl) ⟨Nat.le_of_ble_eq_true rfl, Nat.le_of_ble_eq_true rfl⟩ dL_holds_195 (fun H locs Y => ?_)
                                            refine lv_sipush (v := 9999) hx hb dL_holds_198 (by decide) ?_
                                            refine lv_icmp_gt (tgt := 222) hx hb dL_holds_201 (by decide) (fun c_78 => ?_) (fun c_78 => ?_)
                                            · exact absurd (show 9999 < (szI ((S 0).1 18)) from c_78) (by rw [ltI, show (9999 : Int32).toInt = 9999 by decide]; have := szI_b (m := 9999) q4 (by omega); omega)
                                            · have c_78 : ¬ (9999 < (szI ((S 0).1 18))) := c_78
                                              refine lv_aload_n hx hb dL_holds_204 rfl (lv_at hl 3 rfl) ?_
                                              refine lv_iload_n hx hb dL_holds_205 rfl (lv_at hl 2 rfl) ?_
                                              refine lv_iconst (v := 5) hx hb dL_holds_206 (by decide) ?_
                                              refine qVI (al := []) (As := [.int 1, .int 5]) (rest := []) X Y (k_crane_1 hI_76 5 ((S 0).1 19 + 100000) rfl) gL_holds_X7_crane rfl hdq_X7_crane ⟨Nat.le_of_ble_eq_true rfl, Nat.le_of_ble_eq_true rfl⟩ hI_76.head rfl rfl hl.1 (Nat.le_of_ble_eq_true rfl) ⟨Nat.le_of_ble_eq_true rfl, Nat.le_of_ble_eq_true rfl⟩ dL_holds_207 (fun wa_79 H locs hI_79 hw_79 Y => ?_)
                                              have hW_79 := hW_76.trans hw_79
                                              refine lv_ldc (v := 100000) hx hb X.1.1.2.2.2.1 (X.1.1.2.2.2.2 _ k_L_holds_56) dL_holds_210 ?_
                                              refine bSub (v := (S 0).1 19) X.1 dL_holds_212 (addZ _) ?_
                                              refine bSI (As := [.int ((S 0).1 19)]) (rest := []) X.1 Y (c_size l D cyC cyI ((S 0).1 19)) gL_holds_L_size rfl ⟨rfl, rfl⟩ hdq_L_size.2 ⟨Nat.le_of_ble_eq_true rfl, Nat.le_of_ble_eq_true rfl⟩ rfl rfl hl.1 (Nat.le_of_ble_eq_true rfl) ⟨Nat.le_of_ble_eq_true rfl, Nat.le_of_ble_eq_true rfl⟩ dL_holds_213 (fun H locs Y => ?_)
                                              refine lv_sipush (v := 9999) hx hb dL_holds_216 (by decide) ?_
                                              refine lv_icmp_le (tgt := 224) hx hb dL_holds_219 (by decide) (fun c_81 => ?_) (fun c_81 => ?_)
                                              · have c_81 : (szI ((S 0).1 19)) ≤ 9999 := c_81
                                                refine lv_iconst (v := 0) hx hb dL_holds_224 (by decide) ?_
                                                refine lv_istore (lv' := [(5, .int 0), (4, .int ((r 3) - (((S 0).1 17) / 10))), (3, .int ((S 0).1 15)), (2, .int 1), (0, .ref (Q 0)), (1, .int ((((S 0).1 14) - ((S 0).1 2)) - (r 1)))]) hx hb dL_holds_225 hl (by decide) rfl (fun ls hl => ?_)
                                                refine lv_iconst (v := 0) hx hb dL_holds_227 (by decide) ?_
                                                refine lv_istore (lv' := [(6, .int 0), (5, .int 0), (4, .int ((r 3) - (((S 0).1 17) / 10))), (3, .int ((S 0).1 15)), (2, .int 1), (0, .ref (Q 0)), (1, .int ((((S 0).1 14) - ((S 0).1 2)) - (r 1)))]) hx hb dL_holds_228 hl (by decide) rfl (fun ls hl => ?_)
                                                refine lp_hS l D cyC cyI sb sL xs hm hs htk 1 (by omega) ((((S 0).1 14) - ((S 0).1 2)) - (r 1)) ((S 0).1 15) ((r 3) - (((S 0).1 17) / 10)) X hr hlk ?_ 121 0 0 rfl (by omega) (by omega) _ _ _ _ hI_79 hW_79 (lv_sub hl [5, 6, 4, 3, 2, 1, 0] rfl) Y
                                                intro wa H locs ls hI hW hl Y
                                                have hl : lv_has ls 7 [(0, .ref (Q 0)), (1, .int ((((S 0).1 14) - ((S 0).1 2)) - (r 1))), (2, .int 1), (3, .int ((S 0).1 15)), (4, .int ((r 3) - (((S 0).1 17) / 10))), (5, .int ((S 0).1 0))] := hl
                                                refine lv_iload hx hb dL_holds_261 (lv_at hl 5 rfl) ?_
                                                refine lv_aload_n hx hb dL_holds_263 rfl (lv_at hl 0 rfl) ?_
                                                refine lv_bipush (v := 6) hx hb dL_holds_264 (by decide) ?_
                                                refine qVI (al := []) (As := [.int 6]) (rest := [.int ((S 0).1 0)]) X Y (k_count hI 6 ((S 0).1 0) rfl) gL_holds_X7_count rfl hdq_X7_count ⟨Nat.le_of_ble_eq_true rfl, Nat.le_of_ble_eq_true rfl⟩ hI.head rfl rfl hl.1 (Nat.le_of_ble_eq_true rfl) ⟨Nat.le_of_ble_eq_true rfl, Nat.le_of_ble_eq_true rfl⟩ dL_holds_266 (fun wa_82 H locs hI_82 hw_82 Y => ?_)
                                                have hW_82 := hW.trans hw_82
                                                refine lv_icmp_eq (tgt := 274) hx hb dL_holds_269 (by decide) (fun c_83 => ?_) (fun c_83 => ?_)
                                                · have c_83 : ((S 0).1 0) = ((S 0).1 0) := c_83
                                                  refine lv_iinc (v := 2) (lv' := [(2, .int 2), (0, .ref (Q 0)), (1, .int ((((S 0).1 14) - ((S 0).1 2)) - (r 1))), (3, .int ((S 0).1 15)), (4, .int ((r 3) - (((S 0).1 17) / 10))), (5, .int ((S 0).1 0))]) hx hb dL_holds_274 hl (k := 2) rfl (by decide) (by decide) rfl (fun ls hl => ?_)
                                                  refine lv_goto (tgt := 61) hx hb dL_holds_277 (by decide) ?_
                                                  refine lv_iload_n hx hb dL_holds_61 rfl (lv_at hl 0 rfl) ?_
                                                  refine lv_iconst (v := 2) hx hb dL_holds_62 (by decide) ?_
                                                  refine lv_icmp_ge (tgt := 280) hx hb dL_holds_63 (by decide) (fun _ => ?_) (fun c_ => absurd (by decide) c_)
                                                  refine lv_iconst (v := 1) hx hb dL_holds_280 (by decide) ?_
                                                  exact qEndZ X Y hr hlk dL_holds_281 rfl (⟨rfl, hI_82⟩) hW_82 (Nat.le_of_ble_eq_true rfl) (Nat.le_of_ble_eq_true rfl)
                                                · exact absurd rfl (show ¬ (((S 0).1 0) = ((S 0).1 0)) from c_83)
                                              · exact absurd (by rw [leI, show (9999 : Int32).toInt = 9999 by decide]; have := szI_b (m := 9999) q5 (by omega); omega) (show ¬ ((szI ((S 0).1 19)) ≤ 9999) from c_81)
                                          · exact absurd rfl (show ¬ ((nI (s_halfSwing ((S 0).1 16))) = (nI (s_halfSwing ((S 0).1 16)))) from c_75)
                            · exact absurd rfl (show ¬ (((S 0).1 0) = ((S 0).1 0)) from c_39)
                          · exact absurd (by rw [leI, show (9999 : Int32).toInt = 9999 by decide]; have := szI_b (m := 9999) l5 (by omega); omega) (show ¬ ((szI ((S 0).1 7)) ≤ 9999) from c_37)
                      · exact absurd rfl (show ¬ ((nI (s_halfSwing ((S 0).1 4))) = (nI (s_halfSwing ((S 0).1 4)))) from c_31)
                · have c_23 : ¬ (1 ≤ ((r 3) - (((S 0).1 5) / 10))) := c_23
                  refine lv_iconst (v := 1) hx hb dL_holds_140 (by decide) ?_
                  refine lv_goto (tgt := 146) hx hb dL_holds_141 (by decide) ?_
                  refine lv_icmp_ne (tgt := 184) hx hb dL_holds_146 (by decide) (fun c_84 => ?_) (fun c_84 => ?_)
                  · exact absurd (lim_lt c_23) (show ¬ ((s_limit ((S 0).1 5) (r 3)) = 1) from c_84)
                  · have c_84 : (s_limit ((S 0).1 5) (r 3)) = 1 := c_84
                    refine lv_aload_n hx hb dL_holds_149 rfl (lv_at hl 4 rfl) ?_
                    refine lv_iload_n hx hb dL_holds_150 rfl (lv_at hl 2 rfl) ?_
                    refine lv_bipush (v := 10) hx hb dL_holds_151 (by decide) ?_
                    refine qVI (al := []) (As := [.int 0, .int 10]) (rest := []) X Y (k_crane_0 hI_22 10 (s_wayToStop ((S 0).1 3) (r 2)) rfl) gL_holds_X7_crane rfl hdq_X7_crane ⟨Nat.le_of_ble_eq_true rfl, Nat.le_of_ble_eq_true rfl⟩ hI_22.head rfl rfl hl.1 (Nat.le_of_ble_eq_true rfl) ⟨Nat.le_of_ble_eq_true rfl, Nat.le_of_ble_eq_true rfl⟩ dL_holds_153 (fun wa_85 H locs hI_85 hw_85 Y => ?_)
                    have hW_85 := hW_22.trans hw_85
                    refine lv_aload_n hx hb dL_holds_156 rfl (lv_at hl 4 rfl) ?_
                    refine lv_iload_n hx hb dL_holds_157 rfl (lv_at hl 1 rfl) ?_
                    refine qVI (al := []) (As := [.int ((S 0).1 3)]) (rest := [.int (s_wayToStop ((S 0).1 3) (r 2))]) X Y (k_stop hI_85 ((S 0).1 3) (s_wayToStop ((S 0).1 3) (r 2)) (stopK (by omega))) gL_holds_X7_stop rfl hdq_X7_stop ⟨Nat.le_of_ble_eq_true rfl, Nat.le_of_ble_eq_true rfl⟩ hI_85.head rfl rfl hl.1 (Nat.le_of_ble_eq_true rfl) ⟨Nat.le_of_ble_eq_true rfl, Nat.le_of_ble_eq_true rfl⟩ dL_holds_158 (fun wa_86 H locs hI_86 hw_86 Y => ?_)
                    have hW_86 := hW_85.trans hw_86
                    refine lv_icmp_ne (tgt := 184) hx hb dL_holds_161 (by decide) (fun c_87 => ?_) (fun c_87 => ?_)
                    · exact absurd rfl (show ¬ ((s_wayToStop ((S 0).1 3) (r 2)) = (s_wayToStop ((S 0).1 3) (r 2))) from c_87)
                    · have c_87 : (s_wayToStop ((S 0).1 3) (r 2)) = (s_wayToStop ((S 0).1 3) (r 2)) := c_87
                      refine lv_aload_n hx hb dL_holds_164 rfl (lv_at hl 4 rfl) ?_
                      refine lv_iload_n hx hb dL_holds_165 rfl (lv_at hl 2 rfl) ?_
                      refine lv_bipush (v := 11) hx hb dL_holds_166 (by decide) ?_
                      refine qVI (al := []) (As := [.int 0, .int 11]) (rest := []) X Y (k_crane_0 hI_86 11 (nI (s_halfSwing ((S 0).1 4))) rfl) gL_holds_X7_crane rfl hdq_X7_crane ⟨Nat.le_of_ble_eq_true rfl, Nat.le_of_ble_eq_true rfl⟩ hI_86.head rfl rfl hl.1 (Nat.le_of_ble_eq_true rfl) ⟨Nat.le_of_ble_eq_true rfl, Nat.le_of_ble_eq_true rfl⟩ dL_holds_168 (fun wa_88 H locs hI_88 hw_88 Y => ?_)
                      have hW_88 := hW_86.trans hw_88
                      refine lv_aload_n hx hb dL_holds_171 rfl (lv_at hl 4 rfl) ?_
                      refine lv_aload_n hx hb dL_holds_172 rfl (lv_at hl 4 rfl) ?_
                      refine lv_iload_n hx hb dL_holds_173 rfl (lv_at hl 2 rfl) ?_
                      refine lv_iconst (v := 2) hx hb dL_holds_174 (by decide) ?_
                      refine qVI (al := []) (As := [.int 0, .int 2]) (rest := [.ref (Q 0), .int (nI (s_halfSwing ((S 0).1 4)))]) X Y (k_crane_0 hI_88 2 ((S 0).1 4) rfl) gL_holds_X7_crane rfl hdq_X7_crane ⟨Nat.le_of_ble_eq_true rfl, Nat.le_of_ble_eq_true rfl⟩ hI_88.head rfl rfl hl.1 (Nat.le_of_ble_eq_true rfl) ⟨Nat.le_of_ble_eq_true rfl, Nat.le_of_ble_eq_true rfl⟩ dL_holds_175 (fun wa_89 H locs hI_89 hw_89 Y => ?_)
                      have hW_89 := hW_88.trans hw_89
                      refine qVI (al := []) (As := [.int ((S 0).1 4)]) (rest := [.int (nI (s_halfSwing ((S 0).1 4)))]) X Y (k_half hI_89 ((S 0).1 4) (nI (s_halfSwing ((S 0).1 4))) (halfK (by omega))) gL_holds_X7_half rfl hdq_X7_half ⟨Nat.le_of_ble_eq_true rfl, Nat.le_of_ble_eq_true rfl⟩ hI_89.head rfl rfl hl.1 (Nat.le_of_ble_eq_true rfl) ⟨Nat.le_of_ble_eq_true rfl, Nat.le_of_ble_eq_true rfl⟩ dL_holds_178 (fun wa_90 H locs hI_90 hw_90 Y => ?_)
                      have hW_90 := hW_89.trans hw_90
                      refine lv_icmp_eq (tgt := 186) hx hb dL_holds_181 (by decide) (fun c_91 => ?_) (fun c_91 => ?_)
                      · have c_91 : (nI (s_halfSwing ((S 0).1 4))) = (nI (s_halfSwing ((S 0).1 4))) := c_91
                        refine lv_aload_n hx hb dL_holds_186 rfl (lv_at hl 4 rfl) ?_
                        refine lv_iload_n hx hb dL_holds_187 rfl (lv_at hl 2 rfl) ?_
                        refine lv_iconst (v := 4) hx hb dL_holds_188 (by decide) ?_
                        refine qVI (al := []) (As := [.int 0, .int 4]) (rest := []) X Y (k_crane_0 hI_90 4 ((S 0).1 6 + 100000) rfl) gL_holds_X7_crane rfl hdq_X7_crane ⟨Nat.le_of_ble_eq_true rfl, Nat.le_of_ble_eq_true rfl⟩ hI_90.head rfl rfl hl.1 (Nat.le_of_ble_eq_true rfl) ⟨Nat.le_of_ble_eq_true rfl, Nat.le_of_ble_eq_true rfl⟩ dL_holds_189 (fun wa_92 H locs hI_92 hw_92 Y => ?_)
                        have hW_92 := hW_90.trans hw_92
                        refine lv_ldc (v := 100000) hx hb X.1.1.2.2.2.1 (X.1.1.2.2.2.2 _ k_L_holds_56) dL_holds_192 ?_
                        refine bSub (v := (S 0).1 6) X.1 dL_holds_194 (addZ _) ?_
                        refine bSI (As := [.int ((S 0).1 6)]) (rest := []) X.1 Y (c_size l D cyC cyI ((S 0).1 6)) gL_holds_L_size rfl ⟨rfl, rfl⟩ hdq_L_size.2 ⟨Nat.le_of_ble_eq_true rfl, Nat.le_of_ble_eq_true rfl⟩ rfl rfl hl.1 (Nat.le_of_ble_eq_true rfl) ⟨Nat.le_of_ble_eq_true rfl, Nat.le_of_ble_eq_true rfl⟩ dL_holds_195 (fun H locs Y => ?_)
                        refine lv_sipush (v := 9999) hx hb dL_holds_198 (by decide) ?_
                        refine lv_icmp_gt (tgt := 222) hx hb dL_holds_201 (by decide) (fun c_94 => ?_) (fun c_94 => ?_)
                        · exact absurd (show 9999 < (szI ((S 0).1 6)) from c_94) (by rw [ltI, show (9999 : Int32).toInt = 9999 by decide]; have := szI_b (m := 9999) l4 (by omega); omega)
                        · have c_94 : ¬ (9999 < (szI ((S 0).1 6))) := c_94
                          refine lv_aload_n hx hb dL_holds_204 rfl (lv_at hl 4 rfl) ?_
                          refine lv_iload_n hx hb dL_holds_205 rfl (lv_at hl 2 rfl) ?_
                          refine lv_iconst (v := 5) hx hb dL_holds_206 (by decide) ?_
                          refine qVI (al := []) (As := [.int 0, .int 5]) (rest := []) X Y (k_crane_0 hI_92 5 ((S 0).1 7 + 100000) rfl) gL_holds_X7_crane rfl hdq_X7_crane ⟨Nat.le_of_ble_eq_true rfl, Nat.le_of_ble_eq_true rfl⟩ hI_92.head rfl rfl hl.1 (Nat.le_of_ble_eq_true rfl) ⟨Nat.le_of_ble_eq_true rfl, Nat.le_of_ble_eq_true rfl⟩ dL_holds_207 (fun wa_95 H locs hI_95 hw_95 Y => ?_)
                          have hW_95 := hW_92.trans hw_95
                          refine lv_ldc (v := 100000) hx hb X.1.1.2.2.2.1 (X.1.1.2.2.2.2 _ k_L_holds_56) dL_holds_210 ?_
                          refine bSub (v := (S 0).1 7) X.1 dL_holds_212 (addZ _) ?_
                          refine bSI (As := [.int ((S 0).1 7)]) (rest := []) X.1 Y (c_size l D cyC cyI ((S 0).1 7)) gL_holds_L_size rfl ⟨rfl, rfl⟩ hdq_L_size.2 ⟨Nat.le_of_ble_eq_true rfl, Nat.le_of_ble_eq_true rfl⟩ rfl rfl hl.1 (Nat.le_of_ble_eq_true rfl) ⟨Nat.le_of_ble_eq_true rfl, Nat.le_of_ble_eq_true rfl⟩ dL_holds_213 (fun H locs Y => ?_)
                          refine lv_sipush (v := 9999) hx hb dL_holds_216 (by decide) ?_
                          refine lv_icmp_le (tgt := 224) hx hb dL_holds_219 (by decide) (fun c_97 => ?_) (fun c_97 => ?_)
                          · have c_97 : (szI ((S 0).1 7)) ≤ 9999 := c_97
                            refine lv_iconst (v := 0) hx hb dL_holds_224 (by decide) ?_
                            refine lv_istore (lv' := [(5, .int 0), (4, .int ((r 3) - (((S 0).1 5) / 10))), (3, .int ((S 0).1 3)), (2, .int 0), (1, .int ((((S 0).1 14) - ((S 0).1 2)) - (r 1))), (0, .ref (Q 0))]) hx hb dL_holds_225 hl (by decide) rfl (fun ls hl => ?_)
                            refine lv_iconst (v := 0) hx hb dL_holds_227 (by decide) ?_
                            refine lv_istore (lv' := [(6, .int 0), (5, .int 0), (4, .int ((r 3) - (((S 0).1 5) / 10))), (3, .int ((S 0).1 3)), (2, .int 0), (1, .int ((((S 0).1 14) - ((S 0).1 2)) - (r 1))), (0, .ref (Q 0))]) hx hb dL_holds_228 hl (by decide) rfl (fun ls hl => ?_)
                            refine lp_hS l D cyC cyI sb sL xs hm hs htk 0 (by omega) ((((S 0).1 14) - ((S 0).1 2)) - (r 1)) ((S 0).1 3) ((r 3) - (((S 0).1 5) / 10)) X hr hlk ?_ 121 0 0 rfl (by omega) (by omega) _ _ _ _ hI_95 hW_95 (lv_sub hl [6, 5, 4, 3, 2, 1, 0] rfl) Y
                            intro wa H locs ls hI hW hl Y
                            have hl : lv_has ls 7 [(0, .ref (Q 0)), (1, .int ((((S 0).1 14) - ((S 0).1 2)) - (r 1))), (2, .int 0), (3, .int ((S 0).1 3)), (4, .int ((r 3) - (((S 0).1 5) / 10))), (5, .int ((S 0).1 0))] := hl
                            refine lv_iload hx hb dL_holds_261 (lv_at hl 5 rfl) ?_
                            refine lv_aload_n hx hb dL_holds_263 rfl (lv_at hl 0 rfl) ?_
                            refine lv_bipush (v := 6) hx hb dL_holds_264 (by decide) ?_
                            refine qVI (al := []) (As := [.int 6]) (rest := [.int ((S 0).1 0)]) X Y (k_count hI 6 ((S 0).1 0) rfl) gL_holds_X7_count rfl hdq_X7_count ⟨Nat.le_of_ble_eq_true rfl, Nat.le_of_ble_eq_true rfl⟩ hI.head rfl rfl hl.1 (Nat.le_of_ble_eq_true rfl) ⟨Nat.le_of_ble_eq_true rfl, Nat.le_of_ble_eq_true rfl⟩ dL_holds_266 (fun wa_98 H locs hI_98 hw_98 Y => ?_)
                            have hW_98 := hW.trans hw_98
                            refine lv_icmp_eq (tgt := 274) hx hb dL_holds_269 (by decide) (fun c_99 => ?_) (fun c_99 => ?_)
                            · have c_99 : ((S 0).1 0) = ((S 0).1 0) := c_99
                              refine lv_iinc (v := 1) (lv' := [(2, .int 1), (0, .ref (Q 0)), (1, .int ((((S 0).1 14) - ((S 0).1 2)) - (r 1))), (3, .int ((S 0).1 3)), (4, .int ((r 3) - (((S 0).1 5) / 10))), (5, .int ((S 0).1 0))]) hx hb dL_holds_274 hl (k := 2) rfl (by decide) (by decide) rfl (fun ls hl => ?_)
                              refine lv_goto (tgt := 61) hx hb dL_holds_277 (by decide) ?_
                              refine lv_iload_n hx hb dL_holds_61 rfl (lv_at hl 0 rfl) ?_
                              refine lv_iconst (v := 2) hx hb dL_holds_62 (by decide) ?_
                              refine lv_icmp_ge (tgt := 280) hx hb dL_holds_63 (by decide) (fun c_ => absurd c_ (by decide)) (fun _ => ?_)
                              refine lv_aload_n hx hb dL_holds_66 rfl (lv_at hl 1 rfl) ?_
                              refine lv_iload_n hx hb dL_holds_67 rfl (lv_at hl 0 rfl) ?_
                              refine lv_iconst (v := 1) hx hb dL_holds_68 (by decide) ?_
                              refine qVI (al := []) (As := [.int 1, .int 1]) (rest := []) X Y (k_crane_1 hI_98 1 ((S 0).1 15 + 100000) rfl) gL_holds_X7_crane rfl hdq_X7_crane ⟨Nat.le_of_ble_eq_true rfl, Nat.le_of_ble_eq_true rfl⟩ hI_98.head rfl rfl hl.1 (Nat.le_of_ble_eq_true rfl) ⟨Nat.le_of_ble_eq_true rfl, Nat.le_of_ble_eq_true rfl⟩ dL_holds_69 (fun wa_100 H locs hI_100 hw_100 Y => ?_)
                              have hW_100 := hW_98.trans hw_100
                              refine lv_ldc (v := 100000) hx hb X.1.1.2.2.2.1 (X.1.1.2.2.2.2 _ k_L_holds_56) dL_holds_72 ?_
                              refine bSub (v := (S 0).1 15) X.1 dL_holds_74 (addZ _) ?_
                              refine lv_istore_n (lv' := [(3, .int ((S 0).1 15)), (2, .int 1), (0, .ref (Q 0)), (1, .int ((((S 0).1 14) - ((S 0).1 2)) - (r 1))), (4, .int ((r 3) - (((S 0).1 5) / 10))), (5, .int ((S 0).1 0))]) hx hb dL_holds_75 rfl hl (by decide) rfl (fun ls hl => ?_)
                              refine lv_aload_n hx hb dL_holds_76 rfl (lv_at hl 2 rfl) ?_
                              refine lv_iconst (v := 3) hx hb dL_holds_77 (by decide) ?_
                              refine qVI (al := []) (As := [.int 3]) (rest := []) X Y (k_count hI_100 3 (r 3) rfl) gL_holds_X7_count rfl hdq_X7_count ⟨Nat.le_of_ble_eq_true rfl, Nat.le_of_ble_eq_true rfl⟩ hI_100.head rfl rfl hl.1 (Nat.le_of_ble_eq_true rfl) ⟨Nat.le_of_ble_eq_true rfl, Nat.le_of_ble_eq_true rfl⟩ dL_holds_78 (fun wa_101 H locs hI_101 hw_101 Y => ?_)
                              have hW_101 := hW_100.trans hw_101
                              refine lv_aload_n hx hb dL_holds_81 rfl (lv_at hl 2 rfl) ?_
                              refine lv_iload_n hx hb dL_holds_82 rfl (lv_at hl 1 rfl) ?_
                              refine lv_iconst (v := 3) hx hb dL_holds_83 (by decide) ?_
                              refine qVI (al := []) (As := [.int 1, .int 3]) (rest := [.int (r 3)]) X Y (k_crane_1 hI_101 3 ((S 0).1 17) rfl) gL_holds_X7_crane rfl hdq_X7_crane ⟨Nat.le_of_ble_eq_true rfl, Nat.le_of_ble_eq_true rfl⟩ hI_101.head rfl rfl hl.1 (Nat.le_of_ble_eq_true rfl) ⟨Nat.le_of_ble_eq_true rfl, Nat.le_of_ble_eq_true rfl⟩ dL_holds_84 (fun wa_102 H locs hI_102 hw_102 Y => ?_)
                              have hW_102 := hW_101.trans hw_102
                              refine lv_bipush (v := 10) hx hb dL_holds_87 (by decide) ?_
                              refine bDiv (v := ((S 0).1 17) / 10) X.1 dL_holds_89 (by decide) rfl ?_
                              refine bSub (v := (r 3) - (((S 0).1 17) / 10)) X.1 dL_holds_90 rfl ?_
                              refine lv_istore (lv' := [(4, .int ((r 3) - (((S 0).1 17) / 10))), (3, .int ((S 0).1 15)), (2, .int 1), (0, .ref (Q 0)), (1, .int ((((S 0).1 14) - ((S 0).1 2)) - (r 1))), (5, .int ((S 0).1 0))]) hx hb dL_holds_91 hl (by decide) rfl (fun ls hl => ?_)
                              refine lv_iload_n hx hb dL_holds_93 rfl (lv_at hl 1 rfl) ?_
                              refine bSI (As := [.int ((S 0).1 15)]) (rest := []) X.1 Y (c_size l D cyC cyI ((S 0).1 15)) gL_holds_L_size rfl ⟨rfl, rfl⟩ hdq_L_size.2 ⟨Nat.le_of_ble_eq_true rfl, Nat.le_of_ble_eq_true rfl⟩ rfl rfl hl.1 (Nat.le_of_ble_eq_true rfl) ⟨Nat.le_of_ble_eq_true rfl, Nat.le_of_ble_eq_true rfl⟩ dL_holds_94 (fun H locs Y => ?_)
                              refine lv_aload_n hx hb dL_holds_97 rfl (lv_at hl 3 rfl) ?_
                              refine lv_iconst (v := 3) hx hb dL_holds_98 (by decide) ?_
                              refine qVI (al := []) (As := [.int 3]) (rest := [.int (szI ((S 0).1 15))]) X Y (k_count hI_102 3 (r 3) rfl) gL_holds_X7_count rfl hdq_X7_count ⟨Nat.le_of_ble_eq_true rfl, Nat.le_of_ble_eq_true rfl⟩ hI_102.head rfl rfl hl.1 (Nat.le_of_ble_eq_true rfl) ⟨Nat.le_of_ble_eq_true rfl, Nat.le_of_ble_eq_true rfl⟩ dL_holds_99 (fun wa_104 H locs hI_104 hw_104 Y => ?_)
                              have hW_104 := hW_102.trans hw_104
                              refine lv_icmp_gt (tgt := 184) hx hb dL_holds_102 (by decide) (fun c_105 => ?_) (fun c_105 => ?_)
                              · exact absurd (show (r 3) < (szI ((S 0).1 15)) from c_105) (by rw [ltI]; have := szI_b (m := (r 3).toInt) q1 (by omega); omega)
                              · have c_105 : ¬ ((r 3) < (szI ((S 0).1 15))) := c_105
                                refine lv_aload_n hx hb dL_holds_105 rfl (lv_at hl 3 rfl) ?_
                                refine lv_iload_n hx hb dL_holds_106 rfl (lv_at hl 2 rfl) ?_
                                refine lv_iconst (v := 2) hx hb dL_holds_107 (by decide) ?_
                                refine qVI (al := []) (As := [.int 1, .int 2]) (rest := []) X Y (k_crane_1 hI_104 2 ((S 0).1 16) rfl) gL_holds_X7_crane rfl hdq_X7_crane ⟨Nat.le_of_ble_eq_true rfl, Nat.le_of_ble_eq_true rfl⟩ hI_104.head rfl rfl hl.1 (Nat.le_of_ble_eq_true rfl) ⟨Nat.le_of_ble_eq_true rfl, Nat.le_of_ble_eq_true rfl⟩ dL_holds_108 (fun wa_106 H locs hI_106 hw_106 Y => ?_)
                                have hW_106 := hW_104.trans hw_106
                                refine lv_bipush (v := 10) hx hb dL_holds_111 (by decide) ?_
                                refine lv_icmp_lt (tgt := 184) hx hb dL_holds_113 (by decide) (fun c_107 => ?_) (fun c_107 => ?_)
                                · exact absurd (show ((S 0).1 16) < 10 from c_107) (by rw [ltI, show (10 : Int32).toInt = 10 by decide]; omega)
                                · have c_107 : ¬ (((S 0).1 16) < 10) := c_107
                                  refine lv_aload_n hx hb dL_holds_116 rfl (lv_at hl 3 rfl) ?_
                                  refine lv_iload_n hx hb dL_holds_117 rfl (lv_at hl 2 rfl) ?_
                                  refine lv_iconst (v := 2) hx hb dL_holds_118 (by decide) ?_
                                  refine qVI (al := []) (As := [.int 1, .int 2]) (rest := []) X Y (k_crane_1 hI_106 2 ((S 0).1 16) rfl) gL_holds_X7_crane rfl hdq_X7_crane ⟨Nat.le_of_ble_eq_true rfl, Nat.le_of_ble_eq_true rfl⟩ hI_106.head rfl rfl hl.1 (Nat.le_of_ble_eq_true rfl) ⟨Nat.le_of_ble_eq_true rfl, Nat.le_of_ble_eq_true rfl⟩ dL_holds_119 (fun wa_108 H locs hI_108 hw_108 Y => ?_)
                                  have hW_108 := hW_106.trans hw_108
                                  refine lv_bipush (v := 60) hx hb dL_holds_122 (by decide) ?_
                                  refine lv_icmp_gt (tgt := 184) hx hb dL_holds_124 (by decide) (fun c_109 => ?_) (fun c_109 => ?_)
                                  · exact absurd (show 60 < ((S 0).1 16) from c_109) (by rw [ltI, show (60 : Int32).toInt = 60 by decide]; omega)
                                  · have c_109 : ¬ (60 < ((S 0).1 16)) := c_109
                                    refine lv_aload_n hx hb dL_holds_127 rfl (lv_at hl 3 rfl) ?_
                                    refine lv_iload_n hx hb dL_holds_128 rfl (lv_at hl 2 rfl) ?_
                                    refine lv_bipush (v := 8) hx hb dL_holds_129 (by decide) ?_
                                    refine qVI (al := []) (As := [.int 1, .int 8]) (rest := []) X Y (k_crane_1 hI_108 8 (s_limit ((S 0).1 17) (r 3)) rfl) gL_holds_X7_crane rfl hdq_X7_crane ⟨Nat.le_of_ble_eq_true rfl, Nat.le_of_ble_eq_true rfl⟩ hI_108.head rfl rfl hl.1 (Nat.le_of_ble_eq_true rfl) ⟨Nat.le_of_ble_eq_true rfl, Nat.le_of_ble_eq_true rfl⟩ dL_holds_131 (fun wa_110 H locs hI_110 hw_110 Y => ?_)
                                    have hW_110 := hW_108.trans hw_110
                                    refine lv_iload hx hb dL_holds_134 (lv_at hl 0 rfl) ?_
                                    refine lv_iconst (v := 1) hx hb dL_holds_136 (by decide) ?_
                                    refine lv_icmp_ge (tgt := 144) hx hb dL_holds_137 (by decide) (fun c_111 => ?_) (fun c_111 => ?_)
                                    · have c_111 : 1 ≤ ((r 3) - (((S 0).1 17) / 10)) := c_111
                                      refine lv_iload hx hb dL_holds_144 (lv_at hl 0 rfl) ?_
                                      refine lv_icmp_ne (tgt := 184) hx hb dL_holds_146 (by decide) (fun c_112 => ?_) (fun c_112 => ?_)
                                      · exact absurd (lim_ge c_111) (show ¬ ((s_limit ((S 0).1 17) (r 3)) = ((r 3) - (((S 0).1 17) / 10))) from c_112)
                                      · have c_112 : (s_limit ((S 0).1 17) (r 3)) = ((r 3) - (((S 0).1 17) / 10)) := c_112
                                        refine lv_aload_n hx hb dL_holds_149 rfl (lv_at hl 3 rfl) ?_
                                        refine lv_iload_n hx hb dL_holds_150 rfl (lv_at hl 2 rfl) ?_
                                        refine lv_bipush (v := 10) hx hb dL_holds_151 (by decide) ?_
                                        refine qVI (al := []) (As := [.int 1, .int 10]) (rest := []) X Y (k_crane_1 hI_110 10 (s_wayToStop ((S 0).1 15) (r 2)) rfl) gL_holds_X7_crane rfl hdq_X7_crane ⟨Nat.le_of_ble_eq_true rfl, Nat.le_of_ble_eq_true rfl⟩ hI_110.head rfl rfl hl.1 (Nat.le_of_ble_eq_true rfl) ⟨Nat.le_of_ble_eq_true rfl, Nat.le_of_ble_eq_true rfl⟩ dL_holds_153 (fun wa_113 H locs hI_113 hw_113 Y => ?_)
                                        have hW_113 := hW_110.trans hw_113
                                        refine lv_aload_n hx hb dL_holds_156 rfl (lv_at hl 3 rfl) ?_
                                        refine lv_iload_n hx hb dL_holds_157 rfl (lv_at hl 1 rfl) ?_
                                        refine qVI (al := []) (As := [.int ((S 0).1 15)]) (rest := [.int (s_wayToStop ((S 0).1 15) (r 2))]) X Y (k_stop hI_113 ((S 0).1 15) (s_wayToStop ((S 0).1 15) (r 2)) (stopK (by omega))) gL_holds_X7_stop rfl hdq_X7_stop ⟨Nat.le_of_ble_eq_true rfl, Nat.le_of_ble_eq_true rfl⟩ hI_113.head rfl rfl hl.1 (Nat.le_of_ble_eq_true rfl) ⟨Nat.le_of_ble_eq_true rfl, Nat.le_of_ble_eq_true rfl⟩ dL_holds_158 (fun wa_114 H locs hI_114 hw_114 Y => ?_)
                                        have hW_114 := hW_113.trans hw_114
                                        refine lv_icmp_ne (tgt := 184) hx hb dL_holds_161 (by decide) (fun c_115 => ?_) (fun c_115 => ?_)
                                        · exact absurd rfl (show ¬ ((s_wayToStop ((S 0).1 15) (r 2)) = (s_wayToStop ((S 0).1 15) (r 2))) from c_115)
                                        · have c_115 : (s_wayToStop ((S 0).1 15) (r 2)) = (s_wayToStop ((S 0).1 15) (r 2)) := c_115
                                          refine lv_aload_n hx hb dL_holds_164 rfl (lv_at hl 3 rfl) ?_
                                          refine lv_iload_n hx hb dL_holds_165 rfl (lv_at hl 2 rfl) ?_
                                          refine lv_bipush (v := 11) hx hb dL_holds_166 (by decide) ?_
                                          refine qVI (al := []) (As := [.int 1, .int 11]) (rest := []) X Y (k_crane_1 hI_114 11 (nI (s_halfSwing ((S 0).1 16))) rfl) gL_holds_X7_crane rfl hdq_X7_crane ⟨Nat.le_of_ble_eq_true rfl, Nat.le_of_ble_eq_true rfl⟩ hI_114.head rfl rfl hl.1 (Nat.le_of_ble_eq_true rfl) ⟨Nat.le_of_ble_eq_true rfl, Nat.le_of_ble_eq_true rfl⟩ dL_holds_168 (fun wa_116 H locs hI_116 hw_116 Y => ?_)
                                          have hW_116 := hW_114.trans hw_116
                                          refine lv_aload_n hx hb dL_holds_171 rfl (lv_at hl 3 rfl) ?_
                                          refine lv_aload_n hx hb dL_holds_172 rfl (lv_at hl 3 rfl) ?_
                                          refine lv_iload_n hx hb dL_holds_173 rfl (lv_at hl 2 rfl) ?_
                                          refine lv_iconst (v := 2) hx hb dL_holds_174 (by decide) ?_
                                          refine qVI (al := []) (As := [.int 1, .int 2]) (rest := [.ref (Q 0), .int (nI (s_halfSwing ((S 0).1 16)))]) X Y (k_crane_1 hI_116 2 ((S 0).1 16) rfl) gL_holds_X7_crane rfl hdq_X7_crane ⟨Nat.le_of_ble_eq_true rfl, Nat.le_of_ble_eq_true rfl⟩ hI_116.head rfl rfl hl.1 (Nat.le_of_ble_eq_true rfl) ⟨Nat.le_of_ble_eq_true rfl, Nat.le_of_ble_eq_true rfl⟩ dL_holds_175 (fun wa_117 H locs hI_117 hw_117 Y => ?_)
                                          have hW_117 := hW_116.trans hw_117
                                          refine qVI (al := []) (As := [.int ((S 0).1 16)]) (rest := [.int (nI (s_halfSwing ((S 0).1 16)))]) X Y (k_half hI_117 ((S 0).1 16) (nI (s_halfSwing ((S 0).1 16))) (halfK (by omega))) gL_holds_X7_half rfl hdq_X7_half ⟨Nat.le_of_ble_eq_true rfl, Nat.le_of_ble_eq_true rfl⟩ hI_117.head rfl rfl hl.1 (Nat.le_of_ble_eq_true rfl) ⟨Nat.le_of_ble_eq_true rfl, Nat.le_of_ble_eq_true rfl⟩ dL_holds_178 (fun wa_118 H locs hI_118 hw_118 Y => ?_)
                                          have hW_118 := hW_117.trans hw_118
                                          refine lv_icmp_eq (tgt := 186) hx hb dL_holds_181 (by decide) (fun c_119 => ?_) (fun c_119 => ?_)
                                          · have c_119 : (nI (s_halfSwing ((S 0).1 16))) = (nI (s_halfSwing ((S 0).1 16))) := c_119
                                            refine lv_aload_n hx hb dL_holds_186 rfl (lv_at hl 3 rfl) ?_
                                            refine lv_iload_n hx hb dL_holds_187 rfl (lv_at hl 2 rfl) ?_
                                            refine lv_iconst (v := 4) hx hb dL_holds_188 (by decide) ?_
                                            refine qVI (al := []) (As := [.int 1, .int 4]) (rest := []) X Y (k_crane_1 hI_118 4 ((S 0).1 18 + 100000) rfl) gL_holds_X7_crane rfl hdq_X7_crane ⟨Nat.le_of_ble_eq_true rfl, Nat.le_of_ble_eq_true rfl⟩ hI_118.head rfl rfl hl.1 (Nat.le_of_ble_eq_true rfl) ⟨Nat.le_of_ble_eq_true rfl, Nat.le_of_ble_eq_true rfl⟩ dL_holds_189 (fun wa_120 H locs hI_120 hw_120 Y => ?_)
                                            have hW_120 := hW_118.trans hw_120
                                            refine lv_ldc (v := 100000) hx hb X.1.1.2.2.2.1 (X.1.1.2.2.2.2 _ k_L_holds_56) dL_holds_192 ?_
                                            refine bSub (v := (S 0).1 18) X.1 dL_holds_194 (addZ _) ?_
                                            refine bSI (As := [.int ((S 0).1 18)]) (rest := []) X.1 Y (c_size l D cyC cyI ((S 0).1 18)) gL_holds_L_size rfl ⟨rfl, rfl⟩ hdq_L_size.2 ⟨Nat.le_of_ble_eq_true rfl, Nat.le_of_ble_eq_true rfl⟩ rfl rfl hl.1 (Nat.le_of_ble_eq_true rfl) ⟨Nat.le_of_ble_eq_true rfl, Nat.le_of_ble_eq_true rfl⟩ dL_holds_195 (fun H locs Y => ?_)
                                            refine lv_sipush (v := 9999) hx hb dL_holds_198 (by decide) ?_
                                            refine lv_icmp_gt (tgt := 222) hx hb dL_holds_201 (by decide) (fun c_122 => ?_) (fun c_122 => ?_)
                                            · exact absurd (show 9999 < (szI ((S 0).1 18)) from c_122) (by rw [ltI, show (9999 : Int32).toInt = 9999 by decide]; have := szI_b (m := 9999) q4 (by omega); omega)
                                            · have c_122 : ¬ (9999 < (szI ((S 0).1 18))) := c_122
                                              refine lv_aload_n hx hb dL_holds_204 rfl (lv_at hl 3 rfl) ?_
                                              refine lv_iload_n hx hb dL_holds_205 rfl (lv_at hl 2 rfl) ?_
                                              refine lv_iconst (v := 5) hx hb dL_holds_206 (by decide) ?_
                                              refine qVI (al := []) (As := [.int 1, .int 5]) (rest := []) X Y (k_crane_1 hI_120 5 ((S 0).1 19 + 100000) rfl) gL_holds_X7_crane rfl hdq_X7_crane ⟨Nat.le_of_ble_eq_true rfl, Nat.le_of_ble_eq_true rfl⟩ hI_120.head rfl rfl hl.1 (Nat.le_of_ble_eq_true rfl) ⟨Nat.le_of_ble_eq_true rfl, Nat.le_of_ble_eq_true rfl⟩ dL_holds_207 (fun wa_123 H locs hI_123 hw_123 Y => ?_)
                                              have hW_123 := hW_120.trans hw_123
                                              refine lv_ldc (v := 100000) hx hb X.1.1.2.2.2.1 (X.1.1.2.2.2.2 _ k_L_holds_56) dL_holds_210 ?_
                                              refine bSub (v := (S 0).1 19) X.1 dL_holds_212 (addZ _) ?_
                                              refine bSI (As := [.int ((S 0).1 19)]) (rest := []) X.1 Y (c_size l D cyC cyI ((S 0).1 19)) gL_holds_L_size rfl ⟨rfl, rfl⟩ hdq_L_size.2 ⟨Nat.le_of_ble_eq_true rfl, Nat.le_of_ble_eq_true rfl⟩ rfl rfl hl.1 (Nat.le_of_ble_eq_true rfl) ⟨Nat.le_of_ble_eq_true rfl, Nat.le_of_ble_eq_true rfl⟩ dL_holds_213 (fun H locs Y => ?_)
                                              refine lv_sipush (v := 9999) hx hb dL_holds_216 (by decide) ?_
                                              refine lv_icmp_le (tgt := 224) hx hb dL_holds_219 (by decide) (fun c_125 => ?_) (fun c_125 => ?_)
                                              · have c_125 : (szI ((S 0).1 19)) ≤ 9999 := c_125
                                                refine lv_iconst (v := 0) hx hb dL_holds_224 (by decide) ?_
                                                refine lv_istore (lv' := [(5, .int 0), (4, .int ((r 3) - (((S 0).1 17) / 10))), (3, .int ((S 0).1 15)), (2, .int 1), (0, .ref (Q 0)), (1, .int ((((S 0).1 14) - ((S 0).1 2)) - (r 1)))]) hx hb dL_holds_225 hl (by decide) rfl (fun ls hl => ?_)
                                                refine lv_iconst (v := 0) hx hb dL_holds_227 (by decide) ?_
                                                refine lv_istore (lv' := [(6, .int 0), (5, .int 0), (4, .int ((r 3) - (((S 0).1 17) / 10))), (3, .int ((S 0).1 15)), (2, .int 1), (0, .ref (Q 0)), (1, .int ((((S 0).1 14) - ((S 0).1 2)) - (r 1)))]) hx hb dL_holds_228 hl (by decide) rfl (fun ls hl => ?_)
                                                refine lp_hS l D cyC cyI sb sL xs hm hs htk 1 (by omega) ((((S 0).1 14) - ((S 0).1 2)) - (r 1)) ((S 0).1 15) ((r 3) - (((S 0).1 17) / 10)) X hr hlk ?_ 121 0 0 rfl (by omega) (by omega) _ _ _ _ hI_123 hW_123 (lv_sub hl [5, 6, 4, 3, 2, 1, 0] rfl) Y
                                                intro wa H locs ls hI hW hl Y
                                                have hl : lv_has ls 7 [(0, .ref (Q 0)), (1, .int ((((S 0).1 14) - ((S 0).1 2)) - (r 1))), (2, .int 1), (3, .int ((S 0).1 15)), (4, .int ((r 3) - (((S 0).1 17) / 10))), (5, .int ((S 0).1 0))] := hl
                                                refine lv_iload hx hb dL_holds_261 (lv_at hl 5 rfl) ?_
                                                refine lv_aload_n hx hb dL_holds_263 rfl (lv_at hl 0 rfl) ?_
                                                refine lv_bipush (v := 6) hx hb dL_holds_264 (by decide) ?_
                                                refine qVI (al := []) (As := [.int 6]) (rest := [.int ((S 0).1 0)]) X Y (k_count hI 6 ((S 0).1 0) rfl) gL_holds_X7_count rfl hdq_X7_count ⟨Nat.le_of_ble_eq_true rfl, Nat.le_of_ble_eq_true rfl⟩ hI.head rfl rfl hl.1 (Nat.le_of_ble_eq_true rfl) ⟨Nat.le_of_ble_eq_true rfl, Nat.le_of_ble_eq_true rfl⟩ dL_holds_266 (fun wa_126 H locs hI_126 hw_126 Y => ?_)
                                                have hW_126 := hW.trans hw_126
                                                refine lv_icmp_eq (tgt := 274) hx hb dL_holds_269 (by decide) (fun c_127 => ?_) (fun c_127 => ?_)
                                                · have c_127 : ((S 0).1 0) = ((S 0).1 0) := c_127
                                                  refine lv_iinc (v := 2) (lv' := [(2, .int 2), (0, .ref (Q 0)), (1, .int ((((S 0).1 14) - ((S 0).1 2)) - (r 1))), (3, .int ((S 0).1 15)), (4, .int ((r 3) - (((S 0).1 17) / 10))), (5, .int ((S 0).1 0))]) hx hb dL_holds_274 hl (k := 2) rfl (by decide) (by decide) rfl (fun ls hl => ?_)
                                                  refine lv_goto (tgt := 61) hx hb dL_holds_277 (by decide) ?_
                                                  refine lv_iload_n hx hb dL_holds_61 rfl (lv_at hl 0 rfl) ?_
                                                  refine lv_iconst (v := 2) hx hb dL_holds_62 (by decide) ?_
                                                  refine lv_icmp_ge (tgt := 280) hx hb dL_holds_63 (by decide) (fun _ => ?_) (fun c_ => absurd (by decide) c_)
                                                  refine lv_iconst (v := 1) hx hb dL_holds_280 (by decide) ?_
                                                  exact qEndZ X Y hr hlk dL_holds_281 rfl (⟨rfl, hI_126⟩) hW_126 (Nat.le_of_ble_eq_true rfl) (Nat.le_of_ble_eq_true rfl)
                                                · exact absurd rfl (show ¬ (((S 0).1 0) = ((S 0).1 0)) from c_127)
                                              · exact absurd (by rw [leI, show (9999 : Int32).toInt = 9999 by decide]; have := szI_b (m := 9999) q5 (by omega); omega) (show ¬ ((szI ((S 0).1 19)) ≤ 9999) from c_125)
                                          · exact absurd rfl (show ¬ ((nI (s_halfSwing ((S 0).1 16))) = (nI (s_halfSwing ((S 0).1 16)))) from c_119)
                                    · have c_111 : ¬ (1 ≤ ((r 3) - (((S 0).1 17) / 10))) := c_111
                                      refine lv_iconst (v := 1) hx hb dL_holds_140 (by decide) ?_
                                      refine lv_goto (tgt := 146) hx hb dL_holds_141 (by decide) ?_
                                      refine lv_icmp_ne (tgt := 184) hx hb dL_holds_146 (by decide) (fun c_128 => ?_) (fun c_128 => ?_)
                                      · exact absurd (lim_lt c_111) (show ¬ ((s_limit ((S 0).1 17) (r 3)) = 1) from c_128)
                                      · have c_128 : (s_limit ((S 0).1 17) (r 3)) = 1 := c_128
                                        refine lv_aload_n hx hb dL_holds_149 rfl (lv_at hl 3 rfl) ?_
                                        refine lv_iload_n hx hb dL_holds_150 rfl (lv_at hl 2 rfl) ?_
                                        refine lv_bipush (v := 10) hx hb dL_holds_151 (by decide) ?_
                                        refine qVI (al := []) (As := [.int 1, .int 10]) (rest := []) X Y (k_crane_1 hI_110 10 (s_wayToStop ((S 0).1 15) (r 2)) rfl) gL_holds_X7_crane rfl hdq_X7_crane ⟨Nat.le_of_ble_eq_true rfl, Nat.le_of_ble_eq_true rfl⟩ hI_110.head rfl rfl hl.1 (Nat.le_of_ble_eq_true rfl) ⟨Nat.le_of_ble_eq_true rfl, Nat.le_of_ble_eq_true rfl⟩ dL_holds_153 (fun wa_129 H locs hI_129 hw_129 Y => ?_)
                                        have hW_129 := hW_110.trans hw_129
                                        refine lv_aload_n hx hb dL_holds_156 rfl (lv_at hl 3 rfl) ?_
                                        refine lv_iload_n hx hb dL_holds_157 rfl (lv_at hl 1 rfl) ?_
                                        refine qVI (al := []) (As := [.int ((S 0).1 15)]) (rest := [.int (s_wayToStop ((S 0).1 15) (r 2))]) X Y (k_stop hI_129 ((S 0).1 15) (s_wayToStop ((S 0).1 15) (r 2)) (stopK (by omega))) gL_holds_X7_stop rfl hdq_X7_stop ⟨Nat.le_of_ble_eq_true rfl, Nat.le_of_ble_eq_true rfl⟩ hI_129.head rfl rfl hl.1 (Nat.le_of_ble_eq_true rfl) ⟨Nat.le_of_ble_eq_true rfl, Nat.le_of_ble_eq_true rfl⟩ dL_holds_158 (fun wa_130 H locs hI_130 hw_130 Y => ?_)
                                        have hW_130 := hW_129.trans hw_130
                                        refine lv_icmp_ne (tgt := 184) hx hb dL_holds_161 (by decide) (fun c_131 => ?_) (fun c_131 => ?_)
                                        · exact absurd rfl (show ¬ ((s_wayToStop ((S 0).1 15) (r 2)) = (s_wayToStop ((S 0).1 15) (r 2))) from c_131)
                                        · have c_131 : (s_wayToStop ((S 0).1 15) (r 2)) = (s_wayToStop ((S 0).1 15) (r 2)) := c_131
                                          refine lv_aload_n hx hb dL_holds_164 rfl (lv_at hl 3 rfl) ?_
                                          refine lv_iload_n hx hb dL_holds_165 rfl (lv_at hl 2 rfl) ?_
                                          refine lv_bipush (v := 11) hx hb dL_holds_166 (by decide) ?_
                                          refine qVI (al := []) (As := [.int 1, .int 11]) (rest := []) X Y (k_crane_1 hI_130 11 (nI (s_halfSwing ((S 0).1 16))) rfl) gL_holds_X7_crane rfl hdq_X7_crane ⟨Nat.le_of_ble_eq_true rfl, Nat.le_of_ble_eq_true rfl⟩ hI_130.head rfl rfl hl.1 (Nat.le_of_ble_eq_true rfl) ⟨Nat.le_of_ble_eq_true rfl, Nat.le_of_ble_eq_true rfl⟩ dL_holds_168 (fun wa_132 H locs hI_132 hw_132 Y => ?_)
                                          have hW_132 := hW_130.trans hw_132
                                          refine lv_aload_n hx hb dL_holds_171 rfl (lv_at hl 3 rfl) ?_
                                          refine lv_aload_n hx hb dL_holds_172 rfl (lv_at hl 3 rfl) ?_
                                          refine lv_iload_n hx hb dL_holds_173 rfl (lv_at hl 2 rfl) ?_
                                          refine lv_iconst (v := 2) hx hb dL_holds_174 (by decide) ?_
                                          refine qVI (al := []) (As := [.int 1, .int 2]) (rest := [.ref (Q 0), .int (nI (s_halfSwing ((S 0).1 16)))]) X Y (k_crane_1 hI_132 2 ((S 0).1 16) rfl) gL_holds_X7_crane rfl hdq_X7_crane ⟨Nat.le_of_ble_eq_true rfl, Nat.le_of_ble_eq_true rfl⟩ hI_132.head rfl rfl hl.1 (Nat.le_of_ble_eq_true rfl) ⟨Nat.le_of_ble_eq_true rfl, Nat.le_of_ble_eq_true rfl⟩ dL_holds_175 (fun wa_133 H locs hI_133 hw_133 Y => ?_)
                                          have hW_133 := hW_132.trans hw_133
                                          refine qVI (al := []) (As := [.int ((S 0).1 16)]) (rest := [.int (nI (s_halfSwing ((S 0).1 16)))]) X Y (k_half hI_133 ((S 0).1 16) (nI (s_halfSwing ((S 0).1 16))) (halfK (by omega))) gL_holds_X7_half rfl hdq_X7_half ⟨Nat.le_of_ble_eq_true rfl, Nat.le_of_ble_eq_true rfl⟩ hI_133.head rfl rfl hl.1 (Nat.le_of_ble_eq_true rfl) ⟨Nat.le_of_ble_eq_true rfl, Nat.le_of_ble_eq_true rfl⟩ dL_holds_178 (fun wa_134 H locs hI_134 hw_134 Y => ?_)
                                          have hW_134 := hW_133.trans hw_134
                                          refine lv_icmp_eq (tgt := 186) hx hb dL_holds_181 (by decide) (fun c_135 => ?_) (fun c_135 => ?_)
                                          · have c_135 : (nI (s_halfSwing ((S 0).1 16))) = (nI (s_halfSwing ((S 0).1 16))) := c_135
                                            refine lv_aload_n hx hb dL_holds_186 rfl (lv_at hl 3 rfl) ?_
                                            refine lv_iload_n hx hb dL_holds_187 rfl (lv_at hl 2 rfl) ?_
                                            refine lv_iconst (v := 4) hx hb dL_holds_188 (by decide) ?_
                                            refine qVI (al := []) (As := [.int 1, .int 4]) (rest := []) X Y (k_crane_1 hI_134 4 ((S 0).1 18 + 100000) rfl) gL_holds_X7_crane rfl hdq_X7_crane ⟨Nat.le_of_ble_eq_true rfl, Nat.le_of_ble_eq_true rfl⟩ hI_134.head rfl rfl hl.1 (Nat.le_of_ble_eq_true rfl) ⟨Nat.le_of_ble_eq_true rfl, Nat.le_of_ble_eq_true rfl⟩ dL_holds_189 (fun wa_136 H locs hI_136 hw_136 Y => ?_)
                                            have hW_136 := hW_134.trans hw_136
                                            refine lv_ldc (v := 100000) hx hb X.1.1.2.2.2.1 (X.1.1.2.2.2.2 _ k_L_holds_56) dL_holds_192 ?_
                                            refine bSub (v := (S 0).1 18) X.1 dL_holds_194 (addZ _) ?_
                                            refine bSI (As := [.int ((S 0).1 18)]) (rest := []) X.1 Y (c_size l D cyC cyI ((S 0).1 18)) gL_holds_L_size rfl ⟨rfl, rfl⟩ hdq_L_size.2 ⟨Nat.le_of_ble_eq_true rfl, Nat.le_of_ble_eq_true rfl⟩ rfl rfl hl.1 (Nat.le_of_ble_eq_true rfl) ⟨Nat.le_of_ble_eq_true rfl, Nat.le_of_ble_eq_true rfl⟩ dL_holds_195 (fun H locs Y => ?_)
                                            refine lv_sipush (v := 9999) hx hb dL_holds_198 (by decide) ?_
                                            refine lv_icmp_gt (tgt := 222) hx hb dL_holds_201 (by decide) (fun c_138 => ?_) (fun c_138 => ?_)
                                            · exact absurd (show 9999 < (szI ((S 0).1 18)) from c_138) (by rw [ltI, show (9999 : Int32).toInt = 9999 by decide]; have := szI_b (m := 9999) q4 (by omega); omega)
                                            · have c_138 : ¬ (9999 < (szI ((S 0).1 18))) := c_138
                                              refine lv_aload_n hx hb dL_holds_204 rfl (lv_at hl 3 rfl) ?_
                                              refine lv_iload_n hx hb dL_holds_205 rfl (lv_at hl 2 rfl) ?_
                                              refine lv_iconst (v := 5) hx hb dL_holds_206 (by decide) ?_
                                              refine qVI (al := []) (As := [.int 1, .int 5]) (rest := []) X Y (k_crane_1 hI_136 5 ((S 0).1 19 + 100000) rfl) gL_holds_X7_crane rfl hdq_X7_crane ⟨Nat.le_of_ble_eq_true rfl, Nat.le_of_ble_eq_true rfl⟩ hI_136.head rfl rfl hl.1 (Nat.le_of_ble_eq_true rfl) ⟨Nat.le_of_ble_eq_true rfl, Nat.le_of_ble_eq_true rfl⟩ dL_holds_207 (fun wa_139 H locs hI_139 hw_139 Y => ?_)
                                              have hW_139 := hW_136.trans hw_139
                                              refine lv_ldc (v := 100000) hx hb X.1.1.2.2.2.1 (X.1.1.2.2.2.2 _ k_L_holds_56) dL_holds_210 ?_
                                              refine bSub (v := (S 0).1 19) X.1 dL_holds_212 (addZ _) ?_
                                              refine bSI (As := [.int ((S 0).1 19)]) (rest := []) X.1 Y (c_size l D cyC cyI ((S 0).1 19)) gL_holds_L_size rfl ⟨rfl, rfl⟩ hdq_L_size.2 ⟨Nat.le_of_ble_eq_true rfl, Nat.le_of_ble_eq_true rfl⟩ rfl rfl hl.1 (Nat.le_of_ble_eq_true rfl) ⟨Nat.le_of_ble_eq_true rfl, Nat.le_of_ble_eq_true rfl⟩ dL_holds_213 (fun H locs Y => ?_)
                                              refine lv_sipush (v := 9999) hx hb dL_holds_216 (by decide) ?_
                                              refine lv_icmp_le (tgt := 224) hx hb dL_holds_219 (by decide) (fun c_141 => ?_) (fun c_141 => ?_)
                                              · have c_141 : (szI ((S 0).1 19)) ≤ 9999 := c_141
                                                refine lv_iconst (v := 0) hx hb dL_holds_224 (by decide) ?_
                                                refine lv_istore (lv' := [(5, .int 0), (4, .int ((r 3) - (((S 0).1 17) / 10))), (3, .int ((S 0).1 15)), (2, .int 1), (0, .ref (Q 0)), (1, .int ((((S 0).1 14) - ((S 0).1 2)) - (r 1)))]) hx hb dL_holds_225 hl (by decide) rfl (fun ls hl => ?_)
                                                refine lv_iconst (v := 0) hx hb dL_holds_227 (by decide) ?_
                                                refine lv_istore (lv' := [(6, .int 0), (5, .int 0), (4, .int ((r 3) - (((S 0).1 17) / 10))), (3, .int ((S 0).1 15)), (2, .int 1), (0, .ref (Q 0)), (1, .int ((((S 0).1 14) - ((S 0).1 2)) - (r 1)))]) hx hb dL_holds_228 hl (by decide) rfl (fun ls hl => ?_)
                                                refine lp_hS l D cyC cyI sb sL xs hm hs htk 1 (by omega) ((((S 0).1 14) - ((S 0).1 2)) - (r 1)) ((S 0).1 15) ((r 3) - (((S 0).1 17) / 10)) X hr hlk ?_ 121 0 0 rfl (by omega) (by omega) _ _ _ _ hI_139 hW_139 (lv_sub hl [5, 6, 4, 3, 2, 1, 0] rfl) Y
                                                intro wa H locs ls hI hW hl Y
                                                have hl : lv_has ls 7 [(0, .ref (Q 0)), (1, .int ((((S 0).1 14) - ((S 0).1 2)) - (r 1))), (2, .int 1), (3, .int ((S 0).1 15)), (4, .int ((r 3) - (((S 0).1 17) / 10))), (5, .int ((S 0).1 0))] := hl
                                                refine lv_iload hx hb dL_holds_261 (lv_at hl 5 rfl) ?_
                                                refine lv_aload_n hx hb dL_holds_263 rfl (lv_at hl 0 rfl) ?_
                                                refine lv_bipush (v := 6) hx hb dL_holds_264 (by decide) ?_
                                                refine qVI (al := []) (As := [.int 6]) (rest := [.int ((S 0).1 0)]) X Y (k_count hI 6 ((S 0).1 0) rfl) gL_holds_X7_count rfl hdq_X7_count ⟨Nat.le_of_ble_eq_true rfl, Nat.le_of_ble_eq_true rfl⟩ hI.head rfl rfl hl.1 (Nat.le_of_ble_eq_true rfl) ⟨Nat.le_of_ble_eq_true rfl, Nat.le_of_ble_eq_true rfl⟩ dL_holds_266 (fun wa_142 H locs hI_142 hw_142 Y => ?_)
                                                have hW_142 := hW.trans hw_142
                                                refine lv_icmp_eq (tgt := 274) hx hb dL_holds_269 (by decide) (fun c_143 => ?_) (fun c_143 => ?_)
                                                · have c_143 : ((S 0).1 0) = ((S 0).1 0) := c_143
                                                  refine lv_iinc (v := 2) (lv' := [(2, .int 2), (0, .ref (Q 0)), (1, .int ((((S 0).1 14) - ((S 0).1 2)) - (r 1))), (3, .int ((S 0).1 15)), (4, .int ((r 3) - (((S 0).1 17) / 10))), (5, .int ((S 0).1 0))]) hx hb dL_holds_274 hl (k := 2) rfl (by decide) (by decide) rfl (fun ls hl => ?_)
                                                  refine lv_goto (tgt := 61) hx hb dL_holds_277 (by decide) ?_
                                                  refine lv_iload_n hx hb dL_holds_61 rfl (lv_at hl 0 rfl) ?_
                                                  refine lv_iconst (v := 2) hx hb dL_holds_62 (by decide) ?_
                                                  refine lv_icmp_ge (tgt := 280) hx hb dL_holds_63 (by decide) (fun _ => ?_) (fun c_ => absurd (by decide) c_)
                                                  refine lv_iconst (v := 1) hx hb dL_holds_280 (by decide) ?_
                                                  exact qEndZ X Y hr hlk dL_holds_281 rfl (⟨rfl, hI_142⟩) hW_142 (Nat.le_of_ble_eq_true rfl) (Nat.le_of_ble_eq_true rfl)
                                                · exact absurd rfl (show ¬ (((S 0).1 0) = ((S 0).1 0)) from c_143)
                                              · exact absurd (by rw [leI, show (9999 : Int32).toInt = 9999 by decide]; have := szI_b (m := 9999) q5 (by omega); omega) (show ¬ ((szI ((S 0).1 19)) ≤ 9999) from c_141)
                                          · exact absurd rfl (show ¬ ((nI (s_halfSwing ((S 0).1 16))) = (nI (s_halfSwing ((S 0).1 16)))) from c_135)
                            · exact absurd rfl (show ¬ (((S 0).1 0) = ((S 0).1 0)) from c_99)
                          · exact absurd (by rw [leI, show (9999 : Int32).toInt = 9999 by decide]; have := szI_b (m := 9999) l5 (by omega); omega) (show ¬ ((szI ((S 0).1 7)) ≤ 9999) from c_97)
                      · exact absurd rfl (show ¬ ((nI (s_halfSwing ((S 0).1 4))) = (nI (s_halfSwing ((S 0).1 4)))) from c_91)
        · exact absurd rfl (show ¬ ((((S 0).1 14 - (S 0).1 2) - r 1) = ((((S 0).1 14) - ((S 0).1 2)) - (r 1))) from c_11)
