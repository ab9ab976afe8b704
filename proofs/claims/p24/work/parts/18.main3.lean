theorem bNlt {j k : Nat} {x : Int32} (hx : x = nI k) (hj : j < 2 ^ 31) (hk : k < 2 ^ 31) (h : ¬ x < nI j) : j ≤ k := Nat.le_of_not_lt fun q => h (by rw [hx]; exact (bLtN hk hj).mpr q)
theorem i_X7_ahead_X7 : ∀ w ∈ wsX70, w ∈ wsX7_ahead := by decide +kernel
theorem f_X7_ahead_19 : Cond.fieldLink RX7 19 "SwingCranes" "trial" "LSwingCranes$Pair;" ∈ wsX7_ahead := by decide +kernel
theorem f_X7_ahead_36 : Cond.fieldLink RX7 36 "SwingCranes" "now" "LSwingCranes$Story;" ∈ wsX7_ahead := by decide +kernel
theorem i_X7_ahead_X5 : ∀ w ∈ wsX50, w ∈ wsX7_ahead := by decide +kernel
theorem f_X7_ahead_95 : Cond.fieldLink RX7 95 "SwingCranes$Story" "pair" "LSwingCranes$Pair;" ∈ wsX7_ahead := by decide +kernel
theorem i_X7_ahead_X0 : ∀ w ∈ wsX00, w ∈ wsX7_ahead := by decide +kernel
theorem f_X7_ahead_138 : Cond.fieldLink RX7 138 "SwingCranes$Crane" "place" "I" ∈ wsX7_ahead := by decide +kernel
theorem f_X7_ahead_141 : Cond.fieldLink RX7 141 "SwingCranes$Crane" "speed" "I" ∈ wsX7_ahead := by decide +kernel
theorem k_X7_ahead_144 : Cond.constant RX7 144 (100000) ∈ wsX7_ahead := by decide +kernel
theorem f_X7_ahead_145 : Cond.fieldLink RX7 145 "SwingCranes$Crane" "rope" "I" ∈ wsX7_ahead := by decide +kernel
theorem f_X7_ahead_148 : Cond.fieldLink RX7 148 "SwingCranes$Crane" "swing" "I" ∈ wsX7_ahead := by decide +kernel
theorem f_X7_ahead_26 : Cond.fieldLink RX7 26 "SwingCranes" "rules" "LSwingCranes$Layout;" ∈ wsX7_ahead := by decide +kernel
theorem m_X7_ahead_209 : Cond.methodLink RX7 209 Lib.Math.abs.name ∈ wsX7_ahead := by decide +kernel
theorem ms_X7_ahead_abs : Cond.static Lib.Math.abs.name ∈ wsX7_ahead := by decide +kernel
theorem mi_X7_ahead : Cond.initialized "java/lang/Math" ∈ wsX7_ahead := by decide +kernel
theorem mc_X7_ahead_abs : Cond.code Lib.Math.abs.name Lib.Math.abs.code 1 (some .int) ∈ wsX7_ahead := by decide +kernel
theorem m_X7_ahead_214 : Cond.methodLink RX7 214 Lib.Math.max.name ∈ wsX7_ahead := by decide +kernel
theorem ms_X7_ahead_max : Cond.static Lib.Math.max.name ∈ wsX7_ahead := by decide +kernel
theorem mc_X7_ahead_max : Cond.code Lib.Math.max.name Lib.Math.max.code 2 (some .int) ∈ wsX7_ahead := by decide +kernel
theorem f_X7_ahead_217 : Cond.fieldLink RX7 217 "SwingCranes$Crane" "braked" "Z" ∈ wsX7_ahead := by decide +kernel
def g_ahead_0 (nv : Int32) (nl3 : Int32) (nl7 : Int32) (nr3 : Int32) (nr7 : Int32) (r0 : Int32) (r1 : Int32) (r2 : Int32) (r3 : Int32) (r4 : Int32) (tn : Int32) (what : Int32) : Nat → Nat → Int32 → Int32 → Int32 → Int32 → Int32 → Int32 → Int32 → Int32 → Int32 → Int32 → Int32 → Int32 → Bool → Int32 → Int32 → Int32 → Int32 → Int32 → Int32 → Int32 → Int32 → Int32 → Int32 → Bool → Int32 × Int32 × Int32 × Int32 × Int32 × Int32 × Int32 × Int32 × Int32 × Int32 × Int32 × Int32 × Int32 × Int32 × Bool × Int32 × Int32 × Int32 × Int32 × Int32 × Int32 × Int32 × Int32 × Int32 × Int32 × Int32 × Int32 × Bool
  | 0, _, _, _, _, _, _, _, _, _, _, _, _, _, _, _, _, _, _, _, _, _, _, _, _, _ => (0, 0, 0, 0, 0, 0, 0, 0, 0, 0, 0, 0, 0, 0, false, 0, 0, 0, 0, 0, 0, 0, 0, 0, 0, 0, 0, false)
  | n_ + 1, j, gr_, br, wl0, wl1, wl2, wl4, wl5, wl6, wl8, wl9, wl10, wl11, wlb, wr0, wr1, wr2, wr4, wr5, wr6, wr8, wr9, wr10, wr11, wrb =>
    if tn ≤ nI j then
      if what = 0 then
        (wl0, nv, wl0, wl1, wl2, nl3, wl4, wl5, wl6, nl7, wl8, wl9, wl10, wl11, wlb, wr0, wr1, wr2, nr3, wr4, wr5, wr6, nr7, wr8, wr9, wr10, wr11, wrb)
      else
        if what = 1 then
          (wl1 + 100000, nv, wl0, wl1, wl2, nl3, wl4, wl5, wl6, nl7, wl8, wl9, wl10, wl11, wlb, wr0, wr1, wr2, nr3, wr4, wr5, wr6, nr7, wr8, wr9, wr10, wr11, wrb)
        else
          if what = 2 then
            (wl2, nv, wl0, wl1, wl2, nl3, wl4, wl5, wl6, nl7, wl8, wl9, wl10, wl11, wlb, wr0, wr1, wr2, nr3, wr4, wr5, wr6, nr7, wr8, wr9, wr10, wr11, wrb)
          else
            if what = 3 then
              (wl4 + 100000, nv, wl0, wl1, wl2, nl3, wl4, wl5, wl6, nl7, wl8, wl9, wl10, wl11, wlb, wr0, wr1, wr2, nr3, wr4, wr5, wr6, nr7, wr8, wr9, wr10, wr11, wrb)
            else
              if what = 4 then
                (gr_, nv, wl0, wl1, wl2, nl3, wl4, wl5, wl6, nl7, wl8, wl9, wl10, wl11, wlb, wr0, wr1, wr2, nr3, wr4, wr5, wr6, nr7, wr8, wr9, wr10, wr11, wrb)
              else
                (br, nv, wl0, wl1, wl2, nl3, wl4, wl5, wl6, nl7, wl8, wl9, wl10, wl11, wlb, wr0, wr1, wr2, nr3, wr4, wr5, wr6, nr7, wr8, wr9, wr10, wr11, wrb)
    else
      match s_pairGoOn nv wl0 wl1 wl2 nl3 wl4 wl5 wl6 nl7 wl8 wl9 wl10 wl11 wr0 wr1 wr2 nr3 wr4 wr5 wr6 nr7 wr8 wr9 wr10 wr11 r0 r1 r2 r3 r4 with
      | (u_7_0, u_7_1, u_7_2, u_7_3, u_7_4, u_7_5, u_7_6, u_7_7, u_7_8, u_7_9, u_7_10, u_7_11, u_7_12, u_7_13, u_7_14, u_7_15, u_7_16, u_7_17, u_7_18) =>
        if u_7_9 = true then
          g_ahead_0 nv nl3 nl7 nr3 nr7 r0 r1 r2 r3 r4 tn what n_ (j + 1) (if gr_ < (if 0 ≤ u_7_4 then u_7_4 else 0 - u_7_4) then (if 0 ≤ u_7_4 then u_7_4 else 0 - u_7_4) else gr_) (br + 1) u_7_1 u_7_2 u_7_3 u_7_4 u_7_5 u_7_6 (wl8 - 1) u_7_7 (wl10 - 1) u_7_8 u_7_9 u_7_10 u_7_11 u_7_12 u_7_13 u_7_14 u_7_15 (wr8 - 1) u_7_16 (wr10 - 1) u_7_17 u_7_18
        else
          g_ahead_0 nv nl3 nl7 nr3 nr7 r0 r1 r2 r3 r4 tn what n_ (j + 1) (if gr_ < (if 0 ≤ u_7_4 then u_7_4 else 0 - u_7_4) then (if 0 ≤ u_7_4 then u_7_4 else 0 - u_7_4) else gr_) (br + 0) u_7_1 u_7_2 u_7_3 u_7_4 u_7_5 u_7_6 (wl8 - 1) u_7_7 (wl10 - 1) u_7_8 u_7_9 u_7_10 u_7_11 u_7_12 u_7_13 u_7_14 u_7_15 (wr8 - 1) u_7_16 (wr10 - 1) u_7_17 u_7_18
def s_ahead_0 (nv : Int32) (nl0 : Int32) (nl1 : Int32) (nl2 : Int32) (nl3 : Int32) (nl4 : Int32) (nl5 : Int32) (nl6 : Int32) (nl7 : Int32) (nl8 : Int32) (nl9 : Int32) (nl10 : Int32) (nl11 : Int32) (nlb : Bool) (nr0 : Int32) (nr1 : Int32) (nr2 : Int32) (nr3 : Int32) (nr4 : Int32) (nr5 : Int32) (nr6 : Int32) (nr7 : Int32) (nr8 : Int32) (nr9 : Int32) (nr10 : Int32) (nr11 : Int32) (nrb : Bool) (r0 : Int32) (r1 : Int32) (r2 : Int32) (r3 : Int32) (r4 : Int32) (tv : Int32) (tl0 : Int32) (tl1 : Int32) (tl2 : Int32) (tl3 : Int32) (tl4 : Int32) (tl5 : Int32) (tl6 : Int32) (tl7 : Int32) (tl8 : Int32) (tl9 : Int32) (tl10 : Int32) (tl11 : Int32) (tlb : Bool) (tr0 : Int32) (tr1 : Int32) (tr2 : Int32) (tr3 : Int32) (tr4 : Int32) (tr5 : Int32) (tr6 : Int32) (tr7 : Int32) (tr8 : Int32) (tr9 : Int32) (tr10 : Int32) (tr11 : Int32) (trb : Bool) (tn : Int32) (what : Int32) : Int32 × Int32 × Int32 × Int32 × Int32 × Int32 × Int32 × Int32 × Int32 × Int32 × Int32 × Int32 × Int32 × Int32 × Bool × Int32 × Int32 × Int32 × Int32 × Int32 × Int32 × Int32 × Int32 × Int32 × Int32 × Int32 × Int32 × Bool :=
  if (s_isWithin tn 1 60) = true then
    if (s_isCrane 0) = true then
      if (s_isWithin what 0 5) = true then
        g_ahead_0 nv nl3 nl7 nr3 nr7 r0 r1 r2 r3 r4 tn what (61) 0 0 0 nl0 nl1 nl2 nl4 nl5 nl6 nl8 nl9 nl10 nl11 nlb nr0 nr1 nr2 nr4 nr5 nr6 nr8 nr9 nr10 nr11 nrb
      else
        ((-1), tv, tl0, tl1, tl2, tl3, tl4, tl5, tl6, tl7, tl8, tl9, tl10, tl11, tlb, tr0, tr1, tr2, tr3, tr4, tr5, tr6, tr7, tr8, tr9, tr10, tr11, trb)
    else
      ((-1), tv, tl0, tl1, tl2, tl3, tl4, tl5, tl6, tl7, tl8, tl9, tl10, tl11, tlb, tr0, tr1, tr2, tr3, tr4, tr5, tr6, tr7, tr8, tr9, tr10, tr11, trb)
  else
    ((-1), tv, tl0, tl1, tl2, tl3, tl4, tl5, tl6, tl7, tl8, tl9, tl10, tl11, tlb, tr0, tr1, tr2, tr3, tr4, tr5, tr6, tr7, tr8, tr9, tr10, tr11, trb)
set_option maxHeartbeats 4000000 in
set_option maxRecDepth 100000 in
theorem lp_ahead_0 {p_ : Program} {e_ : Env} {s_ : State} {m_ : MethodId} {bl_ : List Frame} {me_ : Method} {cd_ : Code} {A_ : Nat → Prop} (l : Launch) (D : va_G) (cyC cyI : ClassId) (qM : Nat) (qT : Nat) (qQ : Nat) (qR : Nat) (qD : Nat) (qN : Nat) (q1 : Nat) (q2 : Nat) (q3 : Nat) (q4 : Nat) (ud : Int32) (nk : Int32) (qNp : Nat) (nv : Int32) (qNpl : Nat) (nl0 : Int32) (nl1 : Int32) (nl2 : Int32) (nl3 : Int32) (nl4 : Int32) (nl5 : Int32) (nl6 : Int32) (nl7 : Int32) (nl8 : Int32) (nl9 : Int32) (nl10 : Int32) (nl11 : Int32) (nlb : Bool) (qNpr : Nat) (nr0 : Int32) (nr1 : Int32) (nr2 : Int32) (nr3 : Int32) (nr4 : Int32) (nr5 : Int32) (nr6 : Int32) (nr7 : Int32) (nr8 : Int32) (nr9 : Int32) (nr10 : Int32) (nr11 : Int32) (nrb : Bool) (qNs : Nat) (qNz : Nat) (qRl : Nat) (qRr : Nat) (r0 : Int32) (r1 : Int32) (r2 : Int32) (r3 : Int32) (r4 : Int32) (tv : Int32) (qQl : Nat) (tl0 : Int32) (tl1 : Int32) (tl2 : Int32) (tl3 : Int32) (tl4 : Int32) (tl5 : Int32) (tl6 : Int32) (tl7 : Int32) (tl8 : Int32) (tl9 : Int32) (tl10 : Int32) (tl11 : Int32) (tlb : Bool) (qQr : Nat) (tr0 : Int32) (tr1 : Int32) (tr2 : Int32) (tr3 : Int32) (tr4 : Int32) (tr5 : Int32) (tr6 : Int32) (tr7 : Int32) (tr8 : Int32) (tr9 : Int32) (tr10 : Int32) (tr11 : Int32) (trb : Bool) (tn : Int32) (what : Int32) (o0 : Int32) (o1 : Int32) (o2 : Int32) (o3 : Int32) (o4 : Int32) (o5 : Int32) (o6 : Int32) (o7 : Int32) (o8 : Int32) (o9 : Int32) (o10 : Int32) (o11 : Int32) (o12 : Int32) (o13 : Int32) (o14 : Bool) (o15 : Int32) (o16 : Int32) (o17 : Int32) (o18 : Int32) (o19 : Int32) (o20 : Int32) (o21 : Int32) (o22 : Int32) (o23 : Int32) (o24 : Int32) (o25 : Int32) (o26 : Int32) (o27 : Bool) (X : bX p_ s_ m_ ([.ref qM, .int tn, .int 0, .int what] : List Value).toArray cd_ cX7_ahead 8 wsX7_ahead yX7_ahead.cls D cyC cyI) (hr : me_.sig.returnType = (some .int)) (hlk : me_.locks = false) : ∀ (n_ : Nat) (j : Nat) (gr_ : Int32) (br : Int32) (wl0 : Int32) (wl1 : Int32) (wl2 : Int32) (wl4 : Int32) (wl5 : Int32) (wl6 : Int32) (wl8 : Int32) (wl9 : Int32) (wl10 : Int32) (wl11 : Int32) (wlb : Bool) (wr0 : Int32) (wr1 : Int32) (wr2 : Int32) (wr4 : Int32) (wr5 : Int32) (wr6 : Int32) (wr8 : Int32) (wr9 : Int32) (wr10 : Int32) (wr11 : Int32) (wrb : Bool) (hN : 61 ≤ j + n_) (hJ : j ≤ 60) (hK : tn ≤ nI 60) (hu : g_ahead_0 nv nl3 nl7 nr3 nr7 r0 r1 r2 r3 r4 tn what n_ j gr_ br wl0 wl1 wl2 wl4 wl5 wl6 wl8 wl9 wl10 wl11 wlb wr0 wr1 wr2 wr4 wr5 wr6 wr8 wr9 wr10 wr11 wrb = (o0, o1, o2, o3, o4, o5, o6, o7, o8, o9, o10, o11, o12, o13, o14, o15, o16, o17, o18, o19, o20, o21, o22, o23, o24, o25, o26, o27)) (ls : Array Slot) (H : Heap) (locs : List Loc), lv_has ls 8 [(0, .ref qM), (1, .int tn), (2, .int 0), (3, .int what), (4, .ref qQl), (5, .int gr_), (6, .int br), (7, .int (nI j))] → bY D A_ s_.heap [(qM, .inr (7, [.ref qT, .ref qQ, .ref qR, .ref qD, .ref qN, .ref q1, .ref q2, .ref q3, .ref q4, .int ud])), (qN, .inr (5, [.ref qNp, .ref qNs, .ref qNz, .int nk])), (qNp, .inr (2, [.ref qNpl, .ref qNpr, .int nv])), (qNpl, .inr (0, [.int nl0, .int nl1, .int nl2, .int nl3, .int nl4, .int nl5, .int nl6, .int nl7, .int nl8, .int nl9, .int nl10, .int nl11, .int (bB nlb)])), (qNpr, .inr (0, [.int nr0, .int nr1, .int nr2, .int nr3, .int nr4, .int nr5, .int nr6, .int nr7, .int nr8, .int nr9, .int nr10, .int nr11, .int (bB nrb)])), (qR, .inr (1, [.int r0, .int r1, .int r2, .int r3, .int r4, .ref qRl, .ref qRr])), (qQ, .inr (2, [.ref qQl, .ref qQr, .int nv])), (qQl, .inr (0, [.int wl0, .int wl1, .int wl2, .int nl3, .int wl4, .int wl5, .int wl6, .int nl7, .int wl8, .int wl9, .int wl10, .int wl11, .int (bB wlb)])), (qQr, .inr (0, [.int wr0, .int wr1, .int wr2, .int nr3, .int wr4, .int wr5, .int wr6, .int nr7, .int wr8, .int wr9, .int wr10, .int wr11, .int (bB wrb)]))] H locs → W p_ l e_ ({ frames := 5, cells := 0, slots := 0, locals := 108 } : Room) s_ m_ ([.ref qM, .int tn, .int 0, .int what] : List Value).toArray bl_ me_ cd_ H locs 0 0 (bQI bl_ ([.ref qM, .int tn, .int 0, .int what] : List Value).toArray s_ D [(qM, .inr (7, [.ref qT, .ref qQ, .ref qR, .ref qD, .ref qN, .ref q1, .ref q2, .ref q3, .ref q4, .int ud])), (qN, .inr (5, [.ref qNp, .ref qNs, .ref qNz, .int nk])), (qNp, .inr (2, [.ref qNpl, .ref qNpr, .int nv])), (qNpl, .inr (0, [.int nl0, .int nl1, .int nl2, .int nl3, .int nl4, .int nl5, .int nl6, .int nl7, .int nl8, .int nl9, .int nl10, .int nl11, .int (bB nlb)])), (qNpr, .inr (0, [.int nr0, .int nr1, .int nr2, .int nr3, .int nr4, .int nr5, .int nr6, .int nr7, .int nr8, .int nr9, .int nr10, .int nr11, .int (bB nrb)])), (qR, .inr (1, [.int r0, .int r1, .int r2, .int r3, .int r4, .ref qRl, .ref qRr])), (qQ, .inr (2, [.ref qQl, .ref qQr, .int o1])), (qQl, .inr (0, [.int o2, .int o3, .int o4, .int o5, .int o6, .int o7, .int o8, .int o9, .int o10, .int o11, .int o12, .int o13, .int (bB o14)])), (qQr, .inr (0, [.int o15, .int o16, .int o17, .int o18, .int o19, .int o20, .int o21, .int o22, .int o23, .int o24, .int o25, .int o26, .int (bB o27)]))] o0 A_) (F0 m_ 61 ls []) := by
  intro n_
  induction n_ with
  | zero =>
    intro j gr_ br wl0 wl1 wl2 wl4 wl5 wl6 wl8 wl9 wl10 wl11 wlb wr0 wr1 wr2 wr4 wr5 wr6 wr8 wr9 wr10 wr11 wrb hN hJ hK hu ls H locs hl Y
    exfalso; omega
  | succ n_ ih =>
    intro j gr_ br wl0 wl1 wl2 wl4 wl5 wl6 wl8 wl9 wl10 wl11 wlb wr0 wr1 wr2 wr4 wr5 wr6 wr8 wr9 wr10 wr11 wrb hN hJ hK hu ls H locs hl Y
    have hx := X.1.1
    have hb := X.1.2.1
    rw [g_ahead_0] at hu
    refine lv_iload hx hb dX7_ahead_61 (lv_at hl 7 rfl) ?_
    refine lv_iload_n hx hb dX7_ahead_63 rfl (lv_at hl 1 rfl) ?_
    refine lv_icmp_ge (tgt := 118) hx hb dX7_ahead_64 (by decide) (fun c_1 => ?_) (fun c_1 => ?_)
    · have c_1 : tn ≤ nI j := c_1
      rw [if_pos c_1] at hu
      refine lv_iload_n hx hb dX7_ahead_118 rfl (lv_at hl 3 rfl) ?_
      by_cases c_2 : what = 0
      · rw [if_pos c_2] at hu
        refine lv_tableIn (tgt := 152) (off := 33) hx hb dX7_ahead_119 (by rw [c_2]; decide) (by rw [c_2]; decide) (by rw [c_2]; decide +kernel) (by decide) ?_
        refine lv_aload hx hb dX7_ahead_152 (lv_at hl 4 rfl) ?_
        refine bGet (v := .int wl0) (T := TX0) (N := 13) (ci := 0) X Y i_X7_ahead_X0 7 rfl rfl 0 (Nat.le_of_ble_eq_true rfl) f_X7_ahead_138 rfl rfl dX7_ahead_154 ?_
        have h9 := (Prod.mk.inj hu).1; replace hu := (Prod.mk.inj hu).2; subst h9
        have h9 := (Prod.mk.inj hu).1; replace hu := (Prod.mk.inj hu).2; subst h9
        have h9 := (Prod.mk.inj hu).1; replace hu := (Prod.mk.inj hu).2; subst h9
        have h9 := (Prod.mk.inj hu).1; replace hu := (Prod.mk.inj hu).2; subst h9
        have h9 := (Prod.mk.inj hu).1; replace hu := (Prod.mk.inj hu).2; subst h9
        have h9 := (Prod.mk.inj hu).1; replace hu := (Prod.mk.inj hu).2; subst h9
        have h9 := (Prod.mk.inj hu).1; replace hu := (Prod.mk.inj hu).2; subst h9
        have h9 := (Prod.mk.inj hu).1; replace hu := (Prod.mk.inj hu).2; subst h9
        have h9 := (Prod.mk.inj hu).1; replace hu := (Prod.mk.inj hu).2; subst h9
        have h9 := (Prod.mk.inj hu).1; replace hu := (Prod.mk.inj hu).2; subst h9
        have h9 := (Prod.mk.inj hu).1; replace hu := (Prod.mk.inj hu).2; subst h9
        have h9 := (Prod.mk.inj hu).1; replace hu := (Prod.mk.inj hu).2; subst h9
        have h9 := (Prod.mk.inj hu).1; replace hu := (Prod.mk.inj hu).2; subst h9
        have h9 := (Prod.mk.inj hu).1; replace hu := (Prod.mk.inj hu).2; subst h9
        have h9 := (Prod.mk.inj hu).1; replace hu := (Prod.mk.inj hu).2; subst h9
        have h9 := (Prod.mk.inj hu).1; replace hu := (Prod.mk.inj hu).2; subst h9
        have h9 := (Prod.mk.inj hu).1; replace hu := (Prod.mk.inj hu).2; subst h9
        have h9 := (Prod.mk.inj hu).1; replace hu := (Prod.mk.inj hu).2; subst h9
        have h9 := (Prod.mk.inj hu).1; replace hu := (Prod.mk.inj hu).2; subst h9
        have h9 := (Prod.mk.inj hu).1; replace hu := (Prod.mk.inj hu).2; subst h9
        have h9 := (Prod.mk.inj hu).1; replace hu := (Prod.mk.inj hu).2; subst h9
        have h9 := (Prod.mk.inj hu).1; replace hu := (Prod.mk.inj hu).2; subst h9
        have h9 := (Prod.mk.inj hu).1; replace hu := (Prod.mk.inj hu).2; subst h9
        have h9 := (Prod.mk.inj hu).1; replace hu := (Prod.mk.inj hu).2; subst h9
        have h9 := (Prod.mk.inj hu).1; replace hu := (Prod.mk.inj hu).2; subst h9
        have h9 := (Prod.mk.inj hu).1; replace hu := (Prod.mk.inj hu).2; subst h9
        have h9 := (Prod.mk.inj hu).1; replace hu := (Prod.mk.inj hu).2; subst h9
        subst hu
        exact bEndI X Y hr hlk dX7_ahead_157 rfl rfl
      · skip
        rw [if_neg c_2] at hu
        by_cases c_3 : what = 1
        · rw [if_pos c_3] at hu
          refine lv_tableIn (tgt := 158) (off := 39) hx hb dX7_ahead_119 (by rw [c_3]; decide) (by rw [c_3]; decide) (by rw [c_3]; decide +kernel) (by decide) ?_
          refine lv_aload hx hb dX7_ahead_158 (lv_at hl 4 rfl) ?_
          refine bGet (v := .int wl1) (T := TX0) (N := 13) (ci := 0) X Y i_X7_ahead_X0 7 rfl rfl 1 (Nat.le_of_ble_eq_true rfl) f_X7_ahead_141 rfl rfl dX7_ahead_160 ?_
          refine lv_ldc (v := 100000) hx hb X.1.2.2.2.1 (X.1.2.2.2.2 _ k_X7_ahead_144) dX7_ahead_163 ?_
          refine bAdd (v := wl1 + 100000) X dX7_ahead_165 rfl ?_
          have h9 := (Prod.mk.inj hu).1; replace hu := (Prod.mk.inj hu).2; subst h9
          have h9 := (Prod.mk.inj hu).1; replace hu := (Prod.mk.inj hu).2; subst h9
          have h9 := (Prod.mk.inj hu).1; replace hu := (Prod.mk.inj hu).2; subst h9
          have h9 := (Prod.mk.inj hu).1; replace hu := (Prod.mk.inj hu).2; subst h9
          have h9 := (Prod.mk.inj hu).1; replace hu := (Prod.mk.inj hu).2; subst h9
          have h9 := (Prod.mk.inj hu).1; replace hu := (Prod.mk.inj hu).2; subst h9
          have h9 := (Prod.mk.inj hu).1; replace hu := (Prod.mk.inj hu).2; subst h9
          have h9 := (Prod.mk.inj hu).1; replace hu := (Prod.mk.inj hu).2; subst h9
          have h9 := (Prod.mk.inj hu).1; replace hu := (Prod.mk.inj hu).2; subst h9
          have h9 := (Prod.mk.inj hu).1; replace hu := (Prod.mk.inj hu).2; subst h9
          have h9 := (Prod.mk.inj hu).1; replace hu := (Prod.mk.inj hu).2; subst h9
          have h9 := (Prod.mk.inj hu).1; replace hu := (Prod.mk.inj hu).2; subst h9
          have h9 := (Prod.mk.inj hu).1; replace hu := (Prod.mk.inj hu).2; subst h9
          have h9 := (Prod.mk.inj hu).1; replace hu := (Prod.mk.inj hu).2; subst h9
          have h9 := (Prod.mk.inj hu).1; replace hu := (Prod.mk.inj hu).2; subst h9
          have h9 := (Prod.mk.inj hu).1; replace hu := (Prod.mk.inj hu).2; subst h9
          have h9 := (Prod.mk.inj hu).1; replace hu := (Prod.mk.inj hu).2; subst h9
          have h9 := (Prod.mk.inj hu).1; replace hu := (Prod.mk.inj hu).2; subst h9
          have h9 := (Prod.mk.inj hu).1; replace hu := (Prod.mk.inj hu).2; subst h9
          have h9 := (Prod.mk.inj hu).1; replace hu := (Prod.mk.inj hu).2; subst h9
          have h9 := (Prod.mk.inj hu).1; replace hu := (Prod.mk.inj hu).2; subst h9
          have h9 := (Prod.mk.inj hu).1; replace hu := (Prod.mk.inj hu).2; subst h9
          have h9 := (Prod.mk.inj hu).1; replace hu := (Prod.mk.inj hu).2; subst h9
          have h9 := (Prod.mk.inj hu).1; replace hu := (Prod.mk.inj hu).2; subst h9
          have h9 := (Prod.mk.inj hu).1; replace hu := (Prod.mk.inj hu).2; subst h9
          have h9 := (Prod.mk.inj hu).1; replace hu := (Prod.mk.inj hu).2; subst h9
          have h9 := (Prod.mk.inj hu).1; replace hu := (Prod.mk.inj hu).2; subst h9
          subst hu
          exact bEndI X Y hr hlk dX7_ahead_166 rfl rfl
        · skip
          rw [if_neg c_3] at hu
          by_cases c_4 : what = 2
          · rw [if_pos c_4] at hu
            refine lv_tableIn (tgt := 167) (off := 48) hx hb dX7_ahead_119 (by rw [c_4]; decide) (by rw [c_4]; decide) (by rw [c_4]; decide +kernel) (by decide) ?_
            refine lv_aload hx hb dX7_ahead_167 (lv_at hl 4 rfl) ?_
            refine bGet (v := .int wl2) (T := TX0) (N := 13) (ci := 0) X Y i_X7_ahead_X0 7 rfl rfl 2 (Nat.le_of_ble_eq_true rfl) f_X7_ahead_145 rfl rfl dX7_ahead_169 ?_
            have h9 := (Prod.mk.inj hu).1; replace hu := (Prod.mk.inj hu).2; subst h9
            have h9 := (Prod.mk.inj hu).1; replace hu := (Prod.mk.inj hu).2; subst h9
            have h9 := (Prod.mk.inj hu).1; replace hu := (Prod.mk.inj hu).2; subst h9
            have h9 := (Prod.mk.inj hu).1; replace hu := (Prod.mk.inj hu).2; subst h9
            have h9 := (Prod.mk.inj hu).1; replace hu := (Prod.mk.inj hu).2; subst h9
            have h9 := (Prod.mk.inj hu).1; replace hu := (Prod.mk.inj hu).2; subst h9
            have h9 := (Prod.mk.inj hu).1; replace hu := (Prod.mk.inj hu).2; subst h9
            have h9 := (Prod.mk.inj hu).1; replace hu := (Prod.mk.inj hu).2; subst h9
            have h9 := (Prod.mk.inj hu).1; replace hu := (Prod.mk.inj hu).2; subst h9
            have h9 := (Prod.mk.inj hu).1; replace hu := (Prod.mk.inj hu).2; subst h9
            have h9 := (Prod.mk.inj hu).1; replace hu := (Prod.mk.inj hu).2; subst h9
            have h9 := (Prod.mk.inj hu).1; replace hu := (Prod.mk.inj hu).2; subst h9
            have h9 := (Prod.mk.inj hu).1; replace hu := (Prod.mk.inj hu).2; subst h9
            have h9 := (Prod.mk.inj hu).1; replace hu := (Prod.mk.inj hu).2; subst h9
            have h9 := (Prod.mk.inj hu).1; replace hu := (Prod.mk.inj hu).2; subst h9
            have h9 := (Prod.mk.inj hu).1; replace hu := (Prod.mk.inj hu).2; subst h9
            have h9 := (Prod.mk.inj hu).1; replace hu := (Prod.mk.inj hu).2; subst h9
            have h9 := (Prod.mk.inj hu).1; replace hu := (Prod.mk.inj hu).2; subst h9
            have h9 := (Prod.mk.inj hu).1; replace hu := (Prod.mk.inj hu).2; subst h9
            have h9 := (Prod.mk.inj hu).1; replace hu := (Prod.mk.inj hu).2; subst h9
            have h9 := (Prod.mk.inj hu).1; replace hu := (Prod.mk.inj hu).2; subst h9
            have h9 := (Prod.mk.inj hu).1; replace hu := (Prod.mk.inj hu).2; subst h9
            have h9 := (Prod.mk.inj hu).1; replace hu := (Prod.mk.inj hu).2; subst h9
            have h9 := (Prod.mk.inj hu).1; replace hu := (Prod.mk.inj hu).2; subst h9
            have h9 := (Prod.mk.inj hu).1; replace hu := (Prod.mk.inj hu).2; subst h9
            have h9 := (Prod.mk.inj hu).1; replace hu := (Prod.mk.inj hu).2; subst h9
            have h9 := (Prod.mk.inj hu).1; replace hu := (Prod.mk.inj hu).2; subst h9
            subst hu
            exact bEndI X Y hr hlk dX7_ahead_172 rfl rfl
          · skip
            rw [if_neg c_4] at hu
            by_cases c_5 : what = 3
            · rw [if_pos c_5] at hu
              refine lv_tableIn (tgt := 173) (off := 54) hx hb dX7_ahead_119 (by rw [c_5]; decide) (by rw [c_5]; decide) (by rw [c_5]; decide +kernel) (by decide) ?_
              refine lv_aload hx hb dX7_ahead_173 (lv_at hl 4 rfl) ?_
              refine bGet (v := .int wl4) (T := TX0) (N := 13) (ci := 0) X Y i_X7_ahead_X0 7 rfl rfl 4 (Nat.le_of_ble_eq_true rfl) f_X7_ahead_148 rfl rfl dX7_ahead_175 ?_
              refine lv_ldc (v := 100000) hx hb X.1.2.2.2.1 (X.1.2.2.2.2 _ k_X7_ahead_144) dX7_ahead_178 ?_
              refine bAdd (v := wl4 + 100000) X dX7_ahead_180 rfl ?_
              have h9 := (Prod.mk.inj hu).1; replace hu := (Prod.mk.inj hu).2; subst h9
              have h9 := (Prod.mk.inj hu).1; replace hu := (Prod.mk.inj hu).2; subst h9
              have h9 := (Prod.mk.inj hu).1; replace hu := (Prod.mk.inj hu).2; subst h9
              have h9 := (Prod.mk.inj hu).1; replace hu := (Prod.mk.inj hu).2; subst h9
              have h9 := (Prod.mk.inj hu).1; replace hu := (Prod.mk.inj hu).2; subst h9
              have h9 := (Prod.mk.inj hu).1; replace hu := (Prod.mk.inj hu).2; subst h9
              have h9 := (Prod.mk.inj hu).1; replace hu := (Prod.mk.inj hu).2; subst h9
              have h9 := (Prod.mk.inj hu).1; replace hu := (Prod.mk.inj hu).2; subst h9
              have h9 := (Prod.mk.inj hu).1; replace hu := (Prod.mk.inj hu).2; subst h9
              have h9 := (Prod.mk.inj hu).1; replace hu := (Prod.mk.inj hu).2; subst h9
              have h9 := (Prod.mk.inj hu).1; replace hu := (Prod.mk.inj hu).2; subst h9
              have h9 := (Prod.mk.inj hu).1; replace hu := (Prod.mk.inj hu).2; subst h9
              have h9 := (Prod.mk.inj hu).1; replace hu := (Prod.mk.inj hu).2; subst h9
              have h9 := (Prod.mk.inj hu).1; replace hu := (Prod.mk.inj hu).2; subst h9
              have h9 := (Prod.mk.inj hu).1; replace hu := (Prod.mk.inj hu).2; subst h9
              have h9 := (Prod.mk.inj hu).1; replace hu := (Prod.mk.inj hu).2; subst h9
              have h9 := (Prod.mk.inj hu).1; replace hu := (Prod.mk.inj hu).2; subst h9
              have h9 := (Prod.mk.inj hu).1; replace hu := (Prod.mk.inj hu).2; subst h9
              have h9 := (Prod.mk.inj hu).1; replace hu := (Prod.mk.inj hu).2; subst h9
              have h9 := (Prod.mk.inj hu).1; replace hu := (Prod.mk.inj hu).2; subst h9
              have h9 := (Prod.mk.inj hu).1; replace hu := (Prod.mk.inj hu).2; subst h9
              have h9 := (Prod.mk.inj hu).1; replace hu := (Prod.mk.inj hu).2; subst h9
              have h9 := (Prod.mk.inj hu).1; replace hu := (Prod.mk.inj hu).2; subst h9
              have h9 := (Prod.mk.inj hu).1; replace hu := (Prod.mk.inj hu).2; subst h9
              have h9 := (Prod.mk.inj hu).1; replace hu := (Prod.mk.inj hu).2; subst h9
              have h9 := (Prod.mk.inj hu).1; replace hu := (Prod.mk.inj hu).2; subst h9
              have h9 := (Prod.mk.inj hu).1; replace hu := (Prod.mk.inj hu).2; subst h9
              subst hu
              exact bEndI X Y hr hlk dX7_ahead_181 rfl rfl
            · skip
              rw [if_neg c_5] at hu
              by_cases c_6 : what = 4
              · rw [if_pos c_6] at hu
                refine lv_tableIn (tgt := 182) (off := 63) hx hb dX7_ahead_119 (by rw [c_6]; decide) (by rw [c_6]; decide) (by rw [c_6]; decide +kernel) (by decide) ?_
                refine lv_iload hx hb dX7_ahead_182 (lv_at hl 5 rfl) ?_
                have h9 := (Prod.mk.inj hu).1; replace hu := (Prod.mk.inj hu).2; subst h9
                have h9 := (Prod.mk.inj hu).1; replace hu := (Prod.mk.inj hu).2; subst h9
                have h9 := (Prod.mk.inj hu).1; replace hu := (Prod.mk.inj hu).2; subst h9
                have h9 := (Prod.mk.inj hu).1; replace hu := (Prod.mk.inj hu).2; subst h9
                have h9 := (Prod.mk.inj hu).1; replace hu := (Prod.mk.inj hu).2; subst h9
                have h9 := (Prod.mk.inj hu).1; replace hu := (Prod.mk.inj hu).2; subst h9
                have h9 := (Prod.mk.inj hu).1; replace hu := (Prod.mk.inj hu).2; subst h9
                have h9 := (Prod.mk.inj hu).1; replace hu := (Prod.mk.inj hu).2; subst h9
                have h9 := (Prod.mk.inj hu).1; replace hu := (Prod.mk.inj hu).2; subst h9
                have h9 := (Prod.mk.inj hu).1; replace hu := (Prod.mk.inj hu).2; subst h9
                have h9 := (Prod.mk.inj hu).1; replace hu := (Prod.mk.inj hu).2; subst h9
                have h9 := (Prod.mk.inj hu).1; replace hu := (Prod.mk.inj hu).2; subst h9
                have h9 := (Prod.mk.inj hu).1; replace hu := (Prod.mk.inj hu).2; subst h9
                have h9 := (Prod.mk.inj hu).1; replace hu := (Prod.mk.inj hu).2; subst h9
                have h9 := (Prod.mk.inj hu).1; replace hu := (Prod.mk.inj hu).2; subst h9
                have h9 := (Prod.mk.inj hu).1; replace hu := (Prod.mk.inj hu).2; subst h9
                have h9 := (Prod.mk.inj hu).1; replace hu := (Prod.mk.inj hu).2; subst h9
                have h9 := (Prod.mk.inj hu).1; replace hu := (Prod.mk.inj hu).2; subst h9
                have h9 := (Prod.mk.inj hu).1; replace hu := (Prod.mk.inj hu).2; subst h9
                have h9 := (Prod.mk.inj hu).1; replace hu := (Prod.mk.inj hu).2; subst h9
                have h9 := (Prod.mk.inj hu).1; replace hu := (Prod.mk.inj hu).2; subst h9
                have h9 := (Prod.mk.inj hu).1; replace hu := (Prod.mk.inj hu).2; subst h9
                have h9 := (Prod.mk.inj hu).1; replace hu := (Prod.mk.inj hu).2; subst h9
                have h9 := (Prod.mk.inj hu).1; replace hu := (Prod.mk.inj hu).2; subst h9
                have h9 := (Prod.mk.inj hu).1; replace hu := (Prod.mk.inj hu).2; subst h9
                have h9 := (Prod.mk.inj hu).1; replace hu := (Prod.mk.inj hu).2; subst h9
                have h9 := (Prod.mk.inj hu).1; replace hu := (Prod.mk.inj hu).2; subst h9
                subst hu
                exact bEndI X Y hr hlk dX7_ahead_184 rfl rfl
              · skip
                rw [if_neg c_6] at hu
                refine lv_tableOut (tgt := 185) hx hb dX7_ahead_119 (by have e0 := bNeI c_2 (show (0 : Int32).toInt = 0 by decide); have e1 := bNeI c_3 (show (1 : Int32).toInt = 1 by decide); have e2 := bNeI c_4 (show (2 : Int32).toInt = 2 by decide); have e3 := bNeI c_5 (show (3 : Int32).toInt = 3 by decide); have e4 := bNeI c_6 (show (4 : Int32).toInt = 4 by decide); omega) (by decide) ?_
                refine lv_iload hx hb dX7_ahead_185 (lv_at hl 6 rfl) ?_
                have h9 := (Prod.mk.inj hu).1; replace hu := (Prod.mk.inj hu).2; subst h9
                have h9 := (Prod.mk.inj hu).1; replace hu := (Prod.mk.inj hu).2; subst h9
                have h9 := (Prod.mk.inj hu).1; replace hu := (Prod.mk.inj hu).2; subst h9
                have h9 := (Prod.mk.inj hu).1; replace hu := (Prod.mk.inj hu).2; subst h9
                have h9 := (Prod.mk.inj hu).1; replace hu := (Prod.mk.inj hu).2; subst h9
                have h9 := (Prod.mk.inj hu).1; replace hu := (Prod.mk.inj hu).2; subst h9
                have h9 := (Prod.mk.inj hu).1; replace hu := (Prod.mk.inj hu).2; subst h9
                have h9 := (Prod.mk.inj hu).1; replace hu := (Prod.mk.inj hu).2; subst h9
                have h9 := (Prod.mk.inj hu).1; replace hu := (Prod.mk.inj hu).2; subst h9
                have h9 := (Prod.mk.inj hu).1; replace hu := (Prod.mk.inj hu).2; subst h9
                have h9 := (Prod.mk.inj hu).1; replace hu := (Prod.mk.inj hu).2; subst h9
                have h9 := (Prod.mk.inj hu).1; replace hu := (Prod.mk.inj hu).2; subst h9
                have h9 := (Prod.mk.inj hu).1; replace hu := (Prod.mk.inj hu).2; subst h9
                have h9 := (Prod.mk.inj hu).1; replace hu := (Prod.mk.inj hu).2; subst h9
                have h9 := (Prod.mk.inj hu).1; replace hu := (Prod.mk.inj hu).2; subst h9
                have h9 := (Prod.mk.inj hu).1; replace hu := (Prod.mk.inj hu).2; subst h9
                have h9 := (Prod.mk.inj hu).1; replace hu := (Prod.mk.inj hu).2; subst h9
                have h9 := (Prod.mk.inj hu).1; replace hu := (Prod.mk.inj hu).2; subst h9
                have h9 := (Prod.mk.inj hu).1; replace hu := (Prod.mk.inj hu).2; subst h9
                have h9 := (Prod.mk.inj hu).1; replace hu := (Prod.mk.inj hu).2; subst h9
                have h9 := (Prod.mk.inj hu).1; replace hu := (Prod.mk.inj hu).2; subst h9
                have h9 := (Prod.mk.inj hu).1; replace hu := (Prod.mk.inj hu).2; subst h9
                have h9 := (Prod.mk.inj hu).1; replace hu := (Prod.mk.inj hu).2; subst h9
                have h9 := (Prod.mk.inj hu).1; replace hu := (Prod.mk.inj hu).2; subst h9
                have h9 := (Prod.mk.inj hu).1; replace hu := (Prod.mk.inj hu).2; subst h9
                have h9 := (Prod.mk.inj hu).1; replace hu := (Prod.mk.inj hu).2; subst h9
                have h9 := (Prod.mk.inj hu).1; replace hu := (Prod.mk.inj hu).2; subst h9
                subst hu
                exact bEndI X Y hr hlk dX7_ahead_187 rfl rfl
    · have c_1 : ¬ (tn ≤ nI j) := c_1
      rw [if_neg c_1] at hu
      refine lv_aload_n hx hb dX7_ahead_67 rfl (lv_at hl 0 rfl) ?_
      refine bGet (v := .ref qQ) (T := TX7) (N := 10) (ci := 7) X Y i_X7_ahead_X7 0 rfl rfl 1 (Nat.le_of_ble_eq_true rfl) f_X7_ahead_19 rfl rfl dX7_ahead_68 ?_
      refine lv_aload_n hx hb dX7_ahead_71 rfl (lv_at hl 0 rfl) ?_
      refine bGet (v := .ref qR) (T := TX7) (N := 10) (ci := 7) X Y i_X7_ahead_X7 0 rfl rfl 2 (Nat.le_of_ble_eq_true rfl) f_X7_ahead_26 rfl rfl dX7_ahead_72 ?_
      obtain ⟨u_7_0, u_7_1, u_7_2, u_7_3, u_7_4, u_7_5, u_7_6, u_7_7, u_7_8, u_7_9, u_7_10, u_7_11, u_7_12, u_7_13, u_7_14, u_7_15, u_7_16, u_7_17, u_7_18, hr_7⟩ := bEx19 (s_pairGoOn nv wl0 wl1 wl2 nl3 wl4 wl5 wl6 nl7 wl8 wl9 wl10 wl11 wr0 wr1 wr2 nr3 wr4 wr5 wr6 nr7 wr8 wr9 wr10 wr11 r0 r1 r2 r3 r4)
      rw [hr_7] at hu
      dsimp only at hu
      refine bVI (As := [.ref qR]) (rest := []) (wc := [(qQ, .inr (2, [.ref qQl, .ref qQr, .int nv])), (qQl, .inr (0, [.int wl0, .int wl1, .int wl2, .int nl3, .int wl4, .int wl5, .int wl6, .int nl7, .int wl8, .int wl9, .int wl10, .int wl11, .int (bB wlb)])), (qQr, .inr (0, [.int wr0, .int wr1, .int wr2, .int nr3, .int wr4, .int wr5, .int wr6, .int nr7, .int wr8, .int wr9, .int wr10, .int wr11, .int (bB wrb)])), (qR, .inr (1, [.int r0, .int r1, .int r2, .int r3, .int r4, .ref qRl, .ref qRr]))]) (w1 := [(qQ, .inr (2, [.ref qQl, .ref qQr, .int nv])), (qQl, .inr (0, [.int u_7_1, .int u_7_2, .int u_7_3, .int nl3, .int u_7_4, .int u_7_5, .int u_7_6, .int nl7, .int (wl8 - 1), .int u_7_7, .int (wl10 - 1), .int u_7_8, .int (bB u_7_9)])), (qQr, .inr (0, [.int u_7_10, .int u_7_11, .int u_7_12, .int nr3, .int u_7_13, .int u_7_14, .int u_7_15, .int nr7, .int (wr8 - 1), .int u_7_16, .int (wr10 - 1), .int u_7_17, .int (bB u_7_18)])), (qR, .inr (1, [.int r0, .int r1, .int r2, .int r3, .int r4, .ref qRl, .ref qRr]))]) (ws' := [(qM, .inr (7, [.ref qT, .ref qQ, .ref qR, .ref qD, .ref qN, .ref q1, .ref q2, .ref q3, .ref q4, .int ud])), (qN, .inr (5, [.ref qNp, .ref qNs, .ref qNz, .int nk])), (qNp, .inr (2, [.ref qNpl, .ref qNpr, .int nv])), (qNpl, .inr (0, [.int nl0, .int nl1, .int nl2, .int nl3, .int nl4, .int nl5, .int nl6, .int nl7, .int nl8, .int nl9, .int nl10, .int nl11, .int (bB nlb)])), (qNpr, .inr (0, [.int nr0, .int nr1, .int nr2, .int nr3, .int nr4, .int nr5, .int nr6, .int nr7, .int nr8, .int nr9, .int nr10, .int nr11, .int (bB nrb)])), (qR, .inr (1, [.int r0, .int r1, .int r2, .int r3, .int r4, .ref qRl, .ref qRr])), (qQ, .inr (2, [.ref qQl, .ref qQr, .int nv])), (qQl, .inr (0, [.int u_7_1, .int u_7_2, .int u_7_3, .int nl3, .int u_7_4, .int u_7_5, .int u_7_6, .int nl7, .int (wl8 - 1), .int u_7_7, .int (wl10 - 1), .int u_7_8, .int (bB u_7_9)])), (qQr, .inr (0, [.int u_7_10, .int u_7_11, .int u_7_12, .int nr3, .int u_7_13, .int u_7_14, .int u_7_15, .int nr7, .int (wr8 - 1), .int u_7_16, .int (wr10 - 1), .int u_7_17, .int (bB u_7_18)]))]) (ad := [qQ, qQl, qQr, qR]) (wr := [(qM, .inr (7, [.ref qT, .ref qQ, .ref qR, .ref qD, .ref qN, .ref q1, .ref q2, .ref q3, .ref q4, .int ud])), (qN, .inr (5, [.ref qNp, .ref qNs, .ref qNz, .int nk])), (qNp, .inr (2, [.ref qNpl, .ref qNpr, .int nv])), (qNpl, .inr (0, [.int nl0, .int nl1, .int nl2, .int nl3, .int nl4, .int nl5, .int nl6, .int nl7, .int nl8, .int nl9, .int nl10, .int nl11, .int (bB nlb)])), (qNpr, .inr (0, [.int nr0, .int nr1, .int nr2, .int nr3, .int nr4, .int nr5, .int nr6, .int nr7, .int nr8, .int nr9, .int nr10, .int nr11, .int (bB nrb)]))]) (nn := 9) (ci := 2) (q0 := 6) X Y (c_pairGoOn l D cyC cyI qQ nv qQl wl0 wl1 wl2 nl3 wl4 wl5 wl6 nl7 wl8 wl9 wl10 wl11 wlb qQr wr0 wr1 wr2 nr3 wr4 wr5 wr6 nr7 wr8 wr9 wr10 wr11 wrb qR qRl qRr r0 r1 r2 r3 r4 u_7_0 u_7_1 u_7_2 u_7_3 u_7_4 u_7_5 u_7_6 u_7_7 u_7_8 u_7_9 u_7_10 u_7_11 u_7_12 u_7_13 u_7_14 u_7_15 u_7_16 u_7_17 u_7_18 hr_7) gX7_ahead_X2_goOn rfl ⟨rfl, rfl⟩ hd_X2_goOn ⟨(Nat.le_of_ble_eq_true rfl), (Nat.le_of_ble_eq_true rfl)⟩ rfl rfl rfl [6, 7, 8, 5] [0, 1, 2, 3, 4] rfl rfl rfl rfl rfl rfl rfl rfl (by decide) rfl rfl hl.1 (Nat.le_of_ble_eq_true rfl) ⟨Nat.zero_le _, Nat.zero_le _⟩ dX7_ahead_75 (fun H locs Y => ?_)
      refine lv_pop hx hb dX7_ahead_78 rfl ?_
      refine lv_iload hx hb dX7_ahead_79 (lv_at hl 5 rfl) ?_
      refine lv_aload hx hb dX7_ahead_81 (lv_at hl 4 rfl) ?_
      refine bGet (v := .int u_7_4) (T := TX0) (N := 13) (ci := 0) X Y i_X7_ahead_X0 7 rfl rfl 4 (Nat.le_of_ble_eq_true rfl) f_X7_ahead_148 rfl rfl dX7_ahead_83 ?_
      refine bAbs (v := (if 0 ≤ u_7_4 then u_7_4 else 0 - u_7_4)) X hl.1 m_X7_ahead_209 ms_X7_ahead_abs mi_X7_ahead mc_X7_ahead_abs (Nat.le_of_ble_eq_true rfl) (Nat.le_of_ble_eq_true rfl) ⟨Nat.zero_le _, Nat.zero_le _⟩ dX7_ahead_86 rfl ?_
      refine bMax (v := (if gr_ < (if 0 ≤ u_7_4 then u_7_4 else 0 - u_7_4) then (if 0 ≤ u_7_4 then u_7_4 else 0 - u_7_4) else gr_)) X hl.1 m_X7_ahead_214 ms_X7_ahead_max mi_X7_ahead mc_X7_ahead_max (Nat.le_of_ble_eq_true rfl) (Nat.le_of_ble_eq_true rfl) ⟨Nat.zero_le _, Nat.zero_le _⟩ dX7_ahead_89 rfl ?_
      refine lv_istore (lv' := [(5, .int (if gr_ < (if 0 ≤ u_7_4 then u_7_4 else 0 - u_7_4) then (if 0 ≤ u_7_4 then u_7_4 else 0 - u_7_4) else gr_)), (0, .ref qM), (1, .int tn), (2, .int 0), (3, .int what), (4, .ref qQl), (6, .int br), (7, .int (nI j))]) hx hb dX7_ahead_92 hl (by decide) rfl (fun ls hl => ?_)
      refine lv_iload hx hb dX7_ahead_94 (lv_at hl 6 rfl) ?_
      refine lv_aload hx hb dX7_ahead_96 (lv_at hl 5 rfl) ?_
      refine bGet (v := .int (bB u_7_9)) (T := TX0) (N := 13) (ci := 0) X Y i_X7_ahead_X0 7 rfl rfl 12 (Nat.le_of_ble_eq_true rfl) f_X7_ahead_217 rfl rfl dX7_ahead_98 ?_
      refine lv_if_eq (tgt := 108) hx hb dX7_ahead_101 (by decide) (fun c_8 => ?_) (fun c_8 => ?_)
      · have c_8 := bB_f c_8
        rw [if_neg c_8] at hu
        refine lv_iconst (v := 0) hx hb dX7_ahead_108 (by decide) ?_
        refine bAdd (v := br + 0) X dX7_ahead_109 rfl ?_
        refine lv_istore (lv' := [(6, .int (br + 0)), (5, .int (if gr_ < (if 0 ≤ u_7_4 then u_7_4 else 0 - u_7_4) then (if 0 ≤ u_7_4 then u_7_4 else 0 - u_7_4) else gr_)), (0, .ref qM), (1, .int tn), (2, .int 0), (3, .int what), (4, .ref qQl), (7, .int (nI j))]) hx hb dX7_ahead_110 hl (by decide) rfl (fun ls hl => ?_)
        refine lv_iinc (v := nI (j + 1)) (lv' := [(7, .int (nI (j + 1))), (6, .int (br + 0)), (5, .int (if gr_ < (if 0 ≤ u_7_4 then u_7_4 else 0 - u_7_4) then (if 0 ≤ u_7_4 then u_7_4 else 0 - u_7_4) else gr_)), (0, .ref qM), (1, .int tn), (2, .int 0), (3, .int what), (4, .ref qQl)]) hx hb dX7_ahead_112 hl (k := 7) rfl (nI_inc _) (by decide) rfl (fun ls hl => ?_)
        refine lv_goto (tgt := 61) hx hb dX7_ahead_115 (by decide) ?_
        exact ih (j + 1) (if gr_ < (if 0 ≤ u_7_4 then u_7_4 else 0 - u_7_4) then (if 0 ≤ u_7_4 then u_7_4 else 0 - u_7_4) else gr_) (br + 0) u_7_1 u_7_2 u_7_3 u_7_4 u_7_5 u_7_6 (wl8 - 1) u_7_7 (wl10 - 1) u_7_8 u_7_9 u_7_10 u_7_11 u_7_12 u_7_13 u_7_14 u_7_15 (wr8 - 1) u_7_16 (wr10 - 1) u_7_17 u_7_18 (by omega) (by have := bNleS (by omega) (by decide) hK c_1; omega) hK hu _ _ _ (lv_sub hl [3, 4, 5, 6, 7, 2, 1, 0] rfl) Y
      · have c_8 := bB_t c_8
        rw [if_pos c_8] at hu
        refine lv_iconst (v := 1) hx hb dX7_ahead_104 (by decide) ?_
        refine lv_goto (tgt := 109) hx hb dX7_ahead_105 (by decide) ?_
        refine bAdd (v := br + 1) X dX7_ahead_109 rfl ?_
        refine lv_istore (lv' := [(6, .int (br + 1)), (5, .int (if gr_ < (if 0 ≤ u_7_4 then u_7_4 else 0 - u_7_4) then (if 0 ≤ u_7_4 then u_7_4 else 0 - u_7_4) else gr_)), (0, .ref qM), (1, .int tn), (2, .int 0), (3, .int what), (4, .ref qQl), (7, .int (nI j))]) hx hb dX7_ahead_110 hl (by decide) rfl (fun ls hl => ?_)
        refine lv_iinc (v := nI (j + 1)) (lv' := [(7, .int (nI (j + 1))), (6, .int (br + 1)), (5, .int (if gr_ < (if 0 ≤ u_7_4 then u_7_4 else 0 - u_7_4) then (if 0 ≤ u_7_4 then u_7_4 else 0 - u_7_4) else gr_)), (0, .ref qM), (1, .int tn), (2, .int 0), (3, .int what), (4, .ref qQl)]) hx hb dX7_ahead_112 hl (k := 7) rfl (nI_inc _) (by decide) rfl (fun ls hl => ?_)
        refine lv_goto (tgt := 61) hx hb dX7_ahead_115 (by decide) ?_
        exact ih (j + 1) (if gr_ < (if 0 ≤ u_7_4 then u_7_4 else 0 - u_7_4) then (if 0 ≤ u_7_4 then u_7_4 else 0 - u_7_4) else gr_) (br + 1) u_7_1 u_7_2 u_7_3 u_7_4 u_7_5 u_7_6 (wl8 - 1) u_7_7 (wl10 - 1) u_7_8 u_7_9 u_7_10 u_7_11 u_7_12 u_7_13 u_7_14 u_7_15 (wr8 - 1) u_7_16 (wr10 - 1) u_7_17 u_7_18 (by omega) (by have := bNleS (by omega) (by decide) hK c_1; omega) hK hu _ _ _ (lv_sub hl [3, 4, 5, 6, 7, 2, 1, 0] rfl) Y
set_option maxHeartbeats 4000000 in
set_option maxRecDepth 100000 in
theorem c_ahead_0 (l : Launch) (D : va_G) (cyC cyI : ClassId) (qM : Nat) (qT : Nat) (qQ : Nat) (qR : Nat) (qD : Nat) (qN : Nat) (q1 : Nat) (q2 : Nat) (q3 : Nat) (q4 : Nat) (ud : Int32) (nk : Int32) (qNp : Nat) (nv : Int32) (qNpl : Nat) (nl0 : Int32) (nl1 : Int32) (nl2 : Int32) (nl3 : Int32) (nl4 : Int32) (nl5 : Int32) (nl6 : Int32) (nl7 : Int32) (nl8 : Int32) (nl9 : Int32) (nl10 : Int32) (nl11 : Int32) (nlb : Bool) (qNpr : Nat) (nr0 : Int32) (nr1 : Int32) (nr2 : Int32) (nr3 : Int32) (nr4 : Int32) (nr5 : Int32) (nr6 : Int32) (nr7 : Int32) (nr8 : Int32) (nr9 : Int32) (nr10 : Int32) (nr11 : Int32) (nrb : Bool) (qNs : Nat) (qNz : Nat) (qRl : Nat) (qRr : Nat) (r0 : Int32) (r1 : Int32) (r2 : Int32) (r3 : Int32) (r4 : Int32) (tv : Int32) (qQl : Nat) (tl0 : Int32) (tl1 : Int32) (tl2 : Int32) (tl3 : Int32) (tl4 : Int32) (tl5 : Int32) (tl6 : Int32) (tl7 : Int32) (tl8 : Int32) (tl9 : Int32) (tl10 : Int32) (tl11 : Int32) (tlb : Bool) (qQr : Nat) (tr0 : Int32) (tr1 : Int32) (tr2 : Int32) (tr3 : Int32) (tr4 : Int32) (tr5 : Int32) (tr6 : Int32) (tr7 : Int32) (tr8 : Int32) (tr9 : Int32) (tr10 : Int32) (tr11 : Int32) (trb : Bool) (tn : Int32) (what : Int32) (o0 : Int32) (o1 : Int32) (o2 : Int32) (o3 : Int32) (o4 : Int32) (o5 : Int32) (o6 : Int32) (o7 : Int32) (o8 : Int32) (o9 : Int32) (o10 : Int32) (o11 : Int32) (o12 : Int32) (o13 : Int32) (o14 : Bool) (o15 : Int32) (o16 : Int32) (o17 : Int32) (o18 : Int32) (o19 : Int32) (o20 : Int32) (o21 : Int32) (o22 : Int32) (o23 : Int32) (o24 : Int32) (o25 : Int32) (o26 : Int32) (o27 : Bool) (hu : s_ahead_0 nv nl0 nl1 nl2 nl3 nl4 nl5 nl6 nl7 nl8 nl9 nl10 nl11 nlb nr0 nr1 nr2 nr3 nr4 nr5 nr6 nr7 nr8 nr9 nr10 nr11 nrb r0 r1 r2 r3 r4 tv tl0 tl1 tl2 tl3 tl4 tl5 tl6 tl7 tl8 tl9 tl10 tl11 tlb tr0 tr1 tr2 tr3 tr4 tr5 tr6 tr7 tr8 tr9 tr10 tr11 trb tn what = (o0, o1, o2, o3, o4, o5, o6, o7, o8, o9, o10, o11, o12, o13, o14, o15, o16, o17, o18, o19, o20, o21, o22, o23, o24, o25, o26, o27)) : CI l yX7_ahead wsX7_ahead { frames := 5, cells := 0, slots := 0, locals := 108 } D cyC cyI [.ref qM, .int tn, .int 0, .int what] [(qM, .inr (7, [.ref qT, .ref qQ, .ref qR, .ref qD, .ref qN, .ref q1, .ref q2, .ref q3, .ref q4, .int ud])), (qN, .inr (5, [.ref qNp, .ref qNs, .ref qNz, .int nk])), (qNp, .inr (2, [.ref qNpl, .ref qNpr, .int nv])), (qNpl, .inr (0, [.int nl0, .int nl1, .int nl2, .int nl3, .int nl4, .int nl5, .int nl6, .int nl7, .int nl8, .int nl9, .int nl10, .int nl11, .int (bB nlb)])), (qNpr, .inr (0, [.int nr0, .int nr1, .int nr2, .int nr3, .int nr4, .int nr5, .int nr6, .int nr7, .int nr8, .int nr9, .int nr10, .int nr11, .int (bB nrb)])), (qR, .inr (1, [.int r0, .int r1, .int r2, .int r3, .int r4, .ref qRl, .ref qRr])), (qQ, .inr (2, [.ref qQl, .ref qQr, .int tv])), (qQl, .inr (0, [.int tl0, .int tl1, .int tl2, .int tl3, .int tl4, .int tl5, .int tl6, .int tl7, .int tl8, .int tl9, .int tl10, .int tl11, .int (bB tlb)])), (qQr, .inr (0, [.int tr0, .int tr1, .int tr2, .int tr3, .int tr4, .int tr5, .int tr6, .int tr7, .int tr8, .int tr9, .int tr10, .int tr11, .int (bB trb)]))] o0 [(qM, .inr (7, [.ref qT, .ref qQ, .ref qR, .ref qD, .ref qN, .ref q1, .ref q2, .ref q3, .ref q4, .int ud])), (qN, .inr (5, [.ref qNp, .ref qNs, .ref qNz, .int nk])), (qNp, .inr (2, [.ref qNpl, .ref qNpr, .int nv])), (qNpl, .inr (0, [.int nl0, .int nl1, .int nl2, .int nl3, .int nl4, .int nl5, .int nl6, .int nl7, .int nl8, .int nl9, .int nl10, .int nl11, .int (bB nlb)])), (qNpr, .inr (0, [.int nr0, .int nr1, .int nr2, .int nr3, .int nr4, .int nr5, .int nr6, .int nr7, .int nr8, .int nr9, .int nr10, .int nr11, .int (bB nrb)])), (qR, .inr (1, [.int r0, .int r1, .int r2, .int r3, .int r4, .ref qRl, .ref qRr])), (qQ, .inr (2, [.ref qQl, .ref qQr, .int o1])), (qQl, .inr (0, [.int o2, .int o3, .int o4, .int o5, .int o6, .int o7, .int o8, .int o9, .int o10, .int o11, .int o12, .int o13, .int (bB o14)])), (qQr, .inr (0, [.int o15, .int o16, .int o17, .int o18, .int o19, .int o20, .int o21, .int o22, .int o23, .int o24, .int o25, .int o26, .int (bB o27)]))] := by
  refine CI.of (cc := cX7_ahead) (n := 8) (ret := (some .int)) (by decide +kernel) rfl (Nat.le_of_ble_eq_true rfl) ?_
  intro p_ e_ s_ m_ bl_ me_ cd_ A_ ls X Y hr hlk hl
  have hx := X.1.1
  have hb := X.1.2.1
  have hl : lv_has ls 8 [(0, .ref qM), (1, .int tn), (2, .int 0), (3, .int what)] := hl
  unfold s_ahead_0 at hu
  refine lv_iload_n hx hb dX7_ahead_0 rfl (lv_at hl 1 rfl) ?_
  refine lv_iconst (v := 1) hx hb dX7_ahead_1 (by decide) ?_
  refine lv_bipush (v := 60) hx hb dX7_ahead_2 (by decide) ?_
  refine bSI (As := [.int tn, .int 1, .int 60]) (rest := []) X Y (c_isWithin l D cyC cyI tn 1 60 (s_isWithin tn 1 60) rfl) gX7_ahead_X7_isWithin rfl ⟨rfl, rfl⟩ hd_X7_isWithin.2 ⟨(Nat.le_of_ble_eq_true rfl), (Nat.le_of_ble_eq_true rfl)⟩ rfl rfl hl.1 (Nat.le_of_ble_eq_true rfl) ⟨Nat.zero_le _, Nat.zero_le _⟩ dX7_ahead_4 (fun H locs Y => ?_)
  refine lv_if_eq (tgt := 26) hx hb dX7_ahead_7 (by decide) (fun c_1 => ?_) (fun c_1 => ?_)
  · have c_1 := bB_f c_1
    rw [if_neg c_1] at hu
    refine lv_iconst (v := (-1)) hx hb dX7_ahead_26 (by decide) ?_
    have h9 := (Prod.mk.inj hu).1; replace hu := (Prod.mk.inj hu).2; subst h9
    have h9 := (Prod.mk.inj hu).1; replace hu := (Prod.mk.inj hu).2; subst h9
    have h9 := (Prod.mk.inj hu).1; replace hu := (Prod.mk.inj hu).2; subst h9
    have h9 := (Prod.mk.inj hu).1; replace hu := (Prod.mk.inj hu).2; subst h9
    have h9 := (Prod.mk.inj hu).1; replace hu := (Prod.mk.inj hu).2; subst h9
    have h9 := (Prod.mk.inj hu).1; replace hu := (Prod.mk.inj hu).2; subst h9
    have h9 := (Prod.mk.inj hu).1; replace hu := (Prod.mk.inj hu).2; subst h9
    have h9 := (Prod.mk.inj hu).1; replace hu := (Prod.mk.inj hu).2; subst h9
    have h9 := (Prod.mk.inj hu).1; replace hu := (Prod.mk.inj hu).2; subst h9
    have h9 := (Prod.mk.inj hu).1; replace hu := (Prod.mk.inj hu).2; subst h9
    have h9 := (Prod.mk.inj hu).1; replace hu := (Prod.mk.inj hu).2; subst h9
    have h9 := (Prod.mk.inj hu).1; replace hu := (Prod.mk.inj hu).2; subst h9
    have h9 := (Prod.mk.inj hu).1; replace hu := (Prod.mk.inj hu).2; subst h9
    have h9 := (Prod.mk.inj hu).1; replace hu := (Prod.mk.inj hu).2; subst h9
    have h9 := (Prod.mk.inj hu).1; replace hu := (Prod.mk.inj hu).2; subst h9
    have h9 := (Prod.mk.inj hu).1; replace hu := (Prod.mk.inj hu).2; subst h9
    have h9 := (Prod.mk.inj hu).1; replace hu := (Prod.mk.inj hu).2; subst h9
    have h9 := (Prod.mk.inj hu).1; replace hu := (Prod.mk.inj hu).2; subst h9
    have h9 := (Prod.mk.inj hu).1; replace hu := (Prod.mk.inj hu).2; subst h9
    have h9 := (Prod.mk.inj hu).1; replace hu := (Prod.mk.inj hu).2; subst h9
    have h9 := (Prod.mk.inj hu).1; replace hu := (Prod.mk.inj hu).2; subst h9
    have h9 := (Prod.mk.inj hu).1; replace hu := (Prod.mk.inj hu).2; subst h9
    have h9 := (Prod.mk.inj hu).1; replace hu := (Prod.mk.inj hu).2; subst h9
    have h9 := (Prod.mk.inj hu).1; replace hu := (Prod.mk.inj hu).2; subst h9
    have h9 := (Prod.mk.inj hu).1; replace hu := (Prod.mk.inj hu).2; subst h9
    have h9 := (Prod.mk.inj hu).1; replace hu := (Prod.mk.inj hu).2; subst h9
    have h9 := (Prod.mk.inj hu).1; replace hu := (Prod.mk.inj hu).2; subst h9
    subst hu
    exact bEndI X Y hr hlk dX7_ahead_27 rfl rfl
  · have c_1 := bB_t c_1
    rw [if_pos c_1] at hu
    refine lv_iload_n hx hb dX7_ahead_10 rfl (lv_at hl 2 rfl) ?_
    refine bSI (As := [.int 0]) (rest := []) X Y (c_isCrane l D cyC cyI 0 (s_isCrane 0) rfl) gX7_ahead_X7_isCrane rfl ⟨rfl, rfl⟩ hd_X7_isCrane.2 ⟨(Nat.le_of_ble_eq_true rfl), (Nat.le_of_ble_eq_true rfl)⟩ rfl rfl hl.1 (Nat.le_of_ble_eq_true rfl) ⟨Nat.zero_le _, Nat.zero_le _⟩ dX7_ahead_11 (fun H locs Y => ?_)
    refine lv_if_eq (tgt := 26) hx hb dX7_ahead_14 (by decide) (fun c_2 => ?_) (fun c_2 => ?_)
    · have c_2 := bB_f c_2
      rw [if_neg c_2] at hu
      refine lv_iconst (v := (-1)) hx hb dX7_ahead_26 (by decide) ?_
      have h9 := (Prod.mk.inj hu).1; replace hu := (Prod.mk.inj hu).2; subst h9
      have h9 := (Prod.mk.inj hu).1; replace hu := (Prod.mk.inj hu).2; subst h9
      have h9 := (Prod.mk.inj hu).1; replace hu := (Prod.mk.inj hu).2; subst h9
      have h9 := (Prod.mk.inj hu).1; replace hu := (Prod.mk.inj hu).2; subst h9
      have h9 := (Prod.mk.inj hu).1; replace hu := (Prod.mk.inj hu).2; subst h9
      have h9 := (Prod.mk.inj hu).1; replace hu := (Prod.mk.inj hu).2; subst h9
      have h9 := (Prod.mk.inj hu).1; replace hu := (Prod.mk.inj hu).2; subst h9
      have h9 := (Prod.mk.inj hu).1; replace hu := (Prod.mk.inj hu).2; subst h9
      have h9 := (Prod.mk.inj hu).1; replace hu := (Prod.mk.inj hu).2; subst h9
      have h9 := (Prod.mk.inj hu).1; replace hu := (Prod.mk.inj hu).2; subst h9
      have h9 := (Prod.mk.inj hu).1; replace hu := (Prod.mk.inj hu).2; subst h9
      have h9 := (Prod.mk.inj hu).1; replace hu := (Prod.mk.inj hu).2; subst h9
      have h9 := (Prod.mk.inj hu).1; replace hu := (Prod.mk.inj hu).2; subst h9
      have h9 := (Prod.mk.inj hu).1; replace hu := (Prod.mk.inj hu).2; subst h9
      have h9 := (Prod.mk.inj hu).1; replace hu := (Prod.mk.inj hu).2; subst h9
      have h9 := (Prod.mk.inj hu).1; replace hu := (Prod.mk.inj hu).2; subst h9
      have h9 := (Prod.mk.inj hu).1; replace hu := (Prod.mk.inj hu).2; subst h9
      have h9 := (Prod.mk.inj hu).1; replace hu := (Prod.mk.inj hu).2; subst h9
      have h9 := (Prod.mk.inj hu).1; replace hu := (Prod.mk.inj hu).2; subst h9
      have h9 := (Prod.mk.inj hu).1; replace hu := (Prod.mk.inj hu).2; subst h9
      have h9 := (Prod.mk.inj hu).1; replace hu := (Prod.mk.inj hu).2; subst h9
      have h9 := (Prod.mk.inj hu).1; replace hu := (Prod.mk.inj hu).2; subst h9
      have h9 := (Prod.mk.inj hu).1; replace hu := (Prod.mk.inj hu).2; subst h9
      have h9 := (Prod.mk.inj hu).1; replace hu := (Prod.mk.inj hu).2; subst h9
      have h9 := (Prod.mk.inj hu).1; replace hu := (Prod.mk.inj hu).2; subst h9
      have h9 := (Prod.mk.inj hu).1; replace hu := (Prod.mk.inj hu).2; subst h9
      have h9 := (Prod.mk.inj hu).1; replace hu := (Prod.mk.inj hu).2; subst h9
      subst hu
      exact bEndI X Y hr hlk dX7_ahead_27 rfl rfl
    · have c_2 := bB_t c_2
      rw [if_pos c_2] at hu
      refine lv_iload_n hx hb dX7_ahead_17 rfl (lv_at hl 3 rfl) ?_
      refine lv_iconst (v := 0) hx hb dX7_ahead_18 (by decide) ?_
      refine lv_iconst (v := 5) hx hb dX7_ahead_19 (by decide) ?_
      refine bSI (As := [.int what, .int 0, .int 5]) (rest := []) X Y (c_isWithin l D cyC cyI what 0 5 (s_isWithin what 0 5) rfl) gX7_ahead_X7_isWithin rfl ⟨rfl, rfl⟩ hd_X7_isWithin.2 ⟨(Nat.le_of_ble_eq_true rfl), (Nat.le_of_ble_eq_true rfl)⟩ rfl rfl hl.1 (Nat.le_of_ble_eq_true rfl) ⟨Nat.zero_le _, Nat.zero_le _⟩ dX7_ahead_20 (fun H locs Y => ?_)
      refine lv_if_ne (tgt := 28) hx hb dX7_ahead_23 (by decide) (fun c_3 => ?_) (fun c_3 => ?_)
      · have c_3 := bB_t c_3
        rw [if_pos c_3] at hu
        refine lv_aload_n hx hb dX7_ahead_28 rfl (lv_at hl 0 rfl) ?_
        refine bGet (v := .ref qQ) (T := TX7) (N := 10) (ci := 7) X Y i_X7_ahead_X7 0 rfl rfl 1 (Nat.le_of_ble_eq_true rfl) f_X7_ahead_19 rfl rfl dX7_ahead_29 ?_
        refine lv_aload_n hx hb dX7_ahead_32 rfl (lv_at hl 0 rfl) ?_
        refine bGet (v := .ref qN) (T := TX7) (N := 10) (ci := 7) X Y i_X7_ahead_X7 0 rfl rfl 4 (Nat.le_of_ble_eq_true rfl) f_X7_ahead_36 rfl rfl dX7_ahead_33 ?_
        refine bGet (v := .ref qNp) (T := TX5) (N := 4) (ci := 5) X Y i_X7_ahead_X5 1 rfl rfl 0 (Nat.le_of_ble_eq_true rfl) f_X7_ahead_95 rfl rfl dX7_ahead_36 ?_
        refine bVV (As := [.ref qNp]) (rest := []) (wc := [(qQ, .inr (2, [.ref qQl, .ref qQr, .int tv])), (qQl, .inr (0, [.int tl0, .int tl1, .int tl2, .int tl3, .int tl4, .int tl5, .int tl6, .int tl7, .int tl8, .int tl9, .int tl10, .int tl11, .int (bB tlb)])), (qQr, .inr (0, [.int tr0, .int tr1, .int tr2, .int tr3, .int tr4, .int tr5, .int tr6, .int tr7, .int tr8, .int tr9, .int tr10, .int tr11, .int (bB trb)])), (qNp, .inr (2, [.ref qNpl, .ref qNpr, .int nv])), (qNpl, .inr (0, [.int nl0, .int nl1, .int nl2, .int nl3, .int nl4, .int nl5, .int nl6, .int nl7, .int nl8, .int nl9, .int nl10, .int nl11, .int (bB nlb)])), (qNpr, .inr (0, [.int nr0, .int nr1, .int nr2, .int nr3, .int nr4, .int nr5, .int nr6, .int nr7, .int nr8, .int nr9, .int nr10, .int nr11, .int (bB nrb)]))]) (w1 := [(qQ, .inr (2, [.ref qQl, .ref qQr, .int nv])), (qQl, .inr (0, [.int nl0, .int nl1, .int nl2, .int nl3, .int nl4, .int nl5, .int nl6, .int nl7, .int nl8, .int nl9, .int nl10, .int nl11, .int (bB nlb)])), (qQr, .inr (0, [.int nr0, .int nr1, .int nr2, .int nr3, .int nr4, .int nr5, .int nr6, .int nr7, .int nr8, .int nr9, .int nr10, .int nr11, .int (bB nrb)])), (qNp, .inr (2, [.ref qNpl, .ref qNpr, .int nv])), (qNpl, .inr (0, [.int nl0, .int nl1, .int nl2, .int nl3, .int nl4, .int nl5, .int nl6, .int nl7, .int nl8, .int nl9, .int nl10, .int nl11, .int (bB nlb)])), (qNpr, .inr (0, [.int nr0, .int nr1, .int nr2, .int nr3, .int nr4, .int nr5, .int nr6, .int nr7, .int nr8, .int nr9, .int nr10, .int nr11, .int (bB nrb)]))]) (ws' := [(qM, .inr (7, [.ref qT, .ref qQ, .ref qR, .ref qD, .ref qN, .ref q1, .ref q2, .ref q3, .ref q4, .int ud])), (qN, .inr (5, [.ref qNp, .ref qNs, .ref qNz, .int nk])), (qNp, .inr (2, [.ref qNpl, .ref qNpr, .int nv])), (qNpl, .inr (0, [.int nl0, .int nl1, .int nl2, .int nl3, .int nl4, .int nl5, .int nl6, .int nl7, .int nl8, .int nl9, .int nl10, .int nl11, .int (bB nlb)])), (qNpr, .inr (0, [.int nr0, .int nr1, .int nr2, .int nr3, .int nr4, .int nr5, .int nr6, .int nr7, .int nr8, .int nr9, .int nr10, .int nr11, .int (bB nrb)])), (qR, .inr (1, [.int r0, .int r1, .int r2, .int r3, .int r4, .ref qRl, .ref qRr])), (qQ, .inr (2, [.ref qQl, .ref qQr, .int nv])), (qQl, .inr (0, [.int nl0, .int nl1, .int nl2, .int nl3, .int nl4, .int nl5, .int nl6, .int nl7, .int nl8, .int nl9, .int nl10, .int nl11, .int (bB nlb)])), (qQr, .inr (0, [.int nr0, .int nr1, .int nr2, .int nr3, .int nr4, .int nr5, .int nr6, .int nr7, .int nr8, .int nr9, .int nr10, .int nr11, .int (bB nrb)]))]) (ad := [qQ, qQl, qQr, qNp, qNpl, qNpr]) (wr := [(qM, .inr (7, [.ref qT, .ref qQ, .ref qR, .ref qD, .ref qN, .ref q1, .ref q2, .ref q3, .ref q4, .int ud])), (qN, .inr (5, [.ref qNp, .ref qNs, .ref qNz, .int nk])), (qR, .inr (1, [.int r0, .int r1, .int r2, .int r3, .int r4, .ref qRl, .ref qRr]))]) (nn := 9) (ci := 2) (q0 := 6) X Y (c_pairCopy l D cyC cyI qQ tv qQl tl0 tl1 tl2 tl3 tl4 tl5 tl6 tl7 tl8 tl9 tl10 tl11 tlb qQr tr0 tr1 tr2 tr3 tr4 tr5 tr6 tr7 tr8 tr9 tr10 tr11 trb qNp nv qNpl nl0 nl1 nl2 nl3 nl4 nl5 nl6 nl7 nl8 nl9 nl10 nl11 nlb qNpr nr0 nr1 nr2 nr3 nr4 nr5 nr6 nr7 nr8 nr9 nr10 nr11 nrb) gX7_ahead_X2_copyFrom rfl ⟨rfl, rfl⟩ hd_X2_copyFrom ⟨(Nat.le_of_ble_eq_true rfl), (Nat.le_of_ble_eq_true rfl)⟩ rfl rfl rfl [6, 7, 8, 2, 3, 4] [0, 1, 5] rfl rfl rfl rfl rfl rfl rfl rfl (by decide) rfl rfl hl.1 (Nat.le_of_ble_eq_true rfl) ⟨Nat.zero_le _, Nat.zero_le _⟩ dX7_ahead_39 (fun H locs Y => ?_)
        refine lv_aload_n hx hb dX7_ahead_42 rfl (lv_at hl 0 rfl) ?_
        refine bGet (v := .ref qQ) (T := TX7) (N := 10) (ci := 7) X Y i_X7_ahead_X7 0 rfl rfl 1 (Nat.le_of_ble_eq_true rfl) f_X7_ahead_19 rfl rfl dX7_ahead_43 ?_
        refine lv_iload_n hx hb dX7_ahead_46 rfl (lv_at hl 2 rfl) ?_
        refine bVR0 (As := [.int 0]) (rest := []) (wc := [(qQ, .inr (2, [.ref qQl, .ref qQr, .int nv]))]) (ci := 2) (q0 := 6) X Y (c_side0 l D cyC cyI qQ qQl qQr nv) gX7_ahead_X2_side rfl ⟨rfl, rfl⟩ hd_X2_side ⟨(Nat.le_of_ble_eq_true rfl), (Nat.le_of_ble_eq_true rfl)⟩ rfl rfl rfl [6] rfl rfl rfl rfl hl.1 (Nat.le_of_ble_eq_true rfl) ⟨Nat.zero_le _, Nat.zero_le _⟩ dX7_ahead_47 (fun H locs Y => ?_)
        refine lv_astore (lv' := [(4, .ref qQl), (0, .ref qM), (1, .int tn), (2, .int 0), (3, .int what)]) hx hb dX7_ahead_50 hl (by decide) rfl (fun ls hl => ?_)
        refine lv_iconst (v := 0) hx hb dX7_ahead_52 (by decide) ?_
        refine lv_istore (lv' := [(5, .int 0), (4, .ref qQl), (0, .ref qM), (1, .int tn), (2, .int 0), (3, .int what)]) hx hb dX7_ahead_53 hl (by decide) rfl (fun ls hl => ?_)
        refine lv_iconst (v := 0) hx hb dX7_ahead_55 (by decide) ?_
        refine lv_istore (lv' := [(6, .int 0), (5, .int 0), (4, .ref qQl), (0, .ref qM), (1, .int tn), (2, .int 0), (3, .int what)]) hx hb dX7_ahead_56 hl (by decide) rfl (fun ls hl => ?_)
        refine lv_iconst (v := 0) hx hb dX7_ahead_58 (by decide) ?_
        refine lv_istore (lv' := [(7, .int 0), (6, .int 0), (5, .int 0), (4, .ref qQl), (0, .ref qM), (1, .int tn), (2, .int 0), (3, .int what)]) hx hb dX7_ahead_59 hl (by decide) rfl (fun ls hl => ?_)
        exact lp_ahead_0 l D cyC cyI qM qT qQ qR qD qN q1 q2 q3 q4 ud nk qNp nv qNpl nl0 nl1 nl2 nl3 nl4 nl5 nl6 nl7 nl8 nl9 nl10 nl11 nlb qNpr nr0 nr1 nr2 nr3 nr4 nr5 nr6 nr7 nr8 nr9 nr10 nr11 nrb qNs qNz qRl qRr r0 r1 r2 r3 r4 tv qQl tl0 tl1 tl2 tl3 tl4 tl5 tl6 tl7 tl8 tl9 tl10 tl11 tlb qQr tr0 tr1 tr2 tr3 tr4 tr5 tr6 tr7 tr8 tr9 tr10 tr11 trb tn what o0 o1 o2 o3 o4 o5 o6 o7 o8 o9 o10 o11 o12 o13 o14 o15 o16 o17 o18 o19 o20 o21 o22 o23 o24 o25 o26 o27 X hr hlk (61) 0 0 0 nl0 nl1 nl2 nl4 nl5 nl6 nl8 nl9 nl10 nl11 nlb nr0 nr1 nr2 nr4 nr5 nr6 nr8 nr9 nr10 nr11 nrb (by omega) (by omega) (isWithin_hi c_1) hu _ _ _ (lv_sub hl [4, 5, 6, 7, 3, 2, 1, 0] rfl) Y
      · have c_3 := bB_f c_3
        rw [if_neg c_3] at hu
        refine lv_iconst (v := (-1)) hx hb dX7_ahead_26 (by decide) ?_
        have h9 := (Prod.mk.inj hu).1; replace hu := (Prod.mk.inj hu).2; subst h9
        have h9 := (Prod.mk.inj hu).1; replace hu := (Prod.mk.inj hu).2; subst h9
        have h9 := (Prod.mk.inj hu).1; replace hu := (Prod.mk.inj hu).2; subst h9
        have h9 := (Prod.mk.inj hu).1; replace hu := (Prod.mk.inj hu).2; subst h9
        have h9 := (Prod.mk.inj hu).1; replace hu := (Prod.mk.inj hu).2; subst h9
        have h9 := (Prod.mk.inj hu).1; replace hu := (Prod.mk.inj hu).2; subst h9
        have h9 := (Prod.mk.inj hu).1; replace hu := (Prod.mk.inj hu).2; subst h9
        have h9 := (Prod.mk.inj hu).1; replace hu := (Prod.mk.inj hu).2; subst h9
        have h9 := (Prod.mk.inj hu).1; replace hu := (Prod.mk.inj hu).2; subst h9
        have h9 := (Prod.mk.inj hu).1; replace hu := (Prod.mk.inj hu).2; subst h9
        have h9 := (Prod.mk.inj hu).1; replace hu := (Prod.mk.inj hu).2; subst h9
        have h9 := (Prod.mk.inj hu).1; replace hu := (Prod.mk.inj hu).2; subst h9
        have h9 := (Prod.mk.inj hu).1; replace hu := (Prod.mk.inj hu).2; subst h9
        have h9 := (Prod.mk.inj hu).1; replace hu := (Prod.mk.inj hu).2; subst h9
        have h9 := (Prod.mk.inj hu).1; replace hu := (Prod.mk.inj hu).2; subst h9
        have h9 := (Prod.mk.inj hu).1; replace hu := (Prod.mk.inj hu).2; subst h9
        have h9 := (Prod.mk.inj hu).1; replace hu := (Prod.mk.inj hu).2; subst h9
        have h9 := (Prod.mk.inj hu).1; replace hu := (Prod.mk.inj hu).2; subst h9
        have h9 := (Prod.mk.inj hu).1; replace hu := (Prod.mk.inj hu).2; subst h9
        have h9 := (Prod.mk.inj hu).1; replace hu := (Prod.mk.inj hu).2; subst h9
        have h9 := (Prod.mk.inj hu).1; replace hu := (Prod.mk.inj hu).2; subst h9
        have h9 := (Prod.mk.inj hu).1; replace hu := (Prod.mk.inj hu).2; subst h9
        have h9 := (Prod.mk.inj hu).1; replace hu := (Prod.mk.inj hu).2; subst h9
        have h9 := (Prod.mk.inj hu).1; replace hu := (Prod.mk.inj hu).2; subst h9
        have h9 := (Prod.mk.inj hu).1; replace hu := (Prod.mk.inj hu).2; subst h9
        have h9 := (Prod.mk.inj hu).1; replace hu := (Prod.mk.inj hu).2; subst h9
        have h9 := (Prod.mk.inj hu).1; replace hu := (Prod.mk.inj hu).2; subst h9
        subst hu
        exact bEndI X Y hr hlk dX7_ahead_27 rfl rfl
theorem i_X7_quiet_X7 : ∀ w ∈ wsX70, w ∈ wsX7_quiet := by decide +kernel
theorem f_X7_quiet_19 : Cond.fieldLink RX7 19 "SwingCranes" "trial" "LSwingCranes$Pair;" ∈ wsX7_quiet := by decide +kernel
theorem f_X7_quiet_36 : Cond.fieldLink RX7 36 "SwingCranes" "now" "LSwingCranes$Story;" ∈ wsX7_quiet := by decide +kernel
theorem i_X7_quiet_X5 : ∀ w ∈ wsX50, w ∈ wsX7_quiet := by decide +kernel
theorem f_X7_quiet_95 : Cond.fieldLink RX7 95 "SwingCranes$Story" "pair" "LSwingCranes$Pair;" ∈ wsX7_quiet := by decide +kernel
theorem f_X7_quiet_26 : Cond.fieldLink RX7 26 "SwingCranes" "rules" "LSwingCranes$Layout;" ∈ wsX7_quiet := by decide +kernel
def g_quiet_0 (nv : Int32) (nl3 : Int32) (nl7 : Int32) (nr3 : Int32) (nr7 : Int32) (r0 : Int32) (r1 : Int32) (r2 : Int32) (r3 : Int32) (r4 : Int32) : Nat → Nat → Int32 → Int32 → Int32 → Int32 → Int32 → Int32 → Int32 → Int32 → Int32 → Int32 → Bool → Int32 → Int32 → Int32 → Int32 → Int32 → Int32 → Int32 → Int32 → Int32 → Int32 → Bool → Int32 × Int32 × Int32 × Int32 × Int32 × Int32 × Int32 × Int32 × Int32 × Int32 × Int32 × Int32 × Int32 × Int32 × Bool × Int32 × Int32 × Int32 × Int32 × Int32 × Int32 × Int32 × Int32 × Int32 × Int32 × Int32 × Int32 × Bool
  | 0, _, _, _, _, _, _, _, _, _, _, _, _, _, _, _, _, _, _, _, _, _, _, _ => (0, 0, 0, 0, 0, 0, 0, 0, 0, 0, 0, 0, 0, 0, false, 0, 0, 0, 0, 0, 0, 0, 0, 0, 0, 0, 0, false)
  | n_ + 1, j, wl0, wl1, wl2, wl4, wl5, wl6, wl8, wl9, wl10, wl11, wlb, wr0, wr1, wr2, wr4, wr5, wr6, wr8, wr9, wr10, wr11, wrb =>
    if 60 ≤ nI j then
      if (s_isQuiet wl1 wl4 wl5 wl6 wl9 wl11) = true then
        (60, nv, wl0, wl1, wl2, nl3, wl4, wl5, wl6, nl7, wl8, wl9, wl10, wl11, wlb, wr0, wr1, wr2, nr3, wr4, wr5, wr6, nr7, wr8, wr9, wr10, wr11, wrb)
      else
        ((-4), nv, wl0, wl1, wl2, nl3, wl4, wl5, wl6, nl7, wl8, wl9, wl10, wl11, wlb, wr0, wr1, wr2, nr3, wr4, wr5, wr6, nr7, wr8, wr9, wr10, wr11, wrb)
    else
      if (s_isQuiet wl1 wl4 wl5 wl6 wl9 wl11) = true then
        (nI j, nv, wl0, wl1, wl2, nl3, wl4, wl5, wl6, nl7, wl8, wl9, wl10, wl11, wlb, wr0, wr1, wr2, nr3, wr4, wr5, wr6, nr7, wr8, wr9, wr10, wr11, wrb)
      else
        match s_pairGoOn nv wl0 wl1 wl2 nl3 wl4 wl5 wl6 nl7 wl8 wl9 wl10 wl11 wr0 wr1 wr2 nr3 wr4 wr5 wr6 nr7 wr8 wr9 wr10 wr11 r0 r1 r2 r3 r4 with
        | (u_4_0, u_4_1, u_4_2, u_4_3, u_4_4, u_4_5, u_4_6, u_4_7, u_4_8, u_4_9, u_4_10, u_4_11, u_4_12, u_4_13, u_4_14, u_4_15, u_4_16, u_4_17, u_4_18) =>
          g_quiet_0 nv nl3 nl7 nr3 nr7 r0 r1 r2 r3 r4 n_ (j + 1) u_4_1 u_4_2 u_4_3 u_4_4 u_4_5 u_4_6 (wl8 - 1) u_4_7 (wl10 - 1) u_4_8 u_4_9 u_4_10 u_4_11 u_4_12 u_4_13 u_4_14 u_4_15 (wr8 - 1) u_4_16 (wr10 - 1) u_4_17 u_4_18
def s_quiet_0 (nv : Int32) (nl0 : Int32) (nl1 : Int32) (nl2 : Int32) (nl3 : Int32) (nl4 : Int32) (nl5 : Int32) (nl6 : Int32) (nl7 : Int32) (nl8 : Int32) (nl9 : Int32) (nl10 : Int32) (nl11 : Int32) (nlb : Bool) (nr0 : Int32) (nr1 : Int32) (nr2 : Int32) (nr3 : Int32) (nr4 : Int32) (nr5 : Int32) (nr6 : Int32) (nr7 : Int32) (nr8 : Int32) (nr9 : Int32) (nr10 : Int32) (nr11 : Int32) (nrb : Bool) (r0 : Int32) (r1 : Int32) (r2 : Int32) (r3 : Int32) (r4 : Int32) (tv : Int32) (tl0 : Int32) (tl1 : Int32) (tl2 : Int32) (tl3 : Int32) (tl4 : Int32) (tl5 : Int32) (tl6 : Int32) (tl7 : Int32) (tl8 : Int32) (tl9 : Int32) (tl10 : Int32) (tl11 : Int32) (tlb : Bool) (tr0 : Int32) (tr1 : Int32) (tr2 : Int32) (tr3 : Int32) (tr4 : Int32) (tr5 : Int32) (tr6 : Int32) (tr7 : Int32) (tr8 : Int32) (tr9 : Int32) (tr10 : Int32) (tr11 : Int32) (trb : Bool) : Int32 × Int32 × Int32 × Int32 × Int32 × Int32 × Int32 × Int32 × Int32 × Int32 × Int32 × Int32 × Int32 × Int32 × Bool × Int32 × Int32 × Int32 × Int32 × Int32 × Int32 × Int32 × Int32 × Int32 × Int32 × Int32 × Int32 × Bool :=
  if (s_isCrane 0) = true then
    match s_tellAtOnce nv nl6 nl8 nl9 nl10 nl11 nr6 nr8 nr9 nr10 nr11 0 0 with
    | (u_2_0, u_2_1, u_2_2, u_2_3, u_2_4, u_2_5, u_2_6, u_2_7, u_2_8) =>
      g_quiet_0 nv nl3 nl7 nr3 nr7 r0 r1 r2 r3 r4 (61) 0 nl0 nl1 nl2 nl4 nl5 nl6 u_2_1 u_2_2 u_2_3 u_2_4 nlb nr0 nr1 nr2 nr4 nr5 nr6 u_2_5 u_2_6 u_2_7 u_2_8 nrb
  else
    ((-1), tv, tl0, tl1, tl2, tl3, tl4, tl5, tl6, tl7, tl8, tl9, tl10, tl11, tlb, tr0, tr1, tr2, tr3, tr4, tr5, tr6, tr7, tr8, tr9, tr10, tr11, trb)
set_option maxHeartbeats 4000000 in
set_option maxRecDepth 100000 in
theorem lp_quiet_0 {p_ : Program} {e_ : Env} {s_ : State} {m_ : MethodId} {bl_ : List Frame} {me_ : Method} {cd_ : Code} {A_ : Nat → Prop} (l : Launch) (D : va_G) (cyC cyI : ClassId) (qM : Nat) (qT : Nat) (qQ : Nat) (qR : Nat) (qD : Nat) (qN : Nat) (q1 : Nat) (q2 : Nat) (q3 : Nat) (q4 : Nat) (ud : Int32) (nk : Int32) (qNp : Nat) (nv : Int32) (qNpl : Nat) (nl0 : Int32) (nl1 : Int32) (nl2 : Int32) (nl3 : Int32) (nl4 : Int32) (nl5 : Int32) (nl6 : Int32) (nl7 : Int32) (nl8 : Int32) (nl9 : Int32) (nl10 : Int32) (nl11 : Int32) (nlb : Bool) (qNpr : Nat) (nr0 : Int32) (nr1 : Int32) (nr2 : Int32) (nr3 : Int32) (nr4 : Int32) (nr5 : Int32) (nr6 : Int32) (nr7 : Int32) (nr8 : Int32) (nr9 : Int32) (nr10 : Int32) (nr11 : Int32) (nrb : Bool) (qNs : Nat) (qNz : Nat) (qRl : Nat) (qRr : Nat) (r0 : Int32) (r1 : Int32) (r2 : Int32) (r3 : Int32) (r4 : Int32) (tv : Int32) (qQl : Nat) (tl0 : Int32) (tl1 : Int32) (tl2 : Int32) (tl3 : Int32) (tl4 : Int32) (tl5 : Int32) (tl6 : Int32) (tl7 : Int32) (tl8 : Int32) (tl9 : Int32) (tl10 : Int32) (tl11 : Int32) (tlb : Bool) (qQr : Nat) (tr0 : Int32) (tr1 : Int32) (tr2 : Int32) (tr3 : Int32) (tr4 : Int32) (tr5 : Int32) (tr6 : Int32) (tr7 : Int32) (tr8 : Int32) (tr9 : Int32) (tr10 : Int32) (tr11 : Int32) (trb : Bool) (o0 : Int32) (o1 : Int32) (o2 : Int32) (o3 : Int32) (o4 : Int32) (o5 : Int32) (o6 : Int32) (o7 : Int32) (o8 : Int32) (o9 : Int32) (o10 : Int32) (o11 : Int32) (o12 : Int32) (o13 : Int32) (o14 : Bool) (o15 : Int32) (o16 : Int32) (o17 : Int32) (o18 : Int32) (o19 : Int32) (o20 : Int32) (o21 : Int32) (o22 : Int32) (o23 : Int32) (o24 : Int32) (o25 : Int32) (o26 : Int32) (o27 : Bool) (X : bX p_ s_ m_ ([.ref qM, .int 0] : List Value).toArray cd_ cX7_quiet 4 wsX7_quiet yX7_quiet.cls D cyC cyI) (hr : me_.sig.returnType = (some .int)) (hlk : me_.locks = false) : ∀ (n_ : Nat) (j : Nat) (wl0 : Int32) (wl1 : Int32) (wl2 : Int32) (wl4 : Int32) (wl5 : Int32) (wl6 : Int32) (wl8 : Int32) (wl9 : Int32) (wl10 : Int32) (wl11 : Int32) (wlb : Bool) (wr0 : Int32) (wr1 : Int32) (wr2 : Int32) (wr4 : Int32) (wr5 : Int32) (wr6 : Int32) (wr8 : Int32) (wr9 : Int32) (wr10 : Int32) (wr11 : Int32) (wrb : Bool) (hN : 61 ≤ j + n_) (hJ : j ≤ 60) (hu : g_quiet_0 nv nl3 nl7 nr3 nr7 r0 r1 r2 r3 r4 n_ j wl0 wl1 wl2 wl4 wl5 wl6 wl8 wl9 wl10 wl11 wlb wr0 wr1 wr2 wr4 wr5 wr6 wr8 wr9 wr10 wr11 wrb = (o0, o1, o2, o3, o4, o5, o6, o7, o8, o9, o10, o11, o12, o13, o14, o15, o16, o17, o18, o19, o20, o21, o22, o23, o24, o25, o26, o27)) (ls : Array Slot) (H : Heap) (locs : List Loc), lv_has ls 4 [(0, .ref qM), (1, .int 0), (2, .ref qQl), (3, .int (nI j))] → bY D A_ s_.heap [(qM, .inr (7, [.ref qT, .ref qQ, .ref qR, .ref qD, .ref qN, .ref q1, .ref q2, .ref q3, .ref q4, .int ud])), (qN, .inr (5, [.ref qNp, .ref qNs, .ref qNz, .int nk])), (qNp, .inr (2, [.ref qNpl, .ref qNpr, .int nv])), (qNpl, .inr (0, [.int nl0, .int nl1, .int nl2, .int nl3, .int nl4, .int nl5, .int nl6, .int nl7, .int nl8, .int nl9, .int nl10, .int nl11, .int (bB nlb)])), (qNpr, .inr (0, [.int nr0, .int nr1, .int nr2, .int nr3, .int nr4, .int nr5, .int nr6, .int nr7, .int nr8, .int nr9, .int nr10, .int nr11, .int (bB nrb)])), (qR, .inr (1, [.int r0, .int r1, .int r2, .int r3, .int r4, .ref qRl, .ref qRr])), (qQ, .inr (2, [.ref qQl, .ref qQr, .int nv])), (qQl, .inr (0, [.int wl0, .int wl1, .int wl2, .int nl3, .int wl4, .int wl5, .int wl6, .int nl7, .int wl8, .int wl9, .int wl10, .int wl11, .int (bB wlb)])), (qQr, .inr (0, [.int wr0, .int wr1, .int wr2, .int nr3, .int wr4, .int wr5, .int wr6, .int nr7, .int wr8, .int wr9, .int wr10, .int wr11, .int (bB wrb)]))] H locs → W p_ l e_ ({ frames := 5, cells := 0, slots := 0, locals := 108 } : Room) s_ m_ ([.ref qM, .int 0] : List Value).toArray bl_ me_ cd_ H locs 0 0 (bQI bl_ ([.ref qM, .int 0] : List Value).toArray s_ D [(qM, .inr (7, [.ref qT, .ref qQ, .ref qR, .ref qD, .ref qN, .ref q1, .ref q2, .ref q3, .ref q4, .int ud])), (qN, .inr (5, [.ref qNp, .ref qNs, .ref qNz, .int nk])), (qNp, .inr (2, [.ref qNpl, .ref qNpr, .int nv])), (qNpl, .inr (0, [.int nl0, .int nl1, .int nl2, .int nl3, .int nl4, .int nl5, .int nl6, .int nl7, .int nl8, .int nl9, .int nl10, .int nl11, .int (bB nlb)])), (qNpr, .inr (0, [.int nr0, .int nr1, .int nr2, .int nr3, .int nr4, .int nr5, .int nr6, .int nr7, .int nr8, .int nr9, .int nr10, .int nr11, .int (bB nrb)])), (qR, .inr (1, [.int r0, .int r1, .int r2, .int r3, .int r4, .ref qRl, .ref qRr])), (qQ, .inr (2, [.ref qQl, .ref qQr, .int o1])), (qQl, .inr (0, [.int o2, .int o3, .int o4, .int o5, .int o6, .int o7, .int o8, .int o9, .int o10, .int o11, .int o12, .int o13, .int (bB o14)])), (qQr, .inr (0, [.int o15, .int o16, .int o17, .int o18, .int o19, .int o20, .int o21, .int o22, .int o23, .int o24, .int o25, .int o26, .int (bB o27)]))] o0 A_) (F0 m_ 44 ls []) := by
  intro n_
  induction n_ with
  | zero =>
    intro j wl0 wl1 wl2 wl4 wl5 wl6 wl8 wl9 wl10 wl11 wlb wr0 wr1 wr2 wr4 wr5 wr6 wr8 wr9 wr10 wr11 wrb hN hJ hu ls H locs hl Y
    exfalso; omega
  | succ n_ ih =>
    intro j wl0 wl1 wl2 wl4 wl5 wl6 wl8 wl9 wl10 wl11 wlb wr0 wr1 wr2 wr4 wr5 wr6 wr8 wr9 wr10 wr11 wrb hN hJ hu ls H locs hl Y
    have hx := X.1.1
    have hb := X.1.2.1
    rw [g_quiet_0] at hu
    refine lv_iload_n hx hb dX7_quiet_44 rfl (lv_at hl 3 rfl) ?_
    refine lv_bipush (v := 60) hx hb dX7_quiet_45 (by decide) ?_
    refine lv_icmp_ge (tgt := 77) hx hb dX7_quiet_47 (by decide) (fun c_1 => ?_) (fun c_1 => ?_)
    · have c_1 : 60 ≤ nI j := c_1
      rw [if_pos c_1] at hu
      refine lv_aload_n hx hb dX7_quiet_77 rfl (lv_at hl 2 rfl) ?_
      refine bVI0 (As := []) (rest := []) (wc := [(qQl, .inr (0, [.int wl0, .int wl1, .int wl2, .int nl3, .int wl4, .int wl5, .int wl6, .int nl7, .int wl8, .int wl9, .int wl10, .int wl11, .int (bB wlb)]))]) (ci := 0) (q0 := 7) X Y (c_isQuiet l D cyC cyI qQl wl0 wl1 wl2 nl3 wl4 wl5 wl6 nl7 wl8 wl9 wl10 wl11 wlb (s_isQuiet wl1 wl4 wl5 wl6 wl9 wl11) rfl) gX7_quiet_X0_isQuiet rfl ⟨rfl, rfl⟩ hd_X0_isQuiet ⟨(Nat.le_of_ble_eq_true rfl), (Nat.le_of_ble_eq_true rfl)⟩ rfl rfl rfl [7] rfl rfl rfl rfl hl.1 (Nat.le_of_ble_eq_true rfl) ⟨Nat.zero_le _, Nat.zero_le _⟩ dX7_quiet_78 (fun H locs Y => ?_)
      refine lv_if_eq (tgt := 89) hx hb dX7_quiet_81 (by decide) (fun c_2 => ?_) (fun c_2 => ?_)
      · have c_2 := bB_f c_2
        rw [if_neg c_2] at hu
        refine lv_bipush (v := (-4)) hx hb dX7_quiet_89 (by decide) ?_
        have h9 := (Prod.mk.inj hu).1; replace hu := (Prod.mk.inj hu).2; subst h9
        have h9 := (Prod.mk.inj hu).1; replace hu := (Prod.mk.inj hu).2; subst h9
        have h9 := (Prod.mk.inj hu).1; replace hu := (Prod.mk.inj hu).2; subst h9
        have h9 := (Prod.mk.inj hu).1; replace hu := (Prod.mk.inj hu).2; subst h9
        have h9 := (Prod.mk.inj hu).1; replace hu := (Prod.mk.inj hu).2; subst h9
        have h9 := (Prod.mk.inj hu).1; replace hu := (Prod.mk.inj hu).2; subst h9
        have h9 := (Prod.mk.inj hu).1; replace hu := (Prod.mk.inj hu).2; subst h9
        have h9 := (Prod.mk.inj hu).1; replace hu := (Prod.mk.inj hu).2; subst h9
        have h9 := (Prod.mk.inj hu).1; replace hu := (Prod.mk.inj hu).2; subst h9
        have h9 := (Prod.mk.inj hu).1; replace hu := (Prod.mk.inj hu).2; subst h9
        have h9 := (Prod.mk.inj hu).1; replace hu := (Prod.mk.inj hu).2; subst h9
        have h9 := (Prod.mk.inj hu).1; replace hu := (Prod.mk.inj hu).2; subst h9
        have h9 := (Prod.mk.inj hu).1; replace hu := (Prod.mk.inj hu).2; subst h9
        have h9 := (Prod.mk.inj hu).1; replace hu := (Prod.mk.inj hu).2; subst h9
        have h9 := (Prod.mk.inj hu).1; replace hu := (Prod.mk.inj hu).2; subst h9
        have h9 := (Prod.mk.inj hu).1; replace hu := (Prod.mk.inj hu).2; subst h9
        have h9 := (Prod.mk.inj hu).1; replace hu := (Prod.mk.inj hu).2; subst h9
        have h9 := (Prod.mk.inj hu).1; replace hu := (Prod.mk.inj hu).2; subst h9
        have h9 := (Prod.mk.inj hu).1; replace hu := (Prod.mk.inj hu).2; subst h9
        have h9 := (Prod.mk.inj hu).1; replace hu := (Prod.mk.inj hu).2; subst h9
        have h9 := (Prod.mk.inj hu).1; replace hu := (Prod.mk.inj hu).2; subst h9
        have h9 := (Prod.mk.inj hu).1; replace hu := (Prod.mk.inj hu).2; subst h9
        have h9 := (Prod.mk.inj hu).1; replace hu := (Prod.mk.inj hu).2; subst h9
        have h9 := (Prod.mk.inj hu).1; replace hu := (Prod.mk.inj hu).2; subst h9
        have h9 := (Prod.mk.inj hu).1; replace hu := (Prod.mk.inj hu).2; subst h9
        have h9 := (Prod.mk.inj hu).1; replace hu := (Prod.mk.inj hu).2; subst h9
        have h9 := (Prod.mk.inj hu).1; replace hu := (Prod.mk.inj hu).2; subst h9
        subst hu
        exact bEndI X Y hr hlk dX7_quiet_91 rfl rfl
      · have c_2 := bB_t c_2
        rw [if_pos c_2] at hu
        refine lv_bipush (v := 60) hx hb dX7_quiet_84 (by decide) ?_
        refine lv_goto (tgt := 91) hx hb dX7_quiet_86 (by decide) ?_
        have h9 := (Prod.mk.inj hu).1; replace hu := (Prod.mk.inj hu).2; subst h9
        have h9 := (Prod.mk.inj hu).1; replace hu := (Prod.mk.inj hu).2; subst h9
        have h9 := (Prod.mk.inj hu).1; replace hu := (Prod.mk.inj hu).2; subst h9
        have h9 := (Prod.mk.inj hu).1; replace hu := (Prod.mk.inj hu).2; subst h9
        have h9 := (Prod.mk.inj hu).1; replace hu := (Prod.mk.inj hu).2; subst h9
        have h9 := (Prod.mk.inj hu).1; replace hu := (Prod.mk.inj hu).2; subst h9
        have h9 := (Prod.mk.inj hu).1; replace hu := (Prod.mk.inj hu).2; subst h9
        have h9 := (Prod.mk.inj hu).1; replace hu := (Prod.mk.inj hu).2; subst h9
        have h9 := (Prod.mk.inj hu).1; replace hu := (Prod.mk.inj hu).2; subst h9
        have h9 := (Prod.mk.inj hu).1; replace hu := (Prod.mk.inj hu).2; subst h9
        have h9 := (Prod.mk.inj hu).1; replace hu := (Prod.mk.inj hu).2; subst h9
        have h9 := (Prod.mk.inj hu).1; replace hu := (Prod.mk.inj hu).2; subst h9
        have h9 := (Prod.mk.inj hu).1; replace hu := (Prod.mk.inj hu).2; subst h9
        have h9 := (Prod.mk.inj hu).1; replace hu := (Prod.mk.inj hu).2; subst h9
        have h9 := (Prod.mk.inj hu).1; replace hu := (Prod.mk.inj hu).2; subst h9
        have h9 := (Prod.mk.inj hu).1; replace hu := (Prod.mk.inj hu).2; subst h9
        have h9 := (Prod.mk.inj hu).1; replace hu := (Prod.mk.inj hu).2; subst h9
        have h9 := (Prod.mk.inj hu).1; replace hu := (Prod.mk.inj hu).2; subst h9
        have h9 := (Prod.mk.inj hu).1; replace hu := (Prod.mk.inj hu).2; subst h9
        have h9 := (Prod.mk.inj hu).1; replace hu := (Prod.mk.inj hu).2; subst h9
        have h9 := (Prod.mk.inj hu).1; replace hu := (Prod.mk.inj hu).2; subst h9
        have h9 := (Prod.mk.inj hu).1; replace hu := (Prod.mk.inj hu).2; subst h9
        have h9 := (Prod.mk.inj hu).1; replace hu := (Prod.mk.inj hu).2; subst h9
        have h9 := (Prod.mk.inj hu).1; replace hu := (Prod.mk.inj hu).2; subst h9
        have h9 := (Prod.mk.inj hu).1; replace hu := (Prod.mk.inj hu).2; subst h9
        have h9 := (Prod.mk.inj hu).1; replace hu := (Prod.mk.inj hu).2; subst h9
        have h9 := (Prod.mk.inj hu).1; replace hu := (Prod.mk.inj hu).2; subst h9
        subst hu
        exact bEndI X Y hr hlk dX7_quiet_91 rfl rfl
    · have c_1 : ¬ (60 ≤ nI j) := c_1
      rw [if_neg c_1] at hu
      refine lv_aload_n hx hb dX7_quiet_50 rfl (lv_at hl 2 rfl) ?_
      refine bVI0 (As := []) (rest := []) (wc := [(qQl, .inr (0, [.int wl0, .int wl1, .int wl2, .int nl3, .int wl4, .int wl5, .int wl6, .int nl7, .int wl8, .int wl9, .int wl10, .int wl11, .int (bB wlb)]))]) (ci := 0) (q0 := 7) X Y (c_isQuiet l D cyC cyI qQl wl0 wl1 wl2 nl3 wl4 wl5 wl6 nl7 wl8 wl9 wl10 wl11 wlb (s_isQuiet wl1 wl4 wl5 wl6 wl9 wl11) rfl) gX7_quiet_X0_isQuiet rfl ⟨rfl, rfl⟩ hd_X0_isQuiet ⟨(Nat.le_of_ble_eq_true rfl), (Nat.le_of_ble_eq_true rfl)⟩ rfl rfl rfl [7] rfl rfl rfl rfl hl.1 (Nat.le_of_ble_eq_true rfl) ⟨Nat.zero_le _, Nat.zero_le _⟩ dX7_quiet_51 (fun H locs Y => ?_)
      refine lv_if_eq (tgt := 59) hx hb dX7_quiet_54 (by decide) (fun c_3 => ?_) (fun c_3 => ?_)
      · have c_3 := bB_f c_3
        rw [if_neg c_3] at hu
        refine lv_aload_n hx hb dX7_quiet_59 rfl (lv_at hl 0 rfl) ?_
        refine bGet (v := .ref qQ) (T := TX7) (N := 10) (ci := 7) X Y i_X7_quiet_X7 0 rfl rfl 1 (Nat.le_of_ble_eq_true rfl) f_X7_quiet_19 rfl rfl dX7_quiet_60 ?_
        refine lv_aload_n hx hb dX7_quiet_63 rfl (lv_at hl 0 rfl) ?_
        refine bGet (v := .ref qR) (T := TX7) (N := 10) (ci := 7) X Y i_X7_quiet_X7 0 rfl rfl 2 (Nat.le_of_ble_eq_true rfl) f_X7_quiet_26 rfl rfl dX7_quiet_64 ?_
        obtain ⟨u_4_0, u_4_1, u_4_2, u_4_3, u_4_4, u_4_5, u_4_6, u_4_7, u_4_8, u_4_9, u_4_10, u_4_11, u_4_12, u_4_13, u_4_14, u_4_15, u_4_16, u_4_17, u_4_18, hr_4⟩ := bEx19 (s_pairGoOn nv wl0 wl1 wl2 nl3 wl4 wl5 wl6 nl7 wl8 wl9 wl10 wl11 wr0 wr1 wr2 nr3 wr4 wr5 wr6 nr7 wr8 wr9 wr10 wr11 r0 r1 r2 r3 r4)
        rw [hr_4] at hu
        dsimp only at hu
        refine bVI (As := [.ref qR]) (rest := []) (wc := [(qQ, .inr (2, [.ref qQl, .ref qQr, .int nv])), (qQl, .inr (0, [.int wl0, .int wl1, .int wl2, .int nl3, .int wl4, .int wl5, .int wl6, .int nl7, .int wl8, .int wl9, .int wl10, .int wl11, .int (bB wlb)])), (qQr, .inr (0, [.int wr0, .int wr1, .int wr2, .int nr3, .int wr4, .int wr5, .int wr6, .int nr7, .int wr8, .int wr9, .int wr10, .int wr11, .int (bB wrb)])), (qR, .inr (1, [.int r0, .int r1, .int r2, .int r3, .int r4, .ref qRl, .ref qRr]))]) (w1 := [(qQ, .inr (2, [.ref qQl, .ref qQr, .int nv])), (qQl, .inr (0, [.int u_4_1, .int u_4_2, .int u_4_3, .int nl3, .int u_4_4, .int u_4_5, .int u_4_6, .int nl7, .int (wl8 - 1), .int u_4_7, .int (wl10 - 1), .int u_4_8, .int (bB u_4_9)])), (qQr, .inr (0, [.int u_4_10, .int u_4_11, .int u_4_12, .int nr3, .int u_4_13, .int u_4_14, .int u_4_15, .int nr7, .int (wr8 - 1), .int u_4_16, .int (wr10 - 1), .int u_4_17, .int (bB u_4_18)])), (qR, .inr (1, [.int r0, .int r1, .int r2, .int r3, .int r4, .ref qRl, .ref qRr]))]) (ws' := [(qM, .inr (7, [.ref qT, .ref qQ, .ref qR, .ref qD, .ref qN, .ref q1, .ref q2, .ref q3, .ref q4, .int ud])), (qN, .inr (5, [.ref qNp, .ref qNs, .ref qNz, .int nk])), (qNp, .inr (2, [.ref qNpl, .ref qNpr, .int nv])), (qNpl, .inr (0, [.int nl0, .int nl1, .int nl2, .int nl3, .int nl4, .int nl5, .int nl6, .int nl7, .int nl8, .int nl9, .int nl10, .int nl11, .int (bB nlb)])), (qNpr, .inr (0, [.int nr0, .int nr1, .int nr2, .int nr3, .int nr4, .int nr5, .int nr6, .int nr7, .int nr8, .int nr9, .int nr10, .int nr11, .int (bB nrb)])), (qR, .inr (1, [.int r0, .int r1, .int r2, .int r3, .int r4, .ref qRl, .ref qRr])), (qQ, .inr (2, [.ref qQl, .ref qQr, .int nv])), (qQl, .inr (0, [.int u_4_1, .int u_4_2, .int u_4_3, .int nl3, .int u_4_4, .int u_4_5, .int u_4_6, .int nl7, .int (wl8 - 1), .int u_4_7, .int (wl10 - 1), .int u_4_8, .int (bB u_4_9)])), (qQr, .inr (0, [.int u_4_10, .int u_4_11, .int u_4_12, .int nr3, .int u_4_13, .int u_4_14, .int u_4_15, .int nr7, .int (wr8 - 1), .int u_4_16, .int (wr10 - 1), .int u_4_17, .int (bB u_4_18)]))]) (ad := [qQ, qQl, qQr, qR]) (wr := [(qM, .inr (7, [.ref qT, .ref qQ, .ref qR, .ref qD, .ref qN, .ref q1, .ref q2, .ref q3, .ref q4, .int ud])), (qN, .inr (5, [.ref qNp, .ref qNs, .ref qNz, .int nk])), (qNp, .inr (2, [.ref qNpl, .ref qNpr, .int nv])), (qNpl, .inr (0, [.int nl0, .int nl1, .int nl2, .int nl3, .int nl4, .int nl5, .int nl6, .int nl7, .int nl8, .int nl9, .int nl10, .int nl11, .int (bB nlb)])), (qNpr, .inr (0, [.int nr0, .int nr1, .int nr2, .int nr3, .int nr4, .int nr5, .int nr6, .int nr7, .int nr8, .int nr9, .int nr10, .int nr11, .int (bB nrb)]))]) (nn := 9) (ci := 2) (q0 := 6) X Y (c_pairGoOn l D cyC cyI qQ nv qQl wl0 wl1 wl2 nl3 wl4 wl5 wl6 nl7 wl8 wl9 wl10 wl11 wlb qQr wr0 wr1 wr2 nr3 wr4 wr5 wr6 nr7 wr8 wr9 wr10 wr11 wrb qR qRl qRr r0 r1 r2 r3 r4 u_4_0 u_4_1 u_4_2 u_4_3 u_4_4 u_4_5 u_4_6 u_4_7 u_4_8 u_4_9 u_4_10 u_4_11 u_4_12 u_4_13 u_4_14 u_4_15 u_4_16 u_4_17 u_4_18 hr_4) gX7_quiet_X2_goOn rfl ⟨rfl, rfl⟩ hd_X2_goOn ⟨(Nat.le_of_ble_eq_true rfl), (Nat.le_of_ble_eq_true rfl)⟩ rfl rfl rfl [6, 7, 8, 5] [0, 1, 2, 3, 4] rfl rfl rfl rfl rfl rfl rfl rfl (by decide) rfl rfl hl.1 (Nat.le_of_ble_eq_true rfl) ⟨Nat.zero_le _, Nat.zero_le _⟩ dX7_quiet_67 (fun H locs Y => ?_)
        refine lv_pop hx hb dX7_quiet_70 rfl ?_
        refine lv_iinc (v := nI (j + 1)) (lv' := [(3, .int (nI (j + 1))), (0, .ref qM), (1, .int 0), (2, .ref qQl)]) hx hb dX7_quiet_71 hl (k := 3) rfl (nI_inc _) (by decide) rfl (fun ls hl => ?_)
        refine lv_goto (tgt := 44) hx hb dX7_quiet_74 (by decide) ?_
        exact ih (j + 1) u_4_1 u_4_2 u_4_3 u_4_4 u_4_5 u_4_6 (wl8 - 1) u_4_7 (wl10 - 1) u_4_8 u_4_9 u_4_10 u_4_11 u_4_12 u_4_13 u_4_14 u_4_15 (wr8 - 1) u_4_16 (wr10 - 1) u_4_17 u_4_18 (by omega) (by have := bNle (k := 60) rfl (by omega) (by decide) c_1; omega) hu _ _ _ (lv_sub hl [1, 2, 3, 0] rfl) Y
      · have c_3 := bB_t c_3
        rw [if_pos c_3] at hu
        refine lv_iload_n hx hb dX7_quiet_57 rfl (lv_at hl 3 rfl) ?_
        have h9 := (Prod.mk.inj hu).1; replace hu := (Prod.mk.inj hu).2; subst h9
        have h9 := (Prod.mk.inj hu).1; replace hu := (Prod.mk.inj hu).2; subst h9
        have h9 := (Prod.mk.inj hu).1; replace hu := (Prod.mk.inj hu).2; subst h9
        have h9 := (Prod.mk.inj hu).1; replace hu := (Prod.mk.inj hu).2; subst h9
        have h9 := (Prod.mk.inj hu).1; replace hu := (Prod.mk.inj hu).2; subst h9
        have h9 := (Prod.mk.inj hu).1; replace hu := (Prod.mk.inj hu).2; subst h9
        have h9 := (Prod.mk.inj hu).1; replace hu := (Prod.mk.inj hu).2; subst h9
        have h9 := (Prod.mk.inj hu).1; replace hu := (Prod.mk.inj hu).2; subst h9
        have h9 := (Prod.mk.inj hu).1; replace hu := (Prod.mk.inj hu).2; subst h9
        have h9 := (Prod.mk.inj hu).1; replace hu := (Prod.mk.inj hu).2; subst h9
        have h9 := (Prod.mk.inj hu).1; replace hu := (Prod.mk.inj hu).2; subst h9
        have h9 := (Prod.mk.inj hu).1; replace hu := (Prod.mk.inj hu).2; subst h9
        have h9 := (Prod.mk.inj hu).1; replace hu := (Prod.mk.inj hu).2; subst h9
        have h9 := (Prod.mk.inj hu).1; replace hu := (Prod.mk.inj hu).2; subst h9
        have h9 := (Prod.mk.inj hu).1; replace hu := (Prod.mk.inj hu).2; subst h9
        have h9 := (Prod.mk.inj hu).1; replace hu := (Prod.mk.inj hu).2; subst h9
        have h9 := (Prod.mk.inj hu).1; replace hu := (Prod.mk.inj hu).2; subst h9
        have h9 := (Prod.mk.inj hu).1; replace hu := (Prod.mk.inj hu).2; subst h9
        have h9 := (Prod.mk.inj hu).1; replace hu := (Prod.mk.inj hu).2; subst h9
        have h9 := (Prod.mk.inj hu).1; replace hu := (Prod.mk.inj hu).2; subst h9
        have h9 := (Prod.mk.inj hu).1; replace hu := (Prod.mk.inj hu).2; subst h9
        have h9 := (Prod.mk.inj hu).1; replace hu := (Prod.mk.inj hu).2; subst h9
        have h9 := (Prod.mk.inj hu).1; replace hu := (Prod.mk.inj hu).2; subst h9
        have h9 := (Prod.mk.inj hu).1; replace hu := (Prod.mk.inj hu).2; subst h9
        have h9 := (Prod.mk.inj hu).1; replace hu := (Prod.mk.inj hu).2; subst h9
        have h9 := (Prod.mk.inj hu).1; replace hu := (Prod.mk.inj hu).2; subst h9
        have h9 := (Prod.mk.inj hu).1; replace hu := (Prod.mk.inj hu).2; subst h9
        subst hu
        exact bEndI X Y hr hlk dX7_quiet_58 rfl rfl
set_option maxHeartbeats 4000000 in
set_option maxRecDepth 100000 in
theorem c_quiet_0 (l : Launch) (D : va_G) (cyC cyI : ClassId) (qM : Nat) (qT : Nat) (qQ : Nat) (qR : Nat) (qD : Nat) (qN : Nat) (q1 : Nat) (q2 : Nat) (q3 : Nat) (q4 : Nat) (ud : Int32) (nk : Int32) (qNp : Nat) (nv : Int32) (qNpl : Nat) (nl0 : Int32) (nl1 : Int32) (nl2 : Int32) (nl3 : Int32) (nl4 : Int32) (nl5 : Int32) (nl6 : Int32) (nl7 : Int32) (nl8 : Int32) (nl9 : Int32) (nl10 : Int32) (nl11 : Int32) (nlb : Bool) (qNpr : Nat) (nr0 : Int32) (nr1 : Int32) (nr2 : Int32) (nr3 : Int32) (nr4 : Int32) (nr5 : Int32) (nr6 : Int32) (nr7 : Int32) (nr8 : Int32) (nr9 : Int32) (nr10 : Int32) (nr11 : Int32) (nrb : Bool) (qNs : Nat) (qNz : Nat) (qRl : Nat) (qRr : Nat) (r0 : Int32) (r1 : Int32) (r2 : Int32) (r3 : Int32) (r4 : Int32) (tv : Int32) (qQl : Nat) (tl0 : Int32) (tl1 : Int32) (tl2 : Int32) (tl3 : Int32) (tl4 : Int32) (tl5 : Int32) (tl6 : Int32) (tl7 : Int32) (tl8 : Int32) (tl9 : Int32) (tl10 : Int32) (tl11 : Int32) (tlb : Bool) (qQr : Nat) (tr0 : Int32) (tr1 : Int32) (tr2 : Int32) (tr3 : Int32) (tr4 : Int32) (tr5 : Int32) (tr6 : Int32) (tr7 : Int32) (tr8 : Int32) (tr9 : Int32) (tr10 : Int32) (tr11 : Int32) (trb : Bool) (o0 : Int32) (o1 : Int32) (o2 : Int32) (o3 : Int32) (o4 : Int32) (o5 : Int32) (o6 : Int32) (o7 : Int32) (o8 : Int32) (o9 : Int32) (o10 : Int32) (o11 : Int32) (o12 : Int32) (o13 : Int32) (o14 : Bool) (o15 : Int32) (o16 : Int32) (o17 : Int32) (o18 : Int32) (o19 : Int32) (o20 : Int32) (o21 : Int32) (o22 : Int32) (o23 : Int32) (o24 : Int32) (o25 : Int32) (o26 : Int32) (o27 : Bool) (hu : s_quiet_0 nv nl0 nl1 nl2 nl3 nl4 nl5 nl6 nl7 nl8 nl9 nl10 nl11 nlb nr0 nr1 nr2 nr3 nr4 nr5 nr6 nr7 nr8 nr9 nr10 nr11 nrb r0 r1 r2 r3 r4 tv tl0 tl1 tl2 tl3 tl4 tl5 tl6 tl7 tl8 tl9 tl10 tl11 tlb tr0 tr1 tr2 tr3 tr4 tr5 tr6 tr7 tr8 tr9 tr10 tr11 trb = (o0, o1, o2, o3, o4, o5, o6, o7, o8, o9, o10, o11, o12, o13, o14, o15, o16, o17, o18, o19, o20, o21, o22, o23, o24, o25, o26, o27)) : CI l yX7_quiet wsX7_quiet { frames := 5, cells := 0, slots := 0, locals := 108 } D cyC cyI [.ref qM, .int 0] [(qM, .inr (7, [.ref qT, .ref qQ, .ref qR, .ref qD, .ref qN, .ref q1, .ref q2, .ref q3, .ref q4, .int ud])), (qN, .inr (5, [.ref qNp, .ref qNs, .ref qNz, .int nk])), (qNp, .inr (2, [.ref qNpl, .ref qNpr, .int nv])), (qNpl, .inr (0, [.int nl0, .int nl1, .int nl2, .int nl3, .int nl4, .int nl5, .int nl6, .int nl7, .int nl8, .int nl9, .int nl10, .int nl11, .int (bB nlb)])), (qNpr, .inr (0, [.int nr0, .int nr1, .int nr2, .int nr3, .int nr4, .int nr5, .int nr6, .int nr7, .int nr8, .int nr9, .int nr10, .int nr11, .int (bB nrb)])), (qR, .inr (1, [.int r0, .int r1, .int r2, .int r3, .int r4, .ref qRl, .ref qRr])), (qQ, .inr (2, [.ref qQl, .ref qQr, .int tv])), (qQl, .inr (0, [.int tl0, .int tl1, .int tl2, .int tl3, .int tl4, .int tl5, .int tl6, .int tl7, .int tl8, .int tl9, .int tl10, .int tl11, .int (bB tlb)])), (qQr, .inr (0, [.int tr0, .int tr1, .int tr2, .int tr3, .int tr4, .int tr5, .int tr6, .int tr7, .int tr8, .int tr9, .int tr10, .int tr11, .int (bB trb)]))] o0 [(qM, .inr (7, [.ref qT, .ref qQ, .ref qR, .ref qD, .ref qN, .ref q1, .ref q2, .ref q3, .ref q4, .int ud])), (qN, .inr (5, [.ref qNp, .ref qNs, .ref qNz, .int nk])), (qNp, .inr (2, [.ref qNpl, .ref qNpr, .int nv])), (qNpl, .inr (0, [.int nl0, .int nl1, .int nl2, .int nl3, .int nl4, .int nl5, .int nl6, .int nl7, .int nl8, .int nl9, .int nl10, .int nl11, .int (bB nlb)])), (qNpr, .inr (0, [.int nr0, .int nr1, .int nr2, .int nr3, .int nr4, .int nr5, .int nr6, .int nr7, .int nr8, .int nr9, .int nr10, .int nr11, .int (bB nrb)])), (qR, .inr (1, [.int r0, .int r1, .int r2, .int r3, .int r4, .ref qRl, .ref qRr])), (qQ, .inr (2, [.ref qQl, .ref qQr, .int o1])), (qQl, .inr (0, [.int o2, .int o3, .int o4, .int o5, .int o6, .int o7, .int o8, .int o9, .int o10, .int o11, .int o12, .int o13, .int (bB o14)])), (qQr, .inr (0, [.int o15, .int o16, .int o17, .int o18, .int o19, .int o20, .int o21, .int o22, .int o23, .int o24, .int o25, .int o26, .int (bB o27)]))] := by
  refine CI.of (cc := cX7_quiet) (n := 4) (ret := (some .int)) (by decide +kernel) rfl (Nat.le_of_ble_eq_true rfl) ?_
  intro p_ e_ s_ m_ bl_ me_ cd_ A_ ls X Y hr hlk hl
  have hx := X.1.1
  have hb := X.1.2.1
  have hl : lv_has ls 4 [(0, .ref qM), (1, .int 0)] := hl
  unfold s_quiet_0 at hu
  refine lv_iload_n hx hb dX7_quiet_0 rfl (lv_at hl 1 rfl) ?_
  refine bSI (As := [.int 0]) (rest := []) X Y (c_isCrane l D cyC cyI 0 (s_isCrane 0) rfl) gX7_quiet_X7_isCrane rfl ⟨rfl, rfl⟩ hd_X7_isCrane.2 ⟨(Nat.le_of_ble_eq_true rfl), (Nat.le_of_ble_eq_true rfl)⟩ rfl rfl hl.1 (Nat.le_of_ble_eq_true rfl) ⟨Nat.zero_le _, Nat.zero_le _⟩ dX7_quiet_1 (fun H locs Y => ?_)
  refine lv_if_ne (tgt := 9) hx hb dX7_quiet_4 (by decide) (fun c_1 => ?_) (fun c_1 => ?_)
  · have c_1 := bB_t c_1
    rw [if_pos c_1] at hu
    refine lv_aload_n hx hb dX7_quiet_9 rfl (lv_at hl 0 rfl) ?_
    refine bGet (v := .ref qQ) (T := TX7) (N := 10) (ci := 7) X Y i_X7_quiet_X7 0 rfl rfl 1 (Nat.le_of_ble_eq_true rfl) f_X7_quiet_19 rfl rfl dX7_quiet_10 ?_
    refine lv_aload_n hx hb dX7_quiet_13 rfl (lv_at hl 0 rfl) ?_
    refine bGet (v := .ref qN) (T := TX7) (N := 10) (ci := 7) X Y i_X7_quiet_X7 0 rfl rfl 4 (Nat.le_of_ble_eq_true rfl) f_X7_quiet_36 rfl rfl dX7_quiet_14 ?_
    refine bGet (v := .ref qNp) (T := TX5) (N := 4) (ci := 5) X Y i_X7_quiet_X5 1 rfl rfl 0 (Nat.le_of_ble_eq_true rfl) f_X7_quiet_95 rfl rfl dX7_quiet_17 ?_
    refine bVV (As := [.ref qNp]) (rest := []) (wc := [(qQ, .inr (2, [.ref qQl, .ref qQr, .int tv])), (qQl, .inr (0, [.int tl0, .int tl1, .int tl2, .int tl3, .int tl4, .int tl5, .int tl6, .int tl7, .int tl8, .int tl9, .int tl10, .int tl11, .int (bB tlb)])), (qQr, .inr (0, [.int tr0, .int tr1, .int tr2, .int tr3, .int tr4, .int tr5, .int tr6, .int tr7, .int tr8, .int tr9, .int tr10, .int tr11, .int (bB trb)])), (qNp, .inr (2, [.ref qNpl, .ref qNpr, .int nv])), (qNpl, .inr (0, [.int nl0, .int nl1, .int nl2, .int nl3, .int nl4, .int nl5, .int nl6, .int nl7, .int nl8, .int nl9, .int nl10, .int nl11, .int (bB nlb)])), (qNpr, .inr (0, [.int nr0, .int nr1, .int nr2, .int nr3, .int nr4, .int nr5, .int nr6, .int nr7, .int nr8, .int nr9, .int nr10, .int nr11, .int (bB nrb)]))]) (w1 := [(qQ, .inr (2, [.ref qQl, .ref qQr, .int nv])), (qQl, .inr (0, [.int nl0, .int nl1, .int nl2, .int nl3, .int nl4, .int nl5, .int nl6, .int nl7, .int nl8, .int nl9, .int nl10, .int nl11, .int (bB nlb)])), (qQr, .inr (0, [.int nr0, .int nr1, .int nr2, .int nr3, .int nr4, .int nr5, .int nr6, .int nr7, .int nr8, .int nr9, .int nr10, .int nr11, .int (bB nrb)])), (qNp, .inr (2, [.ref qNpl, .ref qNpr, .int nv])), (qNpl, .inr (0, [.int nl0, .int nl1, .int nl2, .int nl3, .int nl4, .int nl5, .int nl6, .int nl7, .int nl8, .int nl9, .int nl10, .int nl11, .int (bB nlb)])), (qNpr, .inr (0, [.int nr0, .int nr1, .int nr2, .int nr3, .int nr4, .int nr5, .int nr6, .int nr7, .int nr8, .int nr9, .int nr10, .int nr11, .int (bB nrb)]))]) (ws' := [(qM, .inr (7, [.ref qT, .ref qQ, .ref qR, .ref qD, .ref qN, .ref q1, .ref q2, .ref q3, .ref q4, .int ud])), (qN, .inr (5, [.ref qNp, .ref qNs, .ref qNz, .int nk])), (qNp, .inr (2, [.ref qNpl, .ref qNpr, .int nv])), (qNpl, .inr (0, [.int nl0, .int nl1, .int nl2, .int nl3, .int nl4, .int nl5, .int nl6, .int nl7, .int nl8, .int nl9, .int nl10, .int nl11, .int (bB nlb)])), (qNpr, .inr (0, [.int nr0, .int nr1, .int nr2, .int nr3, .int nr4, .int nr5, .int nr6, .int nr7, .int nr8, .int nr9, .int nr10, .int nr11, .int (bB nrb)])), (qR, .inr (1, [.int r0, .int r1, .int r2, .int r3, .int r4, .ref qRl, .ref qRr])), (qQ, .inr (2, [.ref qQl, .ref qQr, .int nv])), (qQl, .inr (0, [.int nl0, .int nl1, .int nl2, .int nl3, .int nl4, .int nl5, .int nl6, .int nl7, .int nl8, .int nl9, .int nl10, .int nl11, .int (bB nlb)])), (qQr, .inr (0, [.int nr0, .int nr1, .int nr2, .int nr3, .int nr4, .int nr5, .int nr6, .int nr7, .int nr8, .int nr9, .int nr10, .int nr11, .int (bB nrb)]))]) (ad := [qQ, qQl, qQr, qNp, qNpl, qNpr]) (wr := [(qM, .inr (7, [.ref qT, .ref qQ, .ref qR, .ref qD, .ref qN, .ref q1, .ref q2, .ref q3, .ref q4, .int ud])), (qN, .inr (5, [.ref qNp, .ref qNs, .ref qNz, .int nk])), (qR, .inr (1, [.int r0, .int r1, .int r2, .int r3, .int r4, .ref qRl, .ref qRr]))]) (nn := 9) (ci := 2) (q0 := 6) X Y (c_pairCopy l D cyC cyI qQ tv qQl tl0 tl1 tl2 tl3 tl4 tl5 tl6 tl7 tl8 tl9 tl10 tl11 tlb qQr tr0 tr1 tr2 tr3 tr4 tr5 tr6 tr7 tr8 tr9 tr10 tr11 trb qNp nv qNpl nl0 nl1 nl2 nl3 nl4 nl5 nl6 nl7 nl8 nl9 nl10 nl11 nlb qNpr nr0 nr1 nr2 nr3 nr4 nr5 nr6 nr7 nr8 nr9 nr10 nr11 nrb) gX7_quiet_X2_copyFrom rfl ⟨rfl, rfl⟩ hd_X2_copyFrom ⟨(Nat.le_of_ble_eq_true rfl), (Nat.le_of_ble_eq_true rfl)⟩ rfl rfl rfl [6, 7, 8, 2, 3, 4] [0, 1, 5] rfl rfl rfl rfl rfl rfl rfl rfl (by decide) rfl rfl hl.1 (Nat.le_of_ble_eq_true rfl) ⟨Nat.zero_le _, Nat.zero_le _⟩ dX7_quiet_20 (fun H locs Y => ?_)
    refine lv_aload_n hx hb dX7_quiet_23 rfl (lv_at hl 0 rfl) ?_
    refine bGet (v := .ref qQ) (T := TX7) (N := 10) (ci := 7) X Y i_X7_quiet_X7 0 rfl rfl 1 (Nat.le_of_ble_eq_true rfl) f_X7_quiet_19 rfl rfl dX7_quiet_24 ?_
    refine lv_iload_n hx hb dX7_quiet_27 rfl (lv_at hl 1 rfl) ?_
    refine lv_iconst (v := 0) hx hb dX7_quiet_28 (by decide) ?_
    obtain ⟨u_2_0, u_2_1, u_2_2, u_2_3, u_2_4, u_2_5, u_2_6, u_2_7, u_2_8, hr_2⟩ := bEx9 (s_tellAtOnce nv nl6 nl8 nl9 nl10 nl11 nr6 nr8 nr9 nr10 nr11 0 0)
    rw [hr_2] at hu
    dsimp only at hu
    refine bVI (As := [.int 0, .int 0]) (rest := []) (wc := [(qQ, .inr (2, [.ref qQl, .ref qQr, .int nv])), (qQl, .inr (0, [.int nl0, .int nl1, .int nl2, .int nl3, .int nl4, .int nl5, .int nl6, .int nl7, .int nl8, .int nl9, .int nl10, .int nl11, .int (bB nlb)])), (qQr, .inr (0, [.int nr0, .int nr1, .int nr2, .int nr3, .int nr4, .int nr5, .int nr6, .int nr7, .int nr8, .int nr9, .int nr10, .int nr11, .int (bB nrb)]))]) (w1 := [(qQ, .inr (2, [.ref qQl, .ref qQr, .int nv])), (qQl, .inr (0, [.int nl0, .int nl1, .int nl2, .int nl3, .int nl4, .int nl5, .int nl6, .int nl7, .int u_2_1, .int u_2_2, .int u_2_3, .int u_2_4, .int (bB nlb)])), (qQr, .inr (0, [.int nr0, .int nr1, .int nr2, .int nr3, .int nr4, .int nr5, .int nr6, .int nr7, .int u_2_5, .int u_2_6, .int u_2_7, .int u_2_8, .int (bB nrb)]))]) (ws' := [(qM, .inr (7, [.ref qT, .ref qQ, .ref qR, .ref qD, .ref qN, .ref q1, .ref q2, .ref q3, .ref q4, .int ud])), (qN, .inr (5, [.ref qNp, .ref qNs, .ref qNz, .int nk])), (qNp, .inr (2, [.ref qNpl, .ref qNpr, .int nv])), (qNpl, .inr (0, [.int nl0, .int nl1, .int nl2, .int nl3, .int nl4, .int nl5, .int nl6, .int nl7, .int nl8, .int nl9, .int nl10, .int nl11, .int (bB nlb)])), (qNpr, .inr (0, [.int nr0, .int nr1, .int nr2, .int nr3, .int nr4, .int nr5, .int nr6, .int nr7, .int nr8, .int nr9, .int nr10, .int nr11, .int (bB nrb)])), (qR, .inr (1, [.int r0, .int r1, .int r2, .int r3, .int r4, .ref qRl, .ref qRr])), (qQ, .inr (2, [.ref qQl, .ref qQr, .int nv])), (qQl, .inr (0, [.int nl0, .int nl1, .int nl2, .int nl3, .int nl4, .int nl5, .int nl6, .int nl7, .int u_2_1, .int u_2_2, .int u_2_3, .int u_2_4, .int (bB nlb)])), (qQr, .inr (0, [.int nr0, .int nr1, .int nr2, .int nr3, .int nr4, .int nr5, .int nr6, .int nr7, .int u_2_5, .int u_2_6, .int u_2_7, .int u_2_8, .int (bB nrb)]))]) (ad := [qQ, qQl, qQr]) (wr := [(qM, .inr (7, [.ref qT, .ref qQ, .ref qR, .ref qD, .ref qN, .ref q1, .ref q2, .ref q3, .ref q4, .int ud])), (qN, .inr (5, [.ref qNp, .ref qNs, .ref qNz, .int nk])), (qNp, .inr (2, [.ref qNpl, .ref qNpr, .int nv])), (qNpl, .inr (0, [.int nl0, .int nl1, .int nl2, .int nl3, .int nl4, .int nl5, .int nl6, .int nl7, .int nl8, .int nl9, .int nl10, .int nl11, .int (bB nlb)])), (qNpr, .inr (0, [.int nr0, .int nr1, .int nr2, .int nr3, .int nr4, .int nr5, .int nr6, .int nr7, .int nr8, .int nr9, .int nr10, .int nr11, .int (bB nrb)])), (qR, .inr (1, [.int r0, .int r1, .int r2, .int r3, .int r4, .ref qRl, .ref qRr]))]) (nn := 9) (ci := 2) (q0 := 6) X Y (c_tellAtOnce l D cyC cyI qQ nv qQl nl0 nl1 nl2 nl3 nl4 nl5 nl6 nl7 nl8 nl9 nl10 nl11 nlb qQr nr0 nr1 nr2 nr3 nr4 nr5 nr6 nr7 nr8 nr9 nr10 nr11 nrb 0 0 u_2_0 u_2_1 u_2_2 u_2_3 u_2_4 u_2_5 u_2_6 u_2_7 u_2_8 hr_2) gX7_quiet_X2_tellAtOnce rfl ⟨rfl, rfl⟩ hd_X2_tellAtOnce ⟨(Nat.le_of_ble_eq_true rfl), (Nat.le_of_ble_eq_true rfl)⟩ rfl rfl rfl [6, 7, 8] [0, 1, 2, 3, 4, 5] rfl rfl rfl rfl rfl rfl rfl rfl (by decide) rfl rfl hl.1 (Nat.le_of_ble_eq_true rfl) ⟨Nat.zero_le _, Nat.zero_le _⟩ dX7_quiet_29 (fun H locs Y => ?_)
    refine lv_pop hx hb dX7_quiet_32 rfl ?_
    refine lv_aload_n hx hb dX7_quiet_33 rfl (lv_at hl 0 rfl) ?_
    refine bGet (v := .ref qQ) (T := TX7) (N := 10) (ci := 7) X Y i_X7_quiet_X7 0 rfl rfl 1 (Nat.le_of_ble_eq_true rfl) f_X7_quiet_19 rfl rfl dX7_quiet_34 ?_
    refine lv_iload_n hx hb dX7_quiet_37 rfl (lv_at hl 1 rfl) ?_
    refine bVR0 (As := [.int 0]) (rest := []) (wc := [(qQ, .inr (2, [.ref qQl, .ref qQr, .int nv]))]) (ci := 2) (q0 := 6) X Y (c_side0 l D cyC cyI qQ qQl qQr nv) gX7_quiet_X2_side rfl ⟨rfl, rfl⟩ hd_X2_side ⟨(Nat.le_of_ble_eq_true rfl), (Nat.le_of_ble_eq_true rfl)⟩ rfl rfl rfl [6] rfl rfl rfl rfl hl.1 (Nat.le_of_ble_eq_true rfl) ⟨Nat.zero_le _, Nat.zero_le _⟩ dX7_quiet_38 (fun H locs Y => ?_)
    refine lv_astore_n (lv' := [(2, .ref qQl), (0, .ref qM), (1, .int 0)]) hx hb dX7_quiet_41 rfl hl (by decide) rfl (fun ls hl => ?_)
    refine lv_iconst (v := 0) hx hb dX7_quiet_42 (by decide) ?_
    refine lv_istore_n (lv' := [(3, .int 0), (2, .ref qQl), (0, .ref qM), (1, .int 0)]) hx hb dX7_quiet_43 rfl hl (by decide) rfl (fun ls hl => ?_)
    exact lp_quiet_0 l D cyC cyI qM qT qQ qR qD qN q1 q2 q3 q4 ud nk qNp nv qNpl nl0 nl1 nl2 nl3 nl4 nl5 nl6 nl7 nl8 nl9 nl10 nl11 nlb qNpr nr0 nr1 nr2 nr3 nr4 nr5 nr6 nr7 nr8 nr9 nr10 nr11 nrb qNs qNz qRl qRr r0 r1 r2 r3 r4 tv qQl tl0 tl1 tl2 tl3 tl4 tl5 tl6 tl7 tl8 tl9 tl10 tl11 tlb qQr tr0 tr1 tr2 tr3 tr4 tr5 tr6 tr7 tr8 tr9 tr10 tr11 trb o0 o1 o2 o3 o4 o5 o6 o7 o8 o9 o10 o11 o12 o13 o14 o15 o16 o17 o18 o19 o20 o21 o22 o23 o24 o25 o26 o27 X hr hlk (61) 0 nl0 nl1 nl2 nl4 nl5 nl6 u_2_1 u_2_2 u_2_3 u_2_4 nlb nr0 nr1 nr2 nr4 nr5 nr6 u_2_5 u_2_6 u_2_7 u_2_8 nrb (by omega) (by omega) hu _ _ _ (lv_sub hl [2, 3, 1, 0] rfl) Y
  · have c_1 := bB_f c_1
    rw [if_neg c_1] at hu
    refine lv_iconst (v := (-1)) hx hb dX7_quiet_7 (by decide) ?_
    have h9 := (Prod.mk.inj hu).1; replace hu := (Prod.mk.inj hu).2; subst h9
    have h9 := (Prod.mk.inj hu).1; replace hu := (Prod.mk.inj hu).2; subst h9
    have h9 := (Prod.mk.inj hu).1; replace hu := (Prod.mk.inj hu).2; subst h9
    have h9 := (Prod.mk.inj hu).1; replace hu := (Prod.mk.inj hu).2; subst h9
    have h9 := (Prod.mk.inj hu).1; replace hu := (Prod.mk.inj hu).2; subst h9
    have h9 := (Prod.mk.inj hu).1; replace hu := (Prod.mk.inj hu).2; subst h9
    have h9 := (Prod.mk.inj hu).1; replace hu := (Prod.mk.inj hu).2; subst h9
    have h9 := (Prod.mk.inj hu).1; replace hu := (Prod.mk.inj hu).2; subst h9
    have h9 := (Prod.mk.inj hu).1; replace hu := (Prod.mk.inj hu).2; subst h9
    have h9 := (Prod.mk.inj hu).1; replace hu := (Prod.mk.inj hu).2; subst h9
    have h9 := (Prod.mk.inj hu).1; replace hu := (Prod.mk.inj hu).2; subst h9
    have h9 := (Prod.mk.inj hu).1; replace hu := (Prod.mk.inj hu).2; subst h9
    have h9 := (Prod.mk.inj hu).1; replace hu := (Prod.mk.inj hu).2; subst h9
    have h9 := (Prod.mk.inj hu).1; replace hu := (Prod.mk.inj hu).2; subst h9
    have h9 := (Prod.mk.inj hu).1; replace hu := (Prod.mk.inj hu).2; subst h9
    have h9 := (Prod.mk.inj hu).1; replace hu := (Prod.mk.inj hu).2; subst h9
    have h9 := (Prod.mk.inj hu).1; replace hu := (Prod.mk.inj hu).2; subst h9
    have h9 := (Prod.mk.inj hu).1; replace hu := (Prod.mk.inj hu).2; subst h9
    have h9 := (Prod.mk.inj hu).1; replace hu := (Prod.mk.inj hu).2; subst h9
    have h9 := (Prod.mk.inj hu).1; replace hu := (Prod.mk.inj hu).2; subst h9
    have h9 := (Prod.mk.inj hu).1; replace hu := (Prod.mk.inj hu).2; subst h9
    have h9 := (Prod.mk.inj hu).1; replace hu := (Prod.mk.inj hu).2; subst h9
    have h9 := (Prod.mk.inj hu).1; replace hu := (Prod.mk.inj hu).2; subst h9
    have h9 := (Prod.mk.inj hu).1; replace hu := (Prod.mk.inj hu).2; subst h9
    have h9 := (Prod.mk.inj hu).1; replace hu := (Prod.mk.inj hu).2; subst h9
    have h9 := (Prod.mk.inj hu).1; replace hu := (Prod.mk.inj hu).2; subst h9
    have h9 := (Prod.mk.inj hu).1; replace hu := (Prod.mk.inj hu).2; subst h9
    subst hu
    exact bEndI X Y hr hlk dX7_quiet_8 rfl rfl
theorem i_X7_swingWithPause_X7 : ∀ w ∈ wsX70, w ∈ wsX7_swingWithPause := by decide +kernel
theorem f_X7_swingWithPause_19 : Cond.fieldLink RX7 19 "SwingCranes" "trial" "LSwingCranes$Pair;" ∈ wsX7_swingWithPause := by decide +kernel
theorem f_X7_swingWithPause_36 : Cond.fieldLink RX7 36 "SwingCranes" "now" "LSwingCranes$Story;" ∈ wsX7_swingWithPause := by decide +kernel
theorem i_X7_swingWithPause_X5 : ∀ w ∈ wsX50, w ∈ wsX7_swingWithPause := by decide +kernel
theorem f_X7_swingWithPause_95 : Cond.fieldLink RX7 95 "SwingCranes$Story" "pair" "LSwingCranes$Pair;" ∈ wsX7_swingWithPause := by decide +kernel
theorem f_X7_swingWithPause_26 : Cond.fieldLink RX7 26 "SwingCranes" "rules" "LSwingCranes$Layout;" ∈ wsX7_swingWithPause := by decide +kernel
theorem i_X7_swingWithPause_X0 : ∀ w ∈ wsX00, w ∈ wsX7_swingWithPause := by decide +kernel
theorem f_X7_swingWithPause_148 : Cond.fieldLink RX7 148 "SwingCranes$Crane" "swing" "I" ∈ wsX7_swingWithPause := by decide +kernel
theorem m_X7_swingWithPause_209 : Cond.methodLink RX7 209 Lib.Math.abs.name ∈ wsX7_swingWithPause := by decide +kernel
theorem ms_X7_swingWithPause_abs : Cond.static Lib.Math.abs.name ∈ wsX7_swingWithPause := by decide +kernel
theorem mi_X7_swingWithPause : Cond.initialized "java/lang/Math" ∈ wsX7_swingWithPause := by decide +kernel
theorem mc_X7_swingWithPause_abs : Cond.code Lib.Math.abs.name Lib.Math.abs.code 1 (some .int) ∈ wsX7_swingWithPause := by decide +kernel
theorem m_X7_swingWithPause_214 : Cond.methodLink RX7 214 Lib.Math.max.name ∈ wsX7_swingWithPause := by decide +kernel
theorem ms_X7_swingWithPause_max : Cond.static Lib.Math.max.name ∈ wsX7_swingWithPause := by decide +kernel
theorem mc_X7_swingWithPause_max : Cond.code Lib.Math.max.name Lib.Math.max.code 2 (some .int) ∈ wsX7_swingWithPause := by decide +kernel
def g_swingWithPause_0 (nv : Int32) (nl3 : Int32) (nl7 : Int32) (nr3 : Int32) (nr7 : Int32) (r0 : Int32) (r1 : Int32) (r2 : Int32) (r3 : Int32) (r4 : Int32) : Nat → Nat → Int32 → Int32 → Int32 → Int32 → Int32 → Int32 → Int32 → Int32 → Int32 → Int32 → Int32 → Bool → Int32 → Int32 → Int32 → Int32 → Int32 → Int32 → Int32 → Int32 → Int32 → Int32 → Bool → Int32 × Int32 × Int32 × Int32 × Int32 × Int32 × Int32 × Int32 × Int32 × Int32 × Int32 × Bool × Int32 × Int32 × Int32 × Int32 × Int32 × Int32 × Int32 × Int32 × Int32 × Int32 × Bool
  | 0, _, _, _, _, _, _, _, _, _, _, _, _, _, _, _, _, _, _, _, _, _, _, _, _ => (0, 0, 0, 0, 0, 0, 0, 0, 0, 0, 0, false, 0, 0, 0, 0, 0, 0, 0, 0, 0, 0, false)
  | n_ + 1, j, gr_, wl0, wl1, wl2, wl4, wl5, wl6, wl8, wl9, wl10, wl11, wlb, wr0, wr1, wr2, wr4, wr5, wr6, wr8, wr9, wr10, wr11, wrb =>
    if 60 < nI j then
      (gr_, wl0, wl1, wl2, wl4, wl5, wl6, wl8, wl9, wl10, wl11, wlb, wr0, wr1, wr2, wr4, wr5, wr6, wr8, wr9, wr10, wr11, wrb)
    else
      match s_pairGoOn nv wl0 wl1 wl2 nl3 wl4 wl5 wl6 nl7 wl8 wl9 wl10 wl11 wr0 wr1 wr2 nr3 wr4 wr5 wr6 nr7 wr8 wr9 wr10 wr11 r0 r1 r2 r3 r4 with
      | (u_2_0, u_2_1, u_2_2, u_2_3, u_2_4, u_2_5, u_2_6, u_2_7, u_2_8, u_2_9, u_2_10, u_2_11, u_2_12, u_2_13, u_2_14, u_2_15, u_2_16, u_2_17, u_2_18) =>
        if nI j < 21 then
          g_swingWithPause_0 nv nl3 nl7 nr3 nr7 r0 r1 r2 r3 r4 n_ (j + 1) gr_ u_2_1 u_2_2 u_2_3 u_2_4 u_2_5 u_2_6 (wl8 - 1) u_2_7 (wl10 - 1) u_2_8 u_2_9 u_2_10 u_2_11 u_2_12 u_2_13 u_2_14 u_2_15 (wr8 - 1) u_2_16 (wr10 - 1) u_2_17 u_2_18
        else
          g_swingWithPause_0 nv nl3 nl7 nr3 nr7 r0 r1 r2 r3 r4 n_ (j + 1) (if gr_ < (if 0 ≤ u_2_4 then u_2_4 else 0 - u_2_4) then (if 0 ≤ u_2_4 then u_2_4 else 0 - u_2_4) else gr_) u_2_1 u_2_2 u_2_3 u_2_4 u_2_5 u_2_6 (wl8 - 1) u_2_7 (wl10 - 1) u_2_8 u_2_9 u_2_10 u_2_11 u_2_12 u_2_13 u_2_14 u_2_15 (wr8 - 1) u_2_16 (wr10 - 1) u_2_17 u_2_18
def s_swingWithPause_0 (nv : Int32) (nl0 : Int32) (nl1 : Int32) (nl2 : Int32) (nl3 : Int32) (nl4 : Int32) (nl5 : Int32) (nl6 : Int32) (nl7 : Int32) (nl8 : Int32) (nl9 : Int32) (nl10 : Int32) (nl11 : Int32) (nlb : Bool) (nr0 : Int32) (nr1 : Int32) (nr2 : Int32) (nr3 : Int32) (nr4 : Int32) (nr5 : Int32) (nr6 : Int32) (nr7 : Int32) (nr8 : Int32) (nr9 : Int32) (nr10 : Int32) (nr11 : Int32) (nrb : Bool) (r0 : Int32) (r1 : Int32) (r2 : Int32) (r3 : Int32) (r4 : Int32) (w_ : Int32) (pa : Int32) : Int32 × Int32 × Int32 × Int32 × Int32 × Int32 × Int32 × Int32 × Int32 × Int32 × Int32 × Bool × Int32 × Int32 × Int32 × Int32 × Int32 × Int32 × Int32 × Int32 × Int32 × Int32 × Bool :=
  match s_tellByHalves nv nl2 nl6 nl8 nl9 nl10 nl11 nr2 nr6 nr8 nr9 nr10 nr11 0 w_ pa with
  | (u_1_0, u_1_1, u_1_2, u_1_3, u_1_4, u_1_5, u_1_6, u_1_7, u_1_8) =>
    g_swingWithPause_0 nv nl3 nl7 nr3 nr7 r0 r1 r2 r3 r4 (61) 1 0 nl0 nl1 nl2 nl4 nl5 nl6 u_1_1 u_1_2 u_1_3 u_1_4 nlb nr0 nr1 nr2 nr4 nr5 nr6 u_1_5 u_1_6 u_1_7 u_1_8 nrb
set_option maxHeartbeats 4000000 in
set_option maxRecDepth 100000 in
theorem lp_swingWithPause_0 {p_ : Program} {e_ : Env} {s_ : State} {m_ : MethodId} {bl_ : List Frame} {me_ : Method} {cd_ : Code} {A_ : Nat → Prop} (l : Launch) (D : va_G) (cyC cyI : ClassId) (qM : Nat) (qT : Nat) (qQ : Nat) (qR : Nat) (qD : Nat) (qN : Nat) (q1 : Nat) (q2 : Nat) (q3 : Nat) (q4 : Nat) (ud : Int32) (nk : Int32) (qNp : Nat) (nv : Int32) (qNpl : Nat) (nl0 : Int32) (nl1 : Int32) (nl2 : Int32) (nl3 : Int32) (nl4 : Int32) (nl5 : Int32) (nl6 : Int32) (nl7 : Int32) (nl8 : Int32) (nl9 : Int32) (nl10 : Int32) (nl11 : Int32) (nlb : Bool) (qNpr : Nat) (nr0 : Int32) (nr1 : Int32) (nr2 : Int32) (nr3 : Int32) (nr4 : Int32) (nr5 : Int32) (nr6 : Int32) (nr7 : Int32) (nr8 : Int32) (nr9 : Int32) (nr10 : Int32) (nr11 : Int32) (nrb : Bool) (qNs : Nat) (qNz : Nat) (qRl : Nat) (qRr : Nat) (r0 : Int32) (r1 : Int32) (r2 : Int32) (r3 : Int32) (r4 : Int32) (tv : Int32) (qQl : Nat) (tl0 : Int32) (tl1 : Int32) (tl2 : Int32) (tl3 : Int32) (tl4 : Int32) (tl5 : Int32) (tl6 : Int32) (tl7 : Int32) (tl8 : Int32) (tl9 : Int32) (tl10 : Int32) (tl11 : Int32) (tlb : Bool) (qQr : Nat) (tr0 : Int32) (tr1 : Int32) (tr2 : Int32) (tr3 : Int32) (tr4 : Int32) (tr5 : Int32) (tr6 : Int32) (tr7 : Int32) (tr8 : Int32) (tr9 : Int32) (tr10 : Int32) (tr11 : Int32) (trb : Bool) (w_ : Int32) (pa : Int32) (o0 : Int32) (o1 : Int32) (o2 : Int32) (o3 : Int32) (o4 : Int32) (o5 : Int32) (o6 : Int32) (o7 : Int32) (o8 : Int32) (o9 : Int32) (o10 : Int32) (o11 : Bool) (o12 : Int32) (o13 : Int32) (o14 : Int32) (o15 : Int32) (o16 : Int32) (o17 : Int32) (o18 : Int32) (o19 : Int32) (o20 : Int32) (o21 : Int32) (o22 : Bool) (X : bX p_ s_ m_ ([.ref qM, .int 0, .int w_, .int pa] : List Value).toArray cd_ cX7_swingWithPause 7 wsX7_swingWithPause yX7_swingWithPause.cls D cyC cyI) (hr : me_.sig.returnType = (some .int)) (hlk : me_.locks = false) : ∀ (n_ : Nat) (j : Nat) (gr_ : Int32) (wl0 : Int32) (wl1 : Int32) (wl2 : Int32) (wl4 : Int32) (wl5 : Int32) (wl6 : Int32) (wl8 : Int32) (wl9 : Int32) (wl10 : Int32) (wl11 : Int32) (wlb : Bool) (wr0 : Int32) (wr1 : Int32) (wr2 : Int32) (wr4 : Int32) (wr5 : Int32) (wr6 : Int32) (wr8 : Int32) (wr9 : Int32) (wr10 : Int32) (wr11 : Int32) (wrb : Bool) (hN : 62 ≤ j + n_) (hJ : j ≤ 61) (hu : g_swingWithPause_0 nv nl3 nl7 nr3 nr7 r0 r1 r2 r3 r4 n_ j gr_ wl0 wl1 wl2 wl4 wl5 wl6 wl8 wl9 wl10 wl11 wlb wr0 wr1 wr2 wr4 wr5 wr6 wr8 wr9 wr10 wr11 wrb = (o0, o1, o2, o3, o4, o5, o6, o7, o8, o9, o10, o11, o12, o13, o14, o15, o16, o17, o18, o19, o20, o21, o22)) (ls : Array Slot) (H : Heap) (locs : List Loc), lv_has ls 7 [(0, .ref qM), (1, .int 0), (2, .int w_), (3, .int pa), (4, .ref qQl), (5, .int gr_), (6, .int (nI j))] → bY D A_ s_.heap [(qM, .inr (7, [.ref qT, .ref qQ, .ref qR, .ref qD, .ref qN, .ref q1, .ref q2, .ref q3, .ref q4, .int ud])), (qN, .inr (5, [.ref qNp, .ref qNs, .ref qNz, .int nk])), (qNp, .inr (2, [.ref qNpl, .ref qNpr, .int nv])), (qNpl, .inr (0, [.int nl0, .int nl1, .int nl2, .int nl3, .int nl4, .int nl5, .int nl6, .int nl7, .int nl8, .int nl9, .int nl10, .int nl11, .int (bB nlb)])), (qNpr, .inr (0, [.int nr0, .int nr1, .int nr2, .int nr3, .int nr4, .int nr5, .int nr6, .int nr7, .int nr8, .int nr9, .int nr10, .int nr11, .int (bB nrb)])), (qR, .inr (1, [.int r0, .int r1, .int r2, .int r3, .int r4, .ref qRl, .ref qRr])), (qQ, .inr (2, [.ref qQl, .ref qQr, .int nv])), (qQl, .inr (0, [.int wl0, .int wl1, .int wl2, .int nl3, .int wl4, .int wl5, .int wl6, .int nl7, .int wl8, .int wl9, .int wl10, .int wl11, .int (bB wlb)])), (qQr, .inr (0, [.int wr0, .int wr1, .int wr2, .int nr3, .int wr4, .int wr5, .int wr6, .int nr7, .int wr8, .int wr9, .int wr10, .int wr11, .int (bB wrb)]))] H locs → W p_ l e_ ({ frames := 5, cells := 0, slots := 0, locals := 108 } : Room) s_ m_ ([.ref qM, .int 0, .int w_, .int pa] : List Value).toArray bl_ me_ cd_ H locs 0 0 (bQI bl_ ([.ref qM, .int 0, .int w_, .int pa] : List Value).toArray s_ D [(qM, .inr (7, [.ref qT, .ref qQ, .ref qR, .ref qD, .ref qN, .ref q1, .ref q2, .ref q3, .ref q4, .int ud])), (qN, .inr (5, [.ref qNp, .ref qNs, .ref qNz, .int nk])), (qNp, .inr (2, [.ref qNpl, .ref qNpr, .int nv])), (qNpl, .inr (0, [.int nl0, .int nl1, .int nl2, .int nl3, .int nl4, .int nl5, .int nl6, .int nl7, .int nl8, .int nl9, .int nl10, .int nl11, .int (bB nlb)])), (qNpr, .inr (0, [.int nr0, .int nr1, .int nr2, .int nr3, .int nr4, .int nr5, .int nr6, .int nr7, .int nr8, .int nr9, .int nr10, .int nr11, .int (bB nrb)])), (qR, .inr (1, [.int r0, .int r1, .int r2, .int r3, .int r4, .ref qRl, .ref qRr])), (qQ, .inr (2, [.ref qQl, .ref qQr, .int nv])), (qQl, .inr (0, [.int o1, .int o2, .int o3, .int nl3, .int o4, .int o5, .int o6, .int nl7, .int o7, .int o8, .int o9, .int o10, .int (bB o11)])), (qQr, .inr (0, [.int o12, .int o13, .int o14, .int nr3, .int o15, .int o16, .int o17, .int nr7, .int o18, .int o19, .int o20, .int o21, .int (bB o22)]))] o0 A_) (F0 m_ 41 ls []) := by
  intro n_
  induction n_ with
  | zero =>
    intro j gr_ wl0 wl1 wl2 wl4 wl5 wl6 wl8 wl9 wl10 wl11 wlb wr0 wr1 wr2 wr4 wr5 wr6 wr8 wr9 wr10 wr11 wrb hN hJ hu ls H locs hl Y
    exfalso; omega
  | succ n_ ih =>
    intro j gr_ wl0 wl1 wl2 wl4 wl5 wl6 wl8 wl9 wl10 wl11 wlb wr0 wr1 wr2 wr4 wr5 wr6 wr8 wr9 wr10 wr11 wrb hN hJ hu ls H locs hl Y
    have hx := X.1.1
    have hb := X.1.2.1
    rw [g_swingWithPause_0] at hu
    refine lv_iload hx hb dX7_swingWithPause_41 (lv_at hl 6 rfl) ?_
    refine lv_bipush (v := 60) hx hb dX7_swingWithPause_43 (by decide) ?_
    refine lv_icmp_gt (tgt := 88) hx hb dX7_swingWithPause_45 (by decide) (fun c_1 => ?_) (fun c_1 => ?_)
    · have c_1 : 60 < nI j := c_1
      rw [if_pos c_1] at hu
      refine lv_iload hx hb dX7_swingWithPause_88 (lv_at hl 5 rfl) ?_
      have h9 := (Prod.mk.inj hu).1; replace hu := (Prod.mk.inj hu).2; subst h9
      have h9 := (Prod.mk.inj hu).1; replace hu := (Prod.mk.inj hu).2; subst h9
      have h9 := (Prod.mk.inj hu).1; replace hu := (Prod.mk.inj hu).2; subst h9
      have h9 := (Prod.mk.inj hu).1; replace hu := (Prod.mk.inj hu).2; subst h9
      have h9 := (Prod.mk.inj hu).1; replace hu := (Prod.mk.inj hu).2; subst h9
      have h9 := (Prod.mk.inj hu).1; replace hu := (Prod.mk.inj hu).2; subst h9
      have h9 := (Prod.mk.inj hu).1; replace hu := (Prod.mk.inj hu).2; subst h9
      have h9 := (Prod.mk.inj hu).1; replace hu := (Prod.mk.inj hu).2; subst h9
      have h9 := (Prod.mk.inj hu).1; replace hu := (Prod.mk.inj hu).2; subst h9
      have h9 := (Prod.mk.inj hu).1; replace hu := (Prod.mk.inj hu).2; subst h9
      have h9 := (Prod.mk.inj hu).1; replace hu := (Prod.mk.inj hu).2; subst h9
      have h9 := (Prod.mk.inj hu).1; replace hu := (Prod.mk.inj hu).2; subst h9
      have h9 := (Prod.mk.inj hu).1; replace hu := (Prod.mk.inj hu).2; subst h9
      have h9 := (Prod.mk.inj hu).1; replace hu := (Prod.mk.inj hu).2; subst h9
      have h9 := (Prod.mk.inj hu).1; replace hu := (Prod.mk.inj hu).2; subst h9
      have h9 := (Prod.mk.inj hu).1; replace hu := (Prod.mk.inj hu).2; subst h9
      have h9 := (Prod.mk.inj hu).1; replace hu := (Prod.mk.inj hu).2; subst h9
      have h9 := (Prod.mk.inj hu).1; replace hu := (Prod.mk.inj hu).2; subst h9
      have h9 := (Prod.mk.inj hu).1; replace hu := (Prod.mk.inj hu).2; subst h9
      have h9 := (Prod.mk.inj hu).1; replace hu := (Prod.mk.inj hu).2; subst h9
      have h9 := (Prod.mk.inj hu).1; replace hu := (Prod.mk.inj hu).2; subst h9
      have h9 := (Prod.mk.inj hu).1; replace hu := (Prod.mk.inj hu).2; subst h9
      subst hu
      exact bEndI X Y hr hlk dX7_swingWithPause_90 rfl rfl
    · have c_1 : ¬ (60 < nI j) := c_1
      rw [if_neg c_1] at hu
      refine lv_aload_n hx hb dX7_swingWithPause_48 rfl (lv_at hl 0 rfl) ?_
      refine bGet (v := .ref qQ) (T := TX7) (N := 10) (ci := 7) X Y i_X7_swingWithPause_X7 0 rfl rfl 1 (Nat.le_of_ble_eq_true rfl) f_X7_swingWithPause_19 rfl rfl dX7_swingWithPause_49 ?_
      refine lv_aload_n hx hb dX7_swingWithPause_52 rfl (lv_at hl 0 rfl) ?_
      refine bGet (v := .ref qR) (T := TX7) (N := 10) (ci := 7) X Y i_X7_swingWithPause_X7 0 rfl rfl 2 (Nat.le_of_ble_eq_true rfl) f_X7_swingWithPause_26 rfl rfl dX7_swingWithPause_53 ?_
      obtain ⟨u_2_0, u_2_1, u_2_2, u_2_3, u_2_4, u_2_5, u_2_6, u_2_7, u_2_8, u_2_9, u_2_10, u_2_11, u_2_12, u_2_13, u_2_14, u_2_15, u_2_16, u_2_17, u_2_18, hr_2⟩ := bEx19 (s_pairGoOn nv wl0 wl1 wl2 nl3 wl4 wl5 wl6 nl7 wl8 wl9 wl10 wl11 wr0 wr1 wr2 nr3 wr4 wr5 wr6 nr7 wr8 wr9 wr10 wr11 r0 r1 r2 r3 r4)
      rw [hr_2] at hu
      dsimp only at hu
      refine bVI (As := [.ref qR]) (rest := []) (wc := [(qQ, .inr (2, [.ref qQl, .ref qQr, .int nv])), (qQl, .inr (0, [.int wl0, .int wl1, .int wl2, .int nl3, .int wl4, .int wl5, .int wl6, .int nl7, .int wl8, .int wl9, .int wl10, .int wl11, .int (bB wlb)])), (qQr, .inr (0, [.int wr0, .int wr1, .int wr2, .int nr3, .int wr4, .int wr5, .int wr6, .int nr7, .int wr8, .int wr9, .int wr10, .int wr11, .int (bB wrb)])), (qR, .inr (1, [.int r0, .int r1, .int r2, .int r3, .int r4, .ref qRl, .ref qRr]))]) (w1 := [(qQ, .inr (2, [.ref qQl, .ref qQr, .int nv])), (qQl, .inr (0, [.int u_2_1, .int u_2_2, .int u_2_3, .int nl3, .int u_2_4, .int u_2_5, .int u_2_6, .int nl7, .int (wl8 - 1), .int u_2_7, .int (wl10 - 1), .int u_2_8, .int (bB u_2_9)])), (qQr, .inr (0, [.int u_2_10, .int u_2_11, .int u_2_12, .int nr3, .int u_2_13, .int u_2_14, .int u_2_15, .int nr7, .int (wr8 - 1), .int u_2_16, .int (wr10 - 1), .int u_2_17, .int (bB u_2_18)])), (qR, .inr (1, [.int r0, .int r1, .int r2, .int r3, .int r4, .ref qRl, .ref qRr]))]) (ws' := [(qM, .inr (7, [.ref qT, .ref qQ, .ref qR, .ref qD, .ref qN, .ref q1, .ref q2, .ref q3, .ref q4, .int ud])), (qN, .inr (5, [.ref qNp, .ref qNs, .ref qNz, .int nk])), (qNp, .inr (2, [.ref qNpl, .ref qNpr, .int nv])), (qNpl, .inr (0, [.int nl0, .int nl1, .int nl2, .int nl3, .int nl4, .int nl5, .int nl6, .int nl7, .int nl8, .int nl9, .int nl10, .int nl11, .int (bB nlb)])), (qNpr, .inr (0, [.int nr0, .int nr1, .int nr2, .int nr3, .int nr4, .int nr5, .int nr6, .int nr7, .int nr8, .int nr9, .int nr10, .int nr11, .int (bB nrb)])), (qR, .inr (1, [.int r0, .int r1, .int r2, .int r3, .int r4, .ref qRl, .ref qRr])), (qQ, .inr (2, [.ref qQl, .ref qQr, .int nv])), (qQl, .inr (0, [.int u_2_1, .int u_2_2, .int u_2_3, .int nl3, .int u_2_4, .int u_2_5, .int u_2_6, .int nl7, .int (wl8 - 1), .int u_2_7, .int (wl10 - 1), .int u_2_8, .int (bB u_2_9)])), (qQr, .inr (0, [.int u_2_10, .int u_2_11, .int u_2_12, .int nr3, .int u_2_13, .int u_2_14, .int u_2_15, .int nr7, .int (wr8 - 1), .int u_2_16, .int (wr10 - 1), .int u_2_17, .int (bB u_2_18)]))]) (ad := [qQ, qQl, qQr, qR]) (wr := [(qM, .inr (7, [.ref qT, .ref qQ, .ref qR, .ref qD, .ref qN, .ref q1, .ref q2, .ref q3, .ref q4, .int ud])), (qN, .inr (5, [.ref qNp, .ref qNs, .ref qNz, .int nk])), (qNp, .inr (2, [.ref qNpl, .ref qNpr, .int nv])), (qNpl, .inr (0, [.int nl0, .int nl1, .int nl2, .int nl3, .int nl4, .int nl5, .int nl6, .int nl7, .int nl8, .int nl9, .int nl10, .int nl11, .int (bB nlb)])), (qNpr, .inr (0, [.int nr0, .int nr1, .int nr2, .int nr3, .int nr4, .int nr5, .int nr6, .int nr7, .int nr8, .int nr9, .int nr10, .int nr11, .int (bB nrb)]))]) (nn := 9) (ci := 2) (q0 := 6) X Y (c_pairGoOn l D cyC cyI qQ nv qQl wl0 wl1 wl2 nl3 wl4 wl5 wl6 nl7 wl8 wl9 wl10 wl11 wlb qQr wr0 wr1 wr2 nr3 wr4 wr5 wr6 nr7 wr8 wr9 wr10 wr11 wrb qR qRl qRr r0 r1 r2 r3 r4 u_2_0 u_2_1 u_2_2 u_2_3 u_2_4 u_2_5 u_2_6 u_2_7 u_2_8 u_2_9 u_2_10 u_2_11 u_2_12 u_2_13 u_2_14 u_2_15 u_2_16 u_2_17 u_2_18 hr_2) gX7_swingWithPause_X2_goOn rfl ⟨rfl, rfl⟩ hd_X2_goOn ⟨(Nat.le_of_ble_eq_true rfl), (Nat.le_of_ble_eq_true rfl)⟩ rfl rfl rfl [6, 7, 8, 5] [0, 1, 2, 3, 4] rfl rfl rfl rfl rfl rfl rfl rfl (by decide) rfl rfl hl.1 (Nat.le_of_ble_eq_true rfl) ⟨Nat.zero_le _, Nat.zero_le _⟩ dX7_swingWithPause_56 (fun H locs Y => ?_)
      refine lv_pop hx hb dX7_swingWithPause_59 rfl ?_
      refine lv_iload hx hb dX7_swingWithPause_60 (lv_at hl 6 rfl) ?_
      refine lv_bipush (v := 21) hx hb dX7_swingWithPause_62 (by decide) ?_
      refine lv_icmp_lt (tgt := 82) hx hb dX7_swingWithPause_64 (by decide) (fun c_3 => ?_) (fun c_3 => ?_)
      · have c_3 : nI j < 21 := c_3
        rw [if_pos c_3] at hu
        refine lv_iinc (v := nI (j + 1)) (lv' := [(6, .int (nI (j + 1))), (0, .ref qM), (1, .int 0), (2, .int w_), (3, .int pa), (4, .ref qQl), (5, .int gr_)]) hx hb dX7_swingWithPause_82 hl (k := 6) rfl (nI_inc _) (by decide) rfl (fun ls hl => ?_)
        refine lv_goto (tgt := 41) hx hb dX7_swingWithPause_85 (by decide) ?_
        exact ih (j + 1) gr_ u_2_1 u_2_2 u_2_3 u_2_4 u_2_5 u_2_6 (wl8 - 1) u_2_7 (wl10 - 1) u_2_8 u_2_9 u_2_10 u_2_11 u_2_12 u_2_13 u_2_14 u_2_15 (wr8 - 1) u_2_16 (wr10 - 1) u_2_17 u_2_18 (by omega) (by have h9 := bNlt (k := 60) rfl (by omega) (by decide) c_1; omega) hu _ _ _ (lv_sub hl [1, 2, 3, 4, 5, 6, 0] rfl) Y
      · have c_3 : ¬ (nI j < 21) := c_3
        rw [if_neg c_3] at hu
        refine lv_iload hx hb dX7_swingWithPause_67 (lv_at hl 5 rfl) ?_
        refine lv_aload hx hb dX7_swingWithPause_69 (lv_at hl 4 rfl) ?_
        refine bGet (v := .int u_2_4) (T := TX0) (N := 13) (ci := 0) X Y i_X7_swingWithPause_X0 7 rfl rfl 4 (Nat.le_of_ble_eq_true rfl) f_X7_swingWithPause_148 rfl rfl dX7_swingWithPause_71 ?_
        refine bAbs (v := (if 0 ≤ u_2_4 then u_2_4 else 0 - u_2_4)) X hl.1 m_X7_swingWithPause_209 ms_X7_swingWithPause_abs mi_X7_swingWithPause mc_X7_swingWithPause_abs (Nat.le_of_ble_eq_true rfl) (Nat.le_of_ble_eq_true rfl) ⟨Nat.zero_le _, Nat.zero_le _⟩ dX7_swingWithPause_74 rfl ?_
        refine bMax (v := (if gr_ < (if 0 ≤ u_2_4 then u_2_4 else 0 - u_2_4) then (if 0 ≤ u_2_4 then u_2_4 else 0 - u_2_4) else gr_)) X hl.1 m_X7_swingWithPause_214 ms_X7_swingWithPause_max mi_X7_swingWithPause mc_X7_swingWithPause_max (Nat.le_of_ble_eq_true rfl) (Nat.le_of_ble_eq_true rfl) ⟨Nat.zero_le _, Nat.zero_le _⟩ dX7_swingWithPause_77 rfl ?_
        refine lv_istore (lv' := [(5, .int (if gr_ < (if 0 ≤ u_2_4 then u_2_4 else 0 - u_2_4) then (if 0 ≤ u_2_4 then u_2_4 else 0 - u_2_4) else gr_)), (0, .ref qM), (1, .int 0), (2, .int w_), (3, .int pa), (4, .ref qQl), (6, .int (nI j))]) hx hb dX7_swingWithPause_80 hl (by decide) rfl (fun ls hl => ?_)
        refine lv_iinc (v := nI (j + 1)) (lv' := [(6, .int (nI (j + 1))), (5, .int (if gr_ < (if 0 ≤ u_2_4 then u_2_4 else 0 - u_2_4) then (if 0 ≤ u_2_4 then u_2_4 else 0 - u_2_4) else gr_)), (0, .ref qM), (1, .int 0), (2, .int w_), (3, .int pa), (4, .ref qQl)]) hx hb dX7_swingWithPause_82 hl (k := 6) rfl (nI_inc _) (by decide) rfl (fun ls hl => ?_)
        refine lv_goto (tgt := 41) hx hb dX7_swingWithPause_85 (by decide) ?_
        exact ih (j + 1) (if gr_ < (if 0 ≤ u_2_4 then u_2_4 else 0 - u_2_4) then (if 0 ≤ u_2_4 then u_2_4 else 0 - u_2_4) else gr_) u_2_1 u_2_2 u_2_3 u_2_4 u_2_5 u_2_6 (wl8 - 1) u_2_7 (wl10 - 1) u_2_8 u_2_9 u_2_10 u_2_11 u_2_12 u_2_13 u_2_14 u_2_15 (wr8 - 1) u_2_16 (wr10 - 1) u_2_17 u_2_18 (by omega) (by have h9 := bNlt (k := 60) rfl (by omega) (by decide) c_1; omega) hu _ _ _ (lv_sub hl [2, 3, 4, 5, 6, 1, 0] rfl) Y
set_option maxHeartbeats 4000000 in
set_option maxRecDepth 100000 in
theorem c_swingWithPause_0 (l : Launch) (D : va_G) (cyC cyI : ClassId) (qM : Nat) (qT : Nat) (qQ : Nat) (qR : Nat) (qD : Nat) (qN : Nat) (q1 : Nat) (q2 : Nat) (q3 : Nat) (q4 : Nat) (ud : Int32) (nk : Int32) (qNp : Nat) (nv : Int32) (qNpl : Nat) (nl0 : Int32) (nl1 : Int32) (nl2 : Int32) (nl3 : Int32) (nl4 : Int32) (nl5 : Int32) (nl6 : Int32) (nl7 : Int32) (nl8 : Int32) (nl9 : Int32) (nl10 : Int32) (nl11 : Int32) (nlb : Bool) (qNpr : Nat) (nr0 : Int32) (nr1 : Int32) (nr2 : Int32) (nr3 : Int32) (nr4 : Int32) (nr5 : Int32) (nr6 : Int32) (nr7 : Int32) (nr8 : Int32) (nr9 : Int32) (nr10 : Int32) (nr11 : Int32) (nrb : Bool) (qNs : Nat) (qNz : Nat) (qRl : Nat) (qRr : Nat) (r0 : Int32) (r1 : Int32) (r2 : Int32) (r3 : Int32) (r4 : Int32) (tv : Int32) (qQl : Nat) (tl0 : Int32) (tl1 : Int32) (tl2 : Int32) (tl3 : Int32) (tl4 : Int32) (tl5 : Int32) (tl6 : Int32) (tl7 : Int32) (tl8 : Int32) (tl9 : Int32) (tl10 : Int32) (tl11 : Int32) (tlb : Bool) (qQr : Nat) (tr0 : Int32) (tr1 : Int32) (tr2 : Int32) (tr3 : Int32) (tr4 : Int32) (tr5 : Int32) (tr6 : Int32) (tr7 : Int32) (tr8 : Int32) (tr9 : Int32) (tr10 : Int32) (tr11 : Int32) (trb : Bool) (w_ : Int32) (pa : Int32) (o0 : Int32) (o1 : Int32) (o2 : Int32) (o3 : Int32) (o4 : Int32) (o5 : Int32) (o6 : Int32) (o7 : Int32) (o8 : Int32) (o9 : Int32) (o10 : Int32) (o11 : Bool) (o12 : Int32) (o13 : Int32) (o14 : Int32) (o15 : Int32) (o16 : Int32) (o17 : Int32) (o18 : Int32) (o19 : Int32) (o20 : Int32) (o21 : Int32) (o22 : Bool) (hu : s_swingWithPause_0 nv nl0 nl1 nl2 nl3 nl4 nl5 nl6 nl7 nl8 nl9 nl10 nl11 nlb nr0 nr1 nr2 nr3 nr4 nr5 nr6 nr7 nr8 nr9 nr10 nr11 nrb r0 r1 r2 r3 r4 w_ pa = (o0, o1, o2, o3, o4, o5, o6, o7, o8, o9, o10, o11, o12, o13, o14, o15, o16, o17, o18, o19, o20, o21, o22)) : CI l yX7_swingWithPause wsX7_swingWithPause { frames := 5, cells := 0, slots := 0, locals := 108 } D cyC cyI [.ref qM, .int 0, .int w_, .int pa] [(qM, .inr (7, [.ref qT, .ref qQ, .ref qR, .ref qD, .ref qN, .ref q1, .ref q2, .ref q3, .ref q4, .int ud])), (qN, .inr (5, [.ref qNp, .ref qNs, .ref qNz, .int nk])), (qNp, .inr (2, [.ref qNpl, .ref qNpr, .int nv])), (qNpl, .inr (0, [.int nl0, .int nl1, .int nl2, .int nl3, .int nl4, .int nl5, .int nl6, .int nl7, .int nl8, .int nl9, .int nl10, .int nl11, .int (bB nlb)])), (qNpr, .inr (0, [.int nr0, .int nr1, .int nr2, .int nr3, .int nr4, .int nr5, .int nr6, .int nr7, .int nr8, .int nr9, .int nr10, .int nr11, .int (bB nrb)])), (qR, .inr (1, [.int r0, .int r1, .int r2, .int r3, .int r4, .ref qRl, .ref qRr])), (qQ, .inr (2, [.ref qQl, .ref qQr, .int tv])), (qQl, .inr (0, [.int tl0, .int tl1, .int tl2, .int tl3, .int tl4, .int tl5, .int tl6, .int tl7, .int tl8, .int tl9, .int tl10, .int tl11, .int (bB tlb)])), (qQr, .inr (0, [.int tr0, .int tr1, .int tr2, .int tr3, .int tr4, .int tr5, .int tr6, .int tr7, .int tr8, .int tr9, .int tr10, .int tr11, .int (bB trb)]))] o0 [(qM, .inr (7, [.ref qT, .ref qQ, .ref qR, .ref qD, .ref qN, .ref q1, .ref q2, .ref q3, .ref q4, .int ud])), (qN, .inr (5, [.ref qNp, .ref qNs, .ref qNz, .int nk])), (qNp, .inr (2, [.ref qNpl, .ref qNpr, .int nv])), (qNpl, .inr (0, [.int nl0, .int nl1, .int nl2, .int nl3, .int nl4, .int nl5, .int nl6, .int nl7, .int nl8, .int nl9, .int nl10, .int nl11, .int (bB nlb)])), (qNpr, .inr (0, [.int nr0, .int nr1, .int nr2, .int nr3, .int nr4, .int nr5, .int nr6, .int nr7, .int nr8, .int nr9, .int nr10, .int nr11, .int (bB nrb)])), (qR, .inr (1, [.int r0, .int r1, .int r2, .int r3, .int r4, .ref qRl, .ref qRr])), (qQ, .inr (2, [.ref qQl, .ref qQr, .int nv])), (qQl, .inr (0, [.int o1, .int o2, .int o3, .int nl3, .int o4, .int o5, .int o6, .int nl7, .int o7, .int o8, .int o9, .int o10, .int (bB o11)])), (qQr, .inr (0, [.int o12, .int o13, .int o14, .int nr3, .int o15, .int o16, .int o17, .int nr7, .int o18, .int o19, .int o20, .int o21, .int (bB o22)]))] := by
  refine CI.of (cc := cX7_swingWithPause) (n := 7) (ret := (some .int)) (by decide +kernel) rfl (Nat.le_of_ble_eq_true rfl) ?_
  intro p_ e_ s_ m_ bl_ me_ cd_ A_ ls X Y hr hlk hl
  have hx := X.1.1
  have hb := X.1.2.1
  have hl : lv_has ls 7 [(0, .ref qM), (1, .int 0), (2, .int w_), (3, .int pa)] := hl
  unfold s_swingWithPause_0 at hu
  refine lv_aload_n hx hb dX7_swingWithPause_0 rfl (lv_at hl 0 rfl) ?_
  refine bGet (v := .ref qQ) (T := TX7) (N := 10) (ci := 7) X Y i_X7_swingWithPause_X7 0 rfl rfl 1 (Nat.le_of_ble_eq_true rfl) f_X7_swingWithPause_19 rfl rfl dX7_swingWithPause_1 ?_
  refine lv_aload_n hx hb dX7_swingWithPause_4 rfl (lv_at hl 0 rfl) ?_
  refine bGet (v := .ref qN) (T := TX7) (N := 10) (ci := 7) X Y i_X7_swingWithPause_X7 0 rfl rfl 4 (Nat.le_of_ble_eq_true rfl) f_X7_swingWithPause_36 rfl rfl dX7_swingWithPause_5 ?_
  refine bGet (v := .ref qNp) (T := TX5) (N := 4) (ci := 5) X Y i_X7_swingWithPause_X5 1 rfl rfl 0 (Nat.le_of_ble_eq_true rfl) f_X7_swingWithPause_95 rfl rfl dX7_swingWithPause_8 ?_
  refine bVV (As := [.ref qNp]) (rest := []) (wc := [(qQ, .inr (2, [.ref qQl, .ref qQr, .int tv])), (qQl, .inr (0, [.int tl0, .int tl1, .int tl2, .int tl3, .int tl4, .int tl5, .int tl6, .int tl7, .int tl8, .int tl9, .int tl10, .int tl11, .int (bB tlb)])), (qQr, .inr (0, [.int tr0, .int tr1, .int tr2, .int tr3, .int tr4, .int tr5, .int tr6, .int tr7, .int tr8, .int tr9, .int tr10, .int tr11, .int (bB trb)])), (qNp, .inr (2, [.ref qNpl, .ref qNpr, .int nv])), (qNpl, .inr (0, [.int nl0, .int nl1, .int nl2, .int nl3, .int nl4, .int nl5, .int nl6, .int nl7, .int nl8, .int nl9, .int nl10, .int nl11, .int (bB nlb)])), (qNpr, .inr (0, [.int nr0, .int nr1, .int nr2, .int nr3, .int nr4, .int nr5, .int nr6, .int nr7, .int nr8, .int nr9, .int nr10, .int nr11, .int (bB nrb)]))]) (w1 := [(qQ, .inr (2, [.ref qQl, .ref qQr, .int nv])), (qQl, .inr (0, [.int nl0, .int nl1, .int nl2, .int nl3, .int nl4, .int nl5, .int nl6, .int nl7, .int nl8, .int nl9, .int nl10, .int nl11, .int (bB nlb)])), (qQr, .inr (0, [.int nr0, .int nr1, .int nr2, .int nr3, .int nr4, .int nr5, .int nr6, .int nr7, .int nr8, .int nr9, .int nr10, .int nr11, .int (bB nrb)])), (qNp, .inr (2, [.ref qNpl, .ref qNpr, .int nv])), (qNpl, .inr (0, [.int nl0, .int nl1, .int nl2, .int nl3, .int nl4, .int nl5, .int nl6, .int nl7, .int nl8, .int nl9, .int nl10, .int nl11, .int (bB nlb)])), (qNpr, .inr (0, [.int nr0, .int nr1, .int nr2, .int nr3, .int nr4, .int nr5, .int nr6, .int nr7, .int nr8, .int nr9, .int nr10, .int nr11, .int (bB nrb)]))]) (ws' := [(qM, .inr (7, [.ref qT, .ref qQ, .ref qR, .ref qD, .ref qN, .ref q1, .ref q2, .ref q3, .ref q4, .int ud])), (qN, .inr (5, [.ref qNp, .ref qNs, .ref qNz, .int nk])), (qNp, .inr (2, [.ref qNpl, .ref qNpr, .int nv])), (qNpl, .inr (0, [.int nl0, .int nl1, .int nl2, .int nl3, .int nl4, .int nl5, .int nl6, .int nl7, .int nl8, .int nl9, .int nl10, .int nl11, .int (bB nlb)])), (qNpr, .inr (0, [.int nr0, .int nr1, .int nr2, .int nr3, .int nr4, .int nr5, .int nr6, .int nr7, .int nr8, .int nr9, .int nr10, .int nr11, .int (bB nrb)])), (qR, .inr (1, [.int r0, .int r1, .int r2, .int r3, .int r4, .ref qRl, .ref qRr])), (qQ, .inr (2, [.ref qQl, .ref qQr, .int nv])), (qQl, .inr (0, [.int nl0, .int nl1, .int nl2, .int nl3, .int nl4, .int nl5, .int nl6, .int nl7, .int nl8, .int nl9, .int nl10, .int nl11, .int (bB nlb)])), (qQr, .inr (0, [.int nr0, .int nr1, .int nr2, .int nr3, .int nr4, .int nr5, .int nr6, .int nr7, .int nr8, .int nr9, .int nr10, .int nr11, .int (bB nrb)]))]) (ad := [qQ, qQl, qQr, qNp, qNpl, qNpr]) (wr := [(qM, .inr (7, [.ref qT, .ref qQ, .ref qR, .ref qD, .ref qN, .ref q1, .ref q2, .ref q3, .ref q4, .int ud])), (qN, .inr (5, [.ref qNp, .ref qNs, .ref qNz, .int nk])), (qR, .inr (1, [.int r0, .int r1, .int r2, .int r3, .int r4, .ref qRl, .ref qRr]))]) (nn := 9) (ci := 2) (q0 := 6) X Y (c_pairCopy l D cyC cyI qQ tv qQl tl0 tl1 tl2 tl3 tl4 tl5 tl6 tl7 tl8 tl9 tl10 tl11 tlb qQr tr0 tr1 tr2 tr3 tr4 tr5 tr6 tr7 tr8 tr9 tr10 tr11 trb qNp nv qNpl nl0 nl1 nl2 nl3 nl4 nl5 nl6 nl7 nl8 nl9 nl10 nl11 nlb qNpr nr0 nr1 nr2 nr3 nr4 nr5 nr6 nr7 nr8 nr9 nr10 nr11 nrb) gX7_swingWithPause_X2_copyFrom rfl ⟨rfl, rfl⟩ hd_X2_copyFrom ⟨(Nat.le_of_ble_eq_true rfl), (Nat.le_of_ble_eq_true rfl)⟩ rfl rfl rfl [6, 7, 8, 2, 3, 4] [0, 1, 5] rfl rfl rfl rfl rfl rfl rfl rfl (by decide) rfl rfl hl.1 (Nat.le_of_ble_eq_true rfl) ⟨Nat.zero_le _, Nat.zero_le _⟩ dX7_swingWithPause_11 (fun H locs Y => ?_)
  refine lv_aload_n hx hb dX7_swingWithPause_14 rfl (lv_at hl 0 rfl) ?_
  refine bGet (v := .ref qQ) (T := TX7) (N := 10) (ci := 7) X Y i_X7_swingWithPause_X7 0 rfl rfl 1 (Nat.le_of_ble_eq_true rfl) f_X7_swingWithPause_19 rfl rfl dX7_swingWithPause_15 ?_
  refine lv_iload_n hx hb dX7_swingWithPause_18 rfl (lv_at hl 1 rfl) ?_
  refine lv_iload_n hx hb dX7_swingWithPause_19 rfl (lv_at hl 2 rfl) ?_
  refine lv_iload_n hx hb dX7_swingWithPause_20 rfl (lv_at hl 3 rfl) ?_
  obtain ⟨u_1_0, u_1_1, u_1_2, u_1_3, u_1_4, u_1_5, u_1_6, u_1_7, u_1_8, hr_1⟩ := bEx9 (s_tellByHalves nv nl2 nl6 nl8 nl9 nl10 nl11 nr2 nr6 nr8 nr9 nr10 nr11 0 w_ pa)
  rw [hr_1] at hu
  dsimp only at hu
  refine bVI (As := [.int 0, .int w_, .int pa]) (rest := []) (wc := [(qQ, .inr (2, [.ref qQl, .ref qQr, .int nv])), (qQl, .inr (0, [.int nl0, .int nl1, .int nl2, .int nl3, .int nl4, .int nl5, .int nl6, .int nl7, .int nl8, .int nl9, .int nl10, .int nl11, .int (bB nlb)])), (qQr, .inr (0, [.int nr0, .int nr1, .int nr2, .int nr3, .int nr4, .int nr5, .int nr6, .int nr7, .int nr8, .int nr9, .int nr10, .int nr11, .int (bB nrb)]))]) (w1 := [(qQ, .inr (2, [.ref qQl, .ref qQr, .int nv])), (qQl, .inr (0, [.int nl0, .int nl1, .int nl2, .int nl3, .int nl4, .int nl5, .int nl6, .int nl7, .int u_1_1, .int u_1_2, .int u_1_3, .int u_1_4, .int (bB nlb)])), (qQr, .inr (0, [.int nr0, .int nr1, .int nr2, .int nr3, .int nr4, .int nr5, .int nr6, .int nr7, .int u_1_5, .int u_1_6, .int u_1_7, .int u_1_8, .int (bB nrb)]))]) (ws' := [(qM, .inr (7, [.ref qT, .ref qQ, .ref qR, .ref qD, .ref qN, .ref q1, .ref q2, .ref q3, .ref q4, .int ud])), (qN, .inr (5, [.ref qNp, .ref qNs, .ref qNz, .int nk])), (qNp, .inr (2, [.ref qNpl, .ref qNpr, .int nv])), (qNpl, .inr (0, [.int nl0, .int nl1, .int nl2, .int nl3, .int nl4, .int nl5, .int nl6, .int nl7, .int nl8, .int nl9, .int nl10, .int nl11, .int (bB nlb)])), (qNpr, .inr (0, [.int nr0, .int nr1, .int nr2, .int nr3, .int nr4, .int nr5, .int nr6, .int nr7, .int nr8, .int nr9, .int nr10, .int nr11, .int (bB nrb)])), (qR, .inr (1, [.int r0, .int r1, .int r2, .int r3, .int r4, .ref qRl, .ref qRr])), (qQ, .inr (2, [.ref qQl, .ref qQr, .int nv])), (qQl, .inr (0, [.int nl0, .int nl1, .int nl2, .int nl3, .int nl4, .int nl5, .int nl6, .int nl7, .int u_1_1, .int u_1_2, .int u_1_3, .int u_1_4, .int (bB nlb)])), (qQr, .inr (0, [.int nr0, .int nr1, .int nr2, .int nr3, .int nr4, .int nr5, .int nr6, .int nr7, .int u_1_5, .int u_1_6, .int u_1_7, .int u_1_8, .int (bB nrb)]))]) (ad := [qQ, qQl, qQr]) (wr := [(qM, .inr (7, [.ref qT, .ref qQ, .ref qR, .ref qD, .ref qN, .ref q1, .ref q2, .ref q3, .ref q4, .int ud])), (qN, .inr (5, [.ref qNp, .ref qNs, .ref qNz, .int nk])), (qNp, .inr (2, [.ref qNpl, .ref qNpr, .int nv])), (qNpl, .inr (0, [.int nl0, .int nl1, .int nl2, .int nl3, .int nl4, .int nl5, .int nl6, .int nl7, .int nl8, .int nl9, .int nl10, .int nl11, .int (bB nlb)])), (qNpr, .inr (0, [.int nr0, .int nr1, .int nr2, .int nr3, .int nr4, .int nr5, .int nr6, .int nr7, .int nr8, .int nr9, .int nr10, .int nr11, .int (bB nrb)])), (qR, .inr (1, [.int r0, .int r1, .int r2, .int r3, .int r4, .ref qRl, .ref qRr]))]) (nn := 9) (ci := 2) (q0 := 6) X Y (c_tellByHalves l D cyC cyI qQ nv qQl nl0 nl1 nl2 nl3 nl4 nl5 nl6 nl7 nl8 nl9 nl10 nl11 nlb qQr nr0 nr1 nr2 nr3 nr4 nr5 nr6 nr7 nr8 nr9 nr10 nr11 nrb 0 w_ pa u_1_0 u_1_1 u_1_2 u_1_3 u_1_4 u_1_5 u_1_6 u_1_7 u_1_8 hr_1) gX7_swingWithPause_X2_tellByHalves rfl ⟨rfl, rfl⟩ hd_X2_tellByHalves ⟨(Nat.le_of_ble_eq_true rfl), (Nat.le_of_ble_eq_true rfl)⟩ rfl rfl rfl [6, 7, 8] [0, 1, 2, 3, 4, 5] rfl rfl rfl rfl rfl rfl rfl rfl (by decide) rfl rfl hl.1 (Nat.le_of_ble_eq_true rfl) ⟨Nat.zero_le _, Nat.zero_le _⟩ dX7_swingWithPause_21 (fun H locs Y => ?_)
  refine lv_pop hx hb dX7_swingWithPause_24 rfl ?_
  refine lv_aload_n hx hb dX7_swingWithPause_25 rfl (lv_at hl 0 rfl) ?_
  refine bGet (v := .ref qQ) (T := TX7) (N := 10) (ci := 7) X Y i_X7_swingWithPause_X7 0 rfl rfl 1 (Nat.le_of_ble_eq_true rfl) f_X7_swingWithPause_19 rfl rfl dX7_swingWithPause_26 ?_
  refine lv_iload_n hx hb dX7_swingWithPause_29 rfl (lv_at hl 1 rfl) ?_
  refine bVR0 (As := [.int 0]) (rest := []) (wc := [(qQ, .inr (2, [.ref qQl, .ref qQr, .int nv]))]) (ci := 2) (q0 := 6) X Y (c_side0 l D cyC cyI qQ qQl qQr nv) gX7_swingWithPause_X2_side rfl ⟨rfl, rfl⟩ hd_X2_side ⟨(Nat.le_of_ble_eq_true rfl), (Nat.le_of_ble_eq_true rfl)⟩ rfl rfl rfl [6] rfl rfl rfl rfl hl.1 (Nat.le_of_ble_eq_true rfl) ⟨Nat.zero_le _, Nat.zero_le _⟩ dX7_swingWithPause_30 (fun H locs Y => ?_)
  refine lv_astore (lv' := [(4, .ref qQl), (0, .ref qM), (1, .int 0), (2, .int w_), (3, .int pa)]) hx hb dX7_swingWithPause_33 hl (by decide) rfl (fun ls hl => ?_)
  refine lv_iconst (v := 0) hx hb dX7_swingWithPause_35 (by decide) ?_
  refine lv_istore (lv' := [(5, .int 0), (4, .ref qQl), (0, .ref qM), (1, .int 0), (2, .int w_), (3, .int pa)]) hx hb dX7_swingWithPause_36 hl (by decide) rfl (fun ls hl => ?_)
  refine lv_iconst (v := 1) hx hb dX7_swingWithPause_38 (by decide) ?_
  refine lv_istore (lv' := [(6, .int 1), (5, .int 0), (4, .ref qQl), (0, .ref qM), (1, .int 0), (2, .int w_), (3, .int pa)]) hx hb dX7_swingWithPause_39 hl (by decide) rfl (fun ls hl => ?_)
  exact lp_swingWithPause_0 l D cyC cyI qM qT qQ qR qD qN q1 q2 q3 q4 ud nk qNp nv qNpl nl0 nl1 nl2 nl3 nl4 nl5 nl6 nl7 nl8 nl9 nl10 nl11 nlb qNpr nr0 nr1 nr2 nr3 nr4 nr5 nr6 nr7 nr8 nr9 nr10 nr11 nrb qNs qNz qRl qRr r0 r1 r2 r3 r4 tv qQl tl0 tl1 tl2 tl3 tl4 tl5 tl6 tl7 tl8 tl9 tl10 tl11 tlb qQr tr0 tr1 tr2 tr3 tr4 tr5 tr6 tr7 tr8 tr9 tr10 tr11 trb w_ pa o0 o1 o2 o3 o4 o5 o6 o7 o8 o9 o10 o11 o12 o13 o14 o15 o16 o17 o18 o19 o20 o21 o22 X hr hlk (61) 1 0 nl0 nl1 nl2 nl4 nl5 nl6 u_1_1 u_1_2 u_1_3 u_1_4 nlb nr0 nr1 nr2 nr4 nr5 nr6 u_1_5 u_1_6 u_1_7 u_1_8 nrb (by omega) (by omega) hu _ _ _ (lv_sub hl [3, 4, 5, 6, 2, 1, 0] rfl) Y
def g_ahead_1 (nv : Int32) (nl3 : Int32) (nl7 : Int32) (nr3 : Int32) (nr7 : Int32) (r0 : Int32) (r1 : Int32) (r2 : Int32) (r3 : Int32) (r4 : Int32) (tn : Int32) (what : Int32) : Nat → Nat → Int32 → Int32 → Int32 → Int32 → Int32 → Int32 → Int32 → Int32 → Int32 → Int32 → Int32 → Int32 → Bool → Int32 → Int32 → Int32 → Int32 → Int32 → Int32 → Int32 → Int32 → Int32 → Int32 → Bool → Int32 × Int32 × Int32 × Int32 × Int32 × Int32 × Int32 × Int32 × Int32 × Int32 × Int32 × Int32 × Int32 × Int32 × Bool × Int32 × Int32 × Int32 × Int32 × Int32 × Int32 × Int32 × Int32 × Int32 × Int32 × Int32 × Int32 × Bool
  | 0, _, _, _, _, _, _, _, _, _, _, _, _, _, _, _, _, _, _, _, _, _, _, _, _, _ => (0, 0, 0, 0, 0, 0, 0, 0, 0, 0, 0, 0, 0, 0, false, 0, 0, 0, 0, 0, 0, 0, 0, 0, 0, 0, 0, false)
  | n_ + 1, j, gr_, br, wl0, wl1, wl2, wl4, wl5, wl6, wl8, wl9, wl10, wl11, wlb, wr0, wr1, wr2, wr4, wr5, wr6, wr8, wr9, wr10, wr11, wrb =>
    if tn ≤ nI j then
      if what = 0 then
        (wr0, nv, wl0, wl1, wl2, nl3, wl4, wl5, wl6, nl7, wl8, wl9, wl10, wl11, wlb, wr0, wr1, wr2, nr3, wr4, wr5, wr6, nr7, wr8, wr9, wr10, wr11, wrb)
      else
        if what = 1 then
          (wr1 + 100000, nv, wl0, wl1, wl2, nl3, wl4, wl5, wl6, nl7, wl8, wl9, wl10, wl11, wlb, wr0, wr1, wr2, nr3, wr4, wr5, wr6, nr7, wr8, wr9, wr10, wr11, wrb)
        else
          if what = 2 then
            (wr2, nv, wl0, wl1, wl2, nl3, wl4, wl5, wl6, nl7, wl8, wl9, wl10, wl11, wlb, wr0, wr1, wr2, nr3, wr4, wr5, wr6, nr7, wr8, wr9, wr10, wr11, wrb)
          else
            if what = 3 then
              (wr4 + 100000, nv, wl0, wl1, wl2, nl3, wl4, wl5, wl6, nl7, wl8, wl9, wl10, wl11, wlb, wr0, wr1, wr2, nr3, wr4, wr5, wr6, nr7, wr8, wr9, wr10, wr11, wrb)
            else
              if what = 4 then
                (gr_, nv, wl0, wl1, wl2, nl3, wl4, wl5, wl6, nl7, wl8, wl9, wl10, wl11, wlb, wr0, wr1, wr2, nr3, wr4, wr5, wr6, nr7, wr8, wr9, wr10, wr11, wrb)
              else
                (br, nv, wl0, wl1, wl2, nl3, wl4, wl5, wl6, nl7, wl8, wl9, wl10, wl11, wlb, wr0, wr1, wr2, nr3, wr4, wr5, wr6, nr7, wr8, wr9, wr10, wr11, wrb)
    else
      match s_pairGoOn nv wl0 wl1 wl2 nl3 wl4 wl5 wl6 nl7 wl8 wl9 wl10 wl11 wr0 wr1 wr2 nr3 wr4 wr5 wr6 nr7 wr8 wr9 wr10 wr11 r0 r1 r2 r3 r4 with
      | (u_7_0, u_7_1, u_7_2, u_7_3, u_7_4, u_7_5, u_7_6, u_7_7, u_7_8, u_7_9, u_7_10, u_7_11, u_7_12, u_7_13, u_7_14, u_7_15, u_7_16, u_7_17, u_7_18) =>
        if u_7_18 = true then
          g_ahead_1 nv nl3 nl7 nr3 nr7 r0 r1 r2 r3 r4 tn what n_ (j + 1) (if gr_ < (if 0 ≤ u_7_13 then u_7_13 else 0 - u_7_13) then (if 0 ≤ u_7_13 then u_7_13 else 0 - u_7_13) else gr_) (br + 1) u_7_1 u_7_2 u_7_3 u_7_4 u_7_5 u_7_6 (wl8 - 1) u_7_7 (wl10 - 1) u_7_8 u_7_9 u_7_10 u_7_11 u_7_12 u_7_13 u_7_14 u_7_15 (wr8 - 1) u_7_16 (wr10 - 1) u_7_17 u_7_18
        else
          g_ahead_1 nv nl3 nl7 nr3 nr7 r0 r1 r2 r3 r4 tn what n_ (j + 1) (if gr_ < (if 0 ≤ u_7_13 then u_7_13 else 0 - u_7_13) then (if 0 ≤ u_7_13 then u_7_13 else 0 - u_7_13) else gr_) (br + 0) u_7_1 u_7_2 u_7_3 u_7_4 u_7_5 u_7_6 (wl8 - 1) u_7_7 (wl10 - 1) u_7_8 u_7_9 u_7_10 u_7_11 u_7_12 u_7_13 u_7_14 u_7_15 (wr8 - 1) u_7_16 (wr10 - 1) u_7_17 u_7_18
def s_ahead_1 (nv : Int32) (nl0 : Int32) (nl1 : Int32) (nl2 : Int32) (nl3 : Int32) (nl4 : Int32) (nl5 : Int32) (nl6 : Int32) (nl7 : Int32) (nl8 : Int32) (nl9 : Int32) (nl10 : Int32) (nl11 : Int32) (nlb : Bool) (nr0 : Int32) (nr1 : Int32) (nr2 : Int32) (nr3 : Int32) (nr4 : Int32) (nr5 : Int32) (nr6 : Int32) (nr7 : Int32) (nr8 : Int32) (nr9 : Int32) (nr10 : Int32) (nr11 : Int32) (nrb : Bool) (r0 : Int32) (r1 : Int32) (r2 : Int32) (r3 : Int32) (r4 : Int32) (tv : Int32) (tl0 : Int32) (tl1 : Int32) (tl2 : Int32) (tl3 : Int32) (tl4 : Int32) (tl5 : Int32) (tl6 : Int32) (tl7 : Int32) (tl8 : Int32) (tl9 : Int32) (tl10 : Int32) (tl11 : Int32) (tlb : Bool) (tr0 : Int32) (tr1 : Int32) (tr2 : Int32) (tr3 : Int32) (tr4 : Int32) (tr5 : Int32) (tr6 : Int32) (tr7 : Int32) (tr8 : Int32) (tr9 : Int32) (tr10 : Int32) (tr11 : Int32) (trb : Bool) (tn : Int32) (what : Int32) : Int32 × Int32 × Int32 × Int32 × Int32 × Int32 × Int32 × Int32 × Int32 × Int32 × Int32 × Int32 × Int32 × Int32 × Bool × Int32 × Int32 × Int32 × Int32 × Int32 × Int32 × Int32 × Int32 × Int32 × Int32 × Int32 × Int32 × Bool :=
  if (s_isWithin tn 1 60) = true then
    if (s_isCrane 1) = true then
      if (s_isWithin what 0 5) = true then
        g_ahead_1 nv nl3 nl7 nr3 nr7 r0 r1 r2 r3 r4 tn what (61) 0 0 0 nl0 nl1 nl2 nl4 nl5 nl6 nl8 nl9 nl10 nl11 nlb nr0 nr1 nr2 nr4 nr5 nr6 nr8 nr9 nr10 nr11 nrb
      else
        ((-1), tv, tl0, tl1, tl2, tl3, tl4, tl5, tl6, tl7, tl8, tl9, tl10, tl11, tlb, tr0, tr1, tr2, tr3, tr4, tr5, tr6, tr7, tr8, tr9, tr10, tr11, trb)
    else
      ((-1), tv, tl0, tl1, tl2, tl3, tl4, tl5, tl6, tl7, tl8, tl9, tl10, tl11, tlb, tr0, tr1, tr2, tr3, tr4, tr5, tr6, tr7, tr8, tr9, tr10, tr11, trb)
  else
    ((-1), tv, tl0, tl1, tl2, tl3, tl4, tl5, tl6, tl7, tl8, tl9, tl10, tl11, tlb, tr0, tr1, tr2, tr3, tr4, tr5, tr6, tr7, tr8, tr9, tr10, tr11, trb)
set_option maxHeartbeats 4000000 in
set_option maxRecDepth 100000 in
theorem lp_ahead_1 {p_ : Program} {e_ : Env} {s_ : State} {m_ : MethodId} {bl_ : List Frame} {me_ : Method} {cd_ : Code} {A_ : Nat → Prop} (l : Launch) (D : va_G) (cyC cyI : ClassId) (qM : Nat) (qT : Nat) (qQ : Nat) (qR : Nat) (qD : Nat) (qN : Nat) (q1 : Nat) (q2 : Nat) (q3 : Nat) (q4 : Nat) (ud : Int32) (nk : Int32) (qNp : Nat) (nv : Int32) (qNpl : Nat) (nl0 : Int32) (nl1 : Int32) (nl2 : Int32) (nl3 : Int32) (nl4 : Int32) (nl5 : Int32) (nl6 : Int32) (nl7 : Int32) (nl8 : Int32) (nl9 : Int32) (nl10 : Int32) (nl11 : Int32) (nlb : Bool) (qNpr : Nat) (nr0 : Int32) (nr1 : Int32) (nr2 : Int32) (nr3 : Int32) (nr4 : Int32) (nr5 : Int32) (nr6 : Int32) (nr7 : Int32) (nr8 : Int32) (nr9 : Int32) (nr10 : Int32) (nr11 : Int32) (nrb : Bool) (qNs : Nat) (qNz : Nat) (qRl : Nat) (qRr : Nat) (r0 : Int32) (r1 : Int32) (r2 : Int32) (r3 : Int32) (r4 : Int32) (tv : Int32) (qQl : Nat) (tl0 : Int32) (tl1 : Int32) (tl2 : Int32) (tl3 : Int32) (tl4 : Int32) (tl5 : Int32) (tl6 : Int32) (tl7 : Int32) (tl8 : Int32) (tl9 : Int32) (tl10 : Int32) (tl11 : Int32) (tlb : Bool) (qQr : Nat) (tr0 : Int32) (tr1 : Int32) (tr2 : Int32) (tr3 : Int32) (tr4 : Int32) (tr5 : Int32) (tr6 : Int32) (tr7 : Int32) (tr8 : Int32) (tr9 : Int32) (tr10 : Int32) (tr11 : Int32) (trb : Bool) (tn : Int32) (what : Int32) (o0 : Int32) (o1 : Int32) (o2 : Int32) (o3 : Int32) (o4 : Int32) (o5 : Int32) (o6 : Int32) (o7 : Int32) (o8 : Int32) (o9 : Int32) (o10 : Int32) (o11 : Int32) (o12 : Int32) (o13 : Int32) (o14 : Bool) (o15 : Int32) (o16 : Int32) (o17 : Int32) (o18 : Int32) (o19 : Int32) (o20 : Int32) (o21 : Int32) (o22 : Int32) (o23 : Int32) (o24 : Int32) (o25 : Int32) (o26 : Int32) (o27 : Bool) (X : bX p_ s_ m_ ([.ref qM, .int tn, .int 1, .int what] : List Value).toArray cd_ cX7_ahead 8 wsX7_ahead yX7_ahead.cls D cyC cyI) (hr : me_.sig.returnType = (some .int)) (hlk : me_.locks = false) : ∀ (n_ : Nat) (j : Nat) (gr_ : Int32) (br : Int32) (wl0 : Int32) (wl1 : Int32) (wl2 : Int32) (wl4 : Int32) (wl5 : Int32) (wl6 : Int32) (wl8 : Int32) (wl9 : Int32) (wl10 : Int32) (wl11 : Int32) (wlb : Bool) (wr0 : Int32) (wr1 : Int32) (wr2 : Int32) (wr4 : Int32) (wr5 : Int32) (wr6 : Int32) (wr8 : Int32) (wr9 : Int32) (wr10 : Int32) (wr11 : Int32) (wrb : Bool) (hN : 61 ≤ j + n_) (hJ : j ≤ 60) (hK : tn ≤ nI 60) (hu : g_ahead_1 nv nl3 nl7 nr3 nr7 r0 r1 r2 r3 r4 tn what n_ j gr_ br wl0 wl1 wl2 wl4 wl5 wl6 wl8 wl9 wl10 wl11 wlb wr0 wr1 wr2 wr4 wr5 wr6 wr8 wr9 wr10 wr11 wrb = (o0, o1, o2, o3, o4, o5, o6, o7, o8, o9, o10, o11, o12, o13, o14, o15, o16, o17, o18, o19, o20, o21, o22, o23, o24, o25, o26, o27)) (ls : Array Slot) (H : Heap) (locs : List Loc), lv_has ls 8 [(0, .ref qM), (1, .int tn), (2, .int 1), (3, .int what), (4, .ref qQr), (5, .int gr_), (6, .int br), (7, .int (nI j))] → bY D A_ s_.heap [(qM, .inr (7, [.ref qT, .ref qQ, .ref qR, .ref qD, .ref qN, .ref q1, .ref q2, .ref q3, .ref q4, .int ud])), (qN, .inr (5, [.ref qNp, .ref qNs, .ref qNz, .int nk])), (qNp, .inr (2, [.ref qNpl, .ref qNpr, .int nv])), (qNpl, .inr (0, [.int nl0, .int nl1, .int nl2, .int nl3, .int nl4, .int nl5, .int nl6, .int nl7, .int nl8, .int nl9, .int nl10, .int nl11, .int (bB nlb)])), (qNpr, .inr (0, [.int nr0, .int nr1, .int nr2, .int nr3, .int nr4, .int nr5, .int nr6, .int nr7, .int nr8, .int nr9, .int nr10, .int nr11, .int (bB nrb)])), (qR, .inr (1, [.int r0, .int r1, .int r2, .int r3, .int r4, .ref qRl, .ref qRr])), (qQ, .inr (2, [.ref qQl, .ref qQr, .int nv])), (qQl, .inr (0, [.int wl0, .int wl1, .int wl2, .int nl3, .int wl4, .int wl5, .int wl6, .int nl7, .int wl8, .int wl9, .int wl10, .int wl11, .int (bB wlb)])), (qQr, .inr (0, [.int wr0, .int wr1, .int wr2, .int nr3, .int wr4, .int wr5, .int wr6, .int nr7, .int wr8, .int wr9, .int wr10, .int wr11, .int (bB wrb)]))] H locs → W p_ l e_ ({ frames := 5, cells := 0, slots := 0, locals := 108 } : Room) s_ m_ ([.ref qM, .int tn, .int 1, .int what] : List Value).toArray bl_ me_ cd_ H locs 0 0 (bQI bl_ ([.ref qM, .int tn, .int 1, .int what] : List Value).toArray s_ D [(qM, .inr (7, [.ref qT, .ref qQ, .ref qR, .ref qD, .ref qN, .ref q1, .ref q2, .ref q3, .ref q4, .int ud])), (qN, .inr (5, [.ref qNp, .ref qNs, .ref qNz, .int nk])), (qNp, .inr (2, [.ref qNpl, .ref qNpr, .int nv])), (qNpl, .inr (0, [.int nl0, .int nl1, .int nl2, .int nl3, .int nl4, .int nl5, .int nl6, .int nl7, .int nl8, .int nl9, .int nl10, .int nl11, .int (bB nlb)])), (qNpr, .inr (0, [.int nr0, .int nr1, .int nr2, .int nr3, .int nr4, .int nr5, .int nr6, .int nr7, .int nr8, .int nr9, .int nr10, .int nr11, .int (bB nrb)])), (qR, .inr (1, [.int r0, .int r1, .int r2, .int r3, .int r4, .ref qRl, .ref qRr])), (qQ, .inr (2, [.ref qQl, .ref qQr, .int o1])), (qQl, .inr (0, [.int o2, .int o3, .int o4, .int o5, .int o6, .int o7, .int o8, .int o9, .int o10, .int o11, .int o12, .int o13, .int (bB o14)])), (qQr, .inr (0, [.int o15, .int o16, .int o17, .int o18, .int o19, .int o20, .int o21, .int o22, .int o23, .int o24, .int o25, .int o26, .int (bB o27)]))] o0 A_) (F0 m_ 61 ls []) := by
  intro n_
  induction n_ with
  | zero =>
    intro j gr_ br wl0 wl1 wl2 wl4 wl5 wl6 wl8 wl9 wl10 wl11 wlb wr0 wr1 wr2 wr4 wr5 wr6 wr8 wr9 wr10 wr11 wrb hN hJ hK hu ls H locs hl Y
    exfalso; omega
  | succ n_ ih =>
    intro j gr_ br wl0 wl1 wl2 wl4 wl5 wl6 wl8 wl9 wl10 wl11 wlb wr0 wr1 wr2 wr4 wr5 wr6 wr8 wr9 wr10 wr11 wrb hN hJ hK hu ls H locs hl Y
    have hx := X.1.1
    have hb := X.1.2.1
    rw [g_ahead_1] at hu
    refine lv_iload hx hb dX7_ahead_61 (lv_at hl 7 rfl) ?_
    refine lv_iload_n hx hb dX7_ahead_63 rfl (lv_at hl 1 rfl) ?_
    refine lv_icmp_ge (tgt := 118) hx hb dX7_ahead_64 (by decide) (fun c_1 => ?_) (fun c_1 => ?_)
    · have c_1 : tn ≤ nI j := c_1
      rw [if_pos c_1] at hu
      refine lv_iload_n hx hb dX7_ahead_118 rfl (lv_at hl 3 rfl) ?_
      by_cases c_2 : what = 0
      · rw [if_pos c_2] at hu
        refine lv_tableIn (tgt := 152) (off := 33) hx hb dX7_ahead_119 (by rw [c_2]; decide) (by rw [c_2]; decide) (by rw [c_2]; decide +kernel) (by decide) ?_
        refine lv_aload hx hb dX7_ahead_152 (lv_at hl 4 rfl) ?_
        refine bGet (v := .int wr0) (T := TX0) (N := 13) (ci := 0) X Y i_X7_ahead_X0 8 rfl rfl 0 (Nat.le_of_ble_eq_true rfl) f_X7_ahead_138 rfl rfl dX7_ahead_154 ?_
        have h9 := (Prod.mk.inj hu).1; replace hu := (Prod.mk.inj hu).2; subst h9
        have h9 := (Prod.mk.inj hu).1; replace hu := (Prod.mk.inj hu).2; subst h9
        have h9 := (Prod.mk.inj hu).1; replace hu := (Prod.mk.inj hu).2; subst h9
        have h9 := (Prod.mk.inj hu).1; replace hu := (Prod.mk.inj hu).2; subst h9
        have h9 := (Prod.mk.inj hu).1; replace hu := (Prod.mk.inj hu).2; subst h9
        have h9 := (Prod.mk.inj hu).1; replace hu := (Prod.mk.inj hu).2; subst h9
        have h9 := (Prod.mk.inj hu).1; replace hu := (Prod.mk.inj hu).2; subst h9
        have h9 := (Prod.mk.inj hu).1; replace hu := (Prod.mk.inj hu).2; subst h9
        have h9 := (Prod.mk.inj hu).1; replace hu := (Prod.mk.inj hu).2; subst h9
        have h9 := (Prod.mk.inj hu).1; replace hu := (Prod.mk.inj hu).2; subst h9
        have h9 := (Prod.mk.inj hu).1; replace hu := (Prod.mk.inj hu).2; subst h9
        have h9 := (Prod.mk.inj hu).1; replace hu := (Prod.mk.inj hu).2; subst h9
        have h9 := (Prod.mk.inj hu).1; replace hu := (Prod.mk.inj hu).2; subst h9
        have h9 := (Prod.mk.inj hu).1; replace hu := (Prod.mk.inj hu).2; subst h9
        have h9 := (Prod.mk.inj hu).1; replace hu := (Prod.mk.inj hu).2; subst h9
        have h9 := (Prod.mk.inj hu).1; replace hu := (Prod.mk.inj hu).2; subst h9
        have h9 := (Prod.mk.inj hu).1; replace hu := (Prod.mk.inj hu).2; subst h9
        have h9 := (Prod.mk.inj hu).1; replace hu := (Prod.mk.inj hu).2; subst h9
        have h9 := (Prod.mk.inj hu).1; replace hu := (Prod.mk.inj hu).2; subst h9
        have h9 := (Prod.mk.inj hu).1; replace hu := (Prod.mk.inj hu).2; subst h9
        have h9 := (Prod.mk.inj hu).1; replace hu := (Prod.mk.inj hu).2; subst h9
        have h9 := (Prod.mk.inj hu).1; replace hu := (Prod.mk.inj hu).2; subst h9
        have h9 := (Prod.mk.inj hu).1; replace hu := (Prod.mk.inj hu).2; subst h9
        have h9 := (Prod.mk.inj hu).1; replace hu := (Prod.mk.inj hu).2; subst h9
        have h9 := (Prod.mk.inj hu).1; replace hu := (Prod.mk.inj hu).2; subst h9
        have h9 := (Prod.mk.inj hu).1; replace hu := (Prod.mk.inj hu).2; subst h9
        have h9 := (Prod.mk.inj hu).1; replace hu := (Prod.mk.inj hu).2; subst h9
        subst hu
        exact bEndI X Y hr hlk dX7_ahead_157 rfl rfl
      · skip
        rw [if_neg c_2] at hu
        by_cases c_3 : what = 1
        · rw [if_pos c_3] at hu
          refine lv_tableIn (tgt := 158) (off := 39) hx hb dX7_ahead_119 (by rw [c_3]; decide) (by rw [c_3]; decide) (by rw [c_3]; decide +kernel) (by decide) ?_
          refine lv_aload hx hb dX7_ahead_158 (lv_at hl 4 rfl) ?_
          refine bGet (v := .int wr1) (T := TX0) (N := 13) (ci := 0) X Y i_X7_ahead_X0 8 rfl rfl 1 (Nat.le_of_ble_eq_true rfl) f_X7_ahead_141 rfl rfl dX7_ahead_160 ?_
          refine lv_ldc (v := 100000) hx hb X.1.2.2.2.1 (X.1.2.2.2.2 _ k_X7_ahead_144) dX7_ahead_163 ?_
          refine bAdd (v := wr1 + 100000) X dX7_ahead_165 rfl ?_
          have h9 := (Prod.mk.inj hu).1; replace hu := (Prod.mk.inj hu).2; subst h9
          have h9 := (Prod.mk.inj hu).1; replace hu := (Prod.mk.inj hu).2; subst h9
          have h9 := (Prod.mk.inj hu).1; replace hu := (Prod.mk.inj hu).2; subst h9
          have h9 := (Prod.mk.inj hu).1; replace hu := (Prod.mk.inj hu).2; subst h9
          have h9 := (Prod.mk.inj hu).1; replace hu := (Prod.mk.inj hu).2; subst h9
          have h9 := (Prod.mk.inj hu).1; replace hu := (Prod.mk.inj hu).2; subst h9
          have h9 := (Prod.mk.inj hu).1; replace hu := (Prod.mk.inj hu).2; subst h9
          have h9 := (Prod.mk.inj hu).1; replace hu := (Prod.mk.inj hu).2; subst h9
          have h9 := (Prod.mk.inj hu).1; replace hu := (Prod.mk.inj hu).2; subst h9
          have h9 := (Prod.mk.inj hu).1; replace hu := (Prod.mk.inj hu).2; subst h9
          have h9 := (Prod.mk.inj hu).1; replace hu := (Prod.mk.inj hu).2; subst h9
          have h9 := (Prod.mk.inj hu).1; replace hu := (Prod.mk.inj hu).2; subst h9
          have h9 := (Prod.mk.inj hu).1; replace hu := (Prod.mk.inj hu).2; subst h9
          have h9 := (Prod.mk.inj hu).1; replace hu := (Prod.mk.inj hu).2; subst h9
          have h9 := (Prod.mk.inj hu).1; replace hu := (Prod.mk.inj hu).2; subst h9
          have h9 := (Prod.mk.inj hu).1; replace hu := (Prod.mk.inj hu).2; subst h9
          have h9 := (Prod.mk.inj hu).1; replace hu := (Prod.mk.inj hu).2; subst h9
          have h9 := (Prod.mk.inj hu).1; replace hu := (Prod.mk.inj hu).2; subst h9
          have h9 := (Prod.mk.inj hu).1; replace hu := (Prod.mk.inj hu).2; subst h9
          have h9 := (Prod.mk.inj hu).1; replace hu := (Prod.mk.inj hu).2; subst h9
          have h9 := (Prod.mk.inj hu).1; replace hu := (Prod.mk.inj hu).2; subst h9
          have h9 := (Prod.mk.inj hu).1; replace hu := (Prod.mk.inj hu).2; subst h9
          have h9 := (Prod.mk.inj hu).1; replace hu := (Prod.mk.inj hu).2; subst h9
          have h9 := (Prod.mk.inj hu).1; replace hu := (Prod.mk.inj hu).2; subst h9
          have h9 := (Prod.mk.inj hu).1; replace hu := (Prod.mk.inj hu).2; subst h9
          have h9 := (Prod.mk.inj hu).1; replace hu := (Prod.mk.inj hu).2; subst h9
          have h9 := (Prod.mk.inj hu).1; replace hu := (Prod.mk.inj hu).2; subst h9
          subst hu
          exact bEndI X Y hr hlk dX7_ahead_166 rfl rfl
        · skip
          rw [if_neg c_3] at hu
          by_cases c_4 : what = 2
          · rw [if_pos c_4] at hu
            refine lv_tableIn (tgt := 167) (off := 48) hx hb dX7_ahead_119 (by rw [c_4]; decide) (by rw [c_4]; decide) (by rw [c_4]; decide +kernel) (by decide) ?_
            refine lv_aload hx hb dX7_ahead_167 (lv_at hl 4 rfl) ?_
            refine bGet (v := .int wr2) (T := TX0) (N := 13) (ci := 0) X Y i_X7_ahead_X0 8 rfl rfl 2 (Nat.le_of_ble_eq_true rfl) f_X7_ahead_145 rfl rfl dX7_ahead_169 ?_
            have h9 := (Prod.mk.inj hu).1; replace hu := (Prod.mk.inj hu).2; subst h9
            have h9 := (Prod.mk.inj hu).1; replace hu := (Prod.mk.inj hu).2; subst h9
            have h9 := (Prod.mk.inj hu).1; replace hu := (Prod.mk.inj hu).2; subst h9
            have h9 := (Prod.mk.inj hu).1; replace hu := (Prod.mk.inj hu).2; subst h9
            have h9 := (Prod.mk.inj hu).1; replace hu := (Prod.mk.inj hu).2; subst h9
            have h9 := (Prod.mk.inj hu).1; replace hu := (Prod.mk.inj hu).2; subst h9
            have h9 := (Prod.mk.inj hu).1; replace hu := (Prod.mk.inj hu).2; subst h9
            have h9 := (Prod.mk.inj hu).1; replace hu := (Prod.mk.inj hu).2; subst h9
            have h9 := (Prod.mk.inj hu).1; replace hu := (Prod.mk.inj hu).2; subst h9
            have h9 := (Prod.mk.inj hu).1; replace hu := (Prod.mk.inj hu).2; subst h9
            have h9 := (Prod.mk.inj hu).1; replace hu := (Prod.mk.inj hu).2; subst h9
            have h9 := (Prod.mk.inj hu).1; replace hu := (Prod.mk.inj hu).2; subst h9
            have h9 := (Prod.mk.inj hu).1; replace hu := (Prod.mk.inj hu).2; subst h9
            have h9 := (Prod.mk.inj hu).1; replace hu := (Prod.mk.inj hu).2; subst h9
            have h9 := (Prod.mk.inj hu).1; replace hu := (Prod.mk.inj hu).2; subst h9
            have h9 := (Prod.mk.inj hu).1; replace hu := (Prod.mk.inj hu).2; subst h9
            have h9 := (Prod.mk.inj hu).1; replace hu := (Prod.mk.inj hu).2; subst h9
            have h9 := (Prod.mk.inj hu).1; replace hu := (Prod.mk.inj hu).2; subst h9
            have h9 := (Prod.mk.inj hu).1; replace hu := (Prod.mk.inj hu).2; subst h9
            have h9 := (Prod.mk.inj hu).1; replace hu := (Prod.mk.inj hu).2; subst h9
            have h9 := (Prod.mk.inj hu).1; replace hu := (Prod.mk.inj hu).2; subst h9
            have h9 := (Prod.mk.inj hu).1; replace hu := (Prod.mk.inj hu).2; subst h9
            have h9 := (Prod.mk.inj hu).1; replace hu := (Prod.mk.inj hu).2; subst h9
            have h9 := (Prod.mk.inj hu).1; replace hu := (Prod.mk.inj hu).2; subst h9
            have h9 := (Prod.mk.inj hu).1; replace hu := (Prod.mk.inj hu).2; subst h9
            have h9 := (Prod.mk.inj hu).1; replace hu := (Prod.mk.inj hu).2; subst h9
            have h9 := (Prod.mk.inj hu).1; replace hu := (Prod.mk.inj hu).2; subst h9
            subst hu
            exact bEndI X Y hr hlk dX7_ahead_172 rfl rfl
          · skip
            rw [if_neg c_4] at hu
            by_cases c_5 : what = 3
            · rw [if_pos c_5] at hu
              refine lv_tableIn (tgt := 173) (off := 54) hx hb dX7_ahead_119 (by rw [c_5]; decide) (by rw [c_5]; decide) (by rw [c_5]; decide +kernel) (by decide) ?_
              refine lv_aload hx hb dX7_ahead_173 (lv_at hl 4 rfl) ?_
              refine bGet (v := .int wr4) (T := TX0) (N := 13) (ci := 0) X Y i_X7_ahead_X0 8 rfl rfl 4 (Nat.le_of_ble_eq_true rfl) f_X7_ahead_148 rfl rfl dX7_ahead_175 ?_
              refine lv_ldc (v := 100000) hx hb X.1.2.2.2.1 (X.1.2.2.2.2 _ k_X7_ahead_144) dX7_ahead_178 ?_
              refine bAdd (v := wr4 + 100000) X dX7_ahead_180 rfl ?_
              have h9 := (Prod.mk.inj hu).1; replace hu := (Prod.mk.inj hu).2; subst h9
              have h9 := (Prod.mk.inj hu).1; replace hu := (Prod.mk.inj hu).2; subst h9
              have h9 := (Prod.mk.inj hu).1; replace hu := (Prod.mk.inj hu).2; subst h9
              have h9 := (Prod.mk.inj hu).1; replace hu := (Prod.mk.inj hu).2; subst h9
              have h9 := (Prod.mk.inj hu).1; replace hu := (Prod.mk.inj hu).2; subst h9
              have h9 := (Prod.mk.inj hu).1; replace hu := (Prod.mk.inj hu).2; subst h9
              have h9 := (Prod.mk.inj hu).1; replace hu := (Prod.mk.inj hu).2; subst h9
              have h9 := (Prod.mk.inj hu).1; replace hu := (Prod.mk.inj hu).2; subst h9
              have h9 := (Prod.mk.inj hu).1; replace hu := (Prod.mk.inj hu).2; subst h9
              have h9 := (Prod.mk.inj hu).1; replace hu := (Prod.mk.inj hu).2; subst h9
              have h9 := (Prod.mk.inj hu).1; replace hu := (Prod.mk.inj hu).2; subst h9
              have h9 := (Prod.mk.inj hu).1; replace hu := (Prod.mk.inj hu).2; subst h9
              have h9 := (Prod.mk.inj hu).1; replace hu := (Prod.mk.inj hu).2; subst h9
              have h9 := (Prod.mk.inj hu).1; replace hu := (Prod.mk.inj hu).2; subst h9
              have h9 := (Prod.mk.inj hu).1; replace hu := (Prod.mk.inj hu).2; subst h9
              have h9 := (Prod.mk.inj hu).1; replace hu := (Prod.mk.inj hu).2; subst h9
              have h9 := (Prod.mk.inj hu).1; replace hu := (Prod.mk.inj hu).2; subst h9
              have h9 := (Prod.mk.inj hu).1; replace hu := (Prod.mk.inj hu).2; subst h9
              have h9 := (Prod.mk.inj hu).1; replace hu := (Prod.mk.inj hu).2; subst h9
              have h9 := (Prod.mk.inj hu).1; replace hu := (Prod.mk.inj hu).2; subst h9
              have h9 := (Prod.mk.inj hu).1; replace hu := (Prod.mk.inj hu).2; subst h9
              have h9 := (Prod.mk.inj hu).1; replace hu := (Prod.mk.inj hu).2; subst h9
              have h9 := (Prod.mk.inj hu).1; replace hu := (Prod.mk.inj hu).2; subst h9
              have h9 := (Prod.mk.inj hu).1; replace hu := (Prod.mk.inj hu).2; subst h9
              have h9 := (Prod.mk.inj hu).1; replace hu := (Prod.mk.inj hu).2; subst h9
              have h9 := (Prod.mk.inj hu).1; replace hu := (Prod.mk.inj hu).2; subst h9
              have h9 := (Prod.mk.inj hu).1; replace hu := (Prod.mk.inj hu).2; subst h9
              subst hu
              exact bEndI X Y hr hlk dX7_ahead_181 rfl rfl
            · skip
              rw [if_neg c_5] at hu
              by_cases c_6 : what = 4
              · rw [if_pos c_6] at hu
                refine lv_tableIn (tgt := 182) (off := 63) hx hb dX7_ahead_119 (by rw [c_6]; decide) (by rw [c_6]; decide) (by rw [c_6]; decide +kernel) (by decide) ?_
                refine lv_iload hx hb dX7_ahead_182 (lv_at hl 5 rfl) ?_
                have h9 := (Prod.mk.inj hu).1; replace hu := (Prod.mk.inj hu).2; subst h9
                have h9 := (Prod.mk.inj hu).1; replace hu := (Prod.mk.inj hu).2; subst h9
                have h9 := (Prod.mk.inj hu).1; replace hu := (Prod.mk.inj hu).2; subst h9
                have h9 := (Prod.mk.inj hu).1; replace hu := (Prod.mk.inj hu).2; subst h9
                have h9 := (Prod.mk.inj hu).1; replace hu := (Prod.mk.inj hu).2; subst h9
                have h9 := (Prod.mk.inj hu).1; replace hu := (Prod.mk.inj hu).2; subst h9
                have h9 := (Prod.mk.inj hu).1; replace hu := (Prod.mk.inj hu).2; subst h9
                have h9 := (Prod.mk.inj hu).1; replace hu := (Prod.mk.inj hu).2; subst h9
                have h9 := (Prod.mk.inj hu).1; replace hu := (Prod.mk.inj hu).2; subst h9
                have h9 := (Prod.mk.inj hu).1; replace hu := (Prod.mk.inj hu).2; subst h9
                have h9 := (Prod.mk.inj hu).1; replace hu := (Prod.mk.inj hu).2; subst h9
                have h9 := (Prod.mk.inj hu).1; replace hu := (Prod.mk.inj hu).2; subst h9
                have h9 := (Prod.mk.inj hu).1; replace hu := (Prod.mk.inj hu).2; subst h9
                have h9 := (Prod.mk.inj hu).1; replace hu := (Prod.mk.inj hu).2; subst h9
                have h9 := (Prod.mk.inj hu).1; replace hu := (Prod.mk.inj hu).2; subst h9
                have h9 := (Prod.mk.inj hu).1; replace hu := (Prod.mk.inj hu).2; subst h9
                have h9 := (Prod.mk.inj hu).1; replace hu := (Prod.mk.inj hu).2; subst h9
                have h9 := (Prod.mk.inj hu).1; replace hu := (Prod.mk.inj hu).2; subst h9
                have h9 := (Prod.mk.inj hu).1; replace hu := (Prod.mk.inj hu).2; subst h9
                have h9 := (Prod.mk.inj hu).1; replace hu := (Prod.mk.inj hu).2; subst h9
                have h9 := (Prod.mk.inj hu).1; replace hu := (Prod.mk.inj hu).2; subst h9
                have h9 := (Prod.mk.inj hu).1; replace hu := (Prod.mk.inj hu).2; subst h9
                have h9 := (Prod.mk.inj hu).1; replace hu := (Prod.mk.inj hu).2; subst h9
                have h9 := (Prod.mk.inj hu).1; replace hu := (Prod.mk.inj hu).2; subst h9
                have h9 := (Prod.mk.inj hu).1; replace hu := (Prod.mk.inj hu).2; subst h9
                have h9 := (Prod.mk.inj hu).1; replace hu := (Prod.mk.inj hu).2; subst h9
                have h9 := (Prod.mk.inj hu).1; replace hu := (Prod.mk.inj hu).2; subst h9
                subst hu
                exact bEndI X Y hr hlk dX7_ahead_184 rfl rfl
              · skip
                rw [if_neg c_6] at hu
                refine lv_tableOut (tgt := 185) hx hb dX7_ahead_119 (by have e0 := bNeI c_2 (show (0 : Int32).toInt = 0 by decide); have e1 := bNeI c_3 (show (1 : Int32).toInt = 1 by decide); have e2 := bNeI c_4 (show (2 : Int32).toInt = 2 by decide); have e3 := bNeI c_5 (show (3 : Int32).toInt = 3 by decide); have e4 := bNeI c_6 (show (4 : Int32).toInt = 4 by decide); omega) (by decide) ?_
                refine lv_iload hx hb dX7_ahead_185 (lv_at hl 6 rfl) ?_
                have h9 := (Prod.mk.inj hu).1; replace hu := (Prod.mk.inj hu).2; subst h9
                have h9 := (Prod.mk.inj hu).1; replace hu := (Prod.mk.inj hu).2; subst h9
                have h9 := (Prod.mk.inj hu).1; replace hu := (Prod.mk.inj hu).2; subst h9
                have h9 := (Prod.mk.inj hu).1; replace hu := (Prod.mk.inj hu).2; subst h9
                have h9 := (Prod.mk.inj hu).1; replace hu := (Prod.mk.inj hu).2; subst h9
                have h9 := (Prod.mk.inj hu).1; replace hu := (Prod.mk.inj hu).2; subst h9
                have h9 := (Prod.mk.inj hu).1; replace hu := (Prod.mk.inj hu).2; subst h9
                have h9 := (Prod.mk.inj hu).1; replace hu := (Prod.mk.inj hu).2; subst h9
                have h9 := (Prod.mk.inj hu).1; replace hu := (Prod.mk.inj hu).2; subst h9
                have h9 := (Prod.mk.inj hu).1; replace hu := (Prod.mk.inj hu).2; subst h9
                have h9 := (Prod.mk.inj hu).1; replace hu := (Prod.mk.inj hu).2; subst h9
                have h9 := (Prod.mk.inj hu).1; replace hu := (Prod.mk.inj hu).2; subst h9
                have h9 := (Prod.mk.inj hu).1; replace hu := (Prod.mk.inj hu).2; subst h9
                have h9 := (Prod.mk.inj hu).1; replace hu := (Prod.mk.inj hu).2; subst h9
                have h9 := (Prod.mk.inj hu).1; replace hu := (Prod.mk.inj hu).2; subst h9
                have h9 := (Prod.mk.inj hu).1; replace hu := (Prod.mk.inj hu).2; subst h9
                have h9 := (Prod.mk.inj hu).1; replace hu := (Prod.mk.inj hu).2; subst h9
                have h9 := (Prod.mk.inj hu).1; replace hu := (Prod.mk.inj hu).2; subst h9
                have h9 := (Prod.mk.inj hu).1; replace hu := (Prod.mk.inj hu).2; subst h9
                have h9 := (Prod.mk.inj hu).1; replace hu := (Prod.mk.inj hu).2; subst h9
                have h9 := (Prod.mk.inj hu).1; replace hu := (Prod.mk.inj hu).2; subst h9
                have h9 := (Prod.mk.inj hu).1; replace hu := (Prod.mk.inj hu).2; subst h9
                have h9 := (Prod.mk.inj hu).1; replace hu := (Prod.mk.inj hu).2; subst h9
                have h9 := (Prod.mk.inj hu).1; replace hu := (Prod.mk.inj hu).2; subst h9
                have h9 := (Prod.mk.inj hu).1; replace hu := (Prod.mk.inj hu).2; subst h9
                have h9 := (Prod.mk.inj hu).1; replace hu := (Prod.mk.inj hu).2; subst h9
                have h9 := (Prod.mk.inj hu).1; replace hu := (Prod.mk.inj hu).2; subst h9
                subst hu
                exact bEndI X Y hr hlk dX7_ahead_187 rfl rfl
    · have c_1 : ¬ (tn ≤ nI j) := c_1
      rw [if_neg c_1] at hu
      refine lv_aload_n hx hb dX7_ahead_67 rfl (lv_at hl 0 rfl) ?_
      refine bGet (v := .ref qQ) (T := TX7) (N := 10) (ci := 7) X Y i_X7_ahead_X7 0 rfl rfl 1 (Nat.le_of_ble_eq_true rfl) f_X7_ahead_19 rfl rfl dX7_ahead_68 ?_
      refine lv_aload_n hx hb dX7_ahead_71 rfl (lv_at hl 0 rfl) ?_
      refine bGet (v := .ref qR) (T := TX7) (N := 10) (ci := 7) X Y i_X7_ahead_X7 0 rfl rfl 2 (Nat.le_of_ble_eq_true rfl) f_X7_ahead_26 rfl rfl dX7_ahead_72 ?_
      obtain ⟨u_7_0, u_7_1, u_7_2, u_7_3, u_7_4, u_7_5, u_7_6, u_7_7, u_7_8, u_7_9, u_7_10, u_7_11, u_7_12, u_7_13, u_7_14, u_7_15, u_7_16, u_7_17, u_7_18, hr_7⟩ := bEx19 (s_pairGoOn nv wl0 wl1 wl2 nl3 wl4 wl5 wl6 nl7 wl8 wl9 wl10 wl11 wr0 wr1 wr2 nr3 wr4 wr5 wr6 nr7 wr8 wr9 wr10 wr11 r0 r1 r2 r3 r4)
      rw [hr_7] at hu
      dsimp only at hu
      refine bVI (As := [.ref qR]) (rest := []) (wc := [(qQ, .inr (2, [.ref qQl, .ref qQr, .int nv])), (qQl, .inr (0, [.int wl0, .int wl1, .int wl2, .int nl3, .int wl4, .int wl5, .int wl6, .int nl7, .int wl8, .int wl9, .int wl10, .int wl11, .int (bB wlb)])), (qQr, .inr (0, [.int wr0, .int wr1, .int wr2, .int nr3, .int wr4, .int wr5, .int wr6, .int nr7, .int wr8, .int wr9, .int wr10, .int wr11, .int (bB wrb)])), (qR, .inr (1, [.int r0, .int r1, .int r2, .int r3, .int r4, .ref qRl, .ref qRr]))]) (w1 := [(qQ, .inr (2, [.ref qQl, .ref qQr, .int nv])), (qQl, .inr (0, [.int u_7_1, .int u_7_2, .int u_7_3, .int nl3, .int u_7_4, .int u_7_5, .int u_7_6, .int nl7, .int (wl8 - 1), .int u_7_7, .int (wl10 - 1), .int u_7_8, .int (bB u_7_9)])), (qQr, .inr (0, [.int u_7_10, .int u_7_11, .int u_7_12, .int nr3, .int u_7_13, .int u_7_14, .int u_7_15, .int nr7, .int (wr8 - 1), .int u_7_16, .int (wr10 - 1), .int u_7_17, .int (bB u_7_18)])), (qR, .inr (1, [.int r0, .int r1, .int r2, .int r3, .int r4, .ref qRl, .ref qRr]))]) (ws' := [(qM, .inr (7, [.ref qT, .ref qQ, .ref qR, .ref qD, .ref qN, .ref q1, .ref q2, .ref q3, .ref q4, .int ud])), (qN, .inr (5, [.ref qNp, .ref qNs, .ref qNz, .int nk])), (qNp, .inr (2, [.ref qNpl, .ref qNpr, .int nv])), (qNpl, .inr (0, [.int nl0, .int nl1, .int nl2, .int nl3, .int nl4, .int nl5, .int nl6, .int nl7, .int nl8, .int nl9, .int nl10, .int nl11, .int (bB nlb)])), (qNpr, .inr (0, [.int nr0, .int nr1, .int nr2, .int nr3, .int nr4, .int nr5, .int nr6, .int nr7, .int nr8, .int nr9, .int nr10, .int nr11, .int (bB nrb)])), (qR, .inr (1, [.int r0, .int r1, .int r2, .int r3, .int r4, .ref qRl, .ref qRr])), (qQ, .inr (2, [.ref qQl, .ref qQr, .int nv])), (qQl, .inr (0, [.int u_7_1, .int u_7_2, .int u_7_3, .int nl3, .int u_7_4, .int u_7_5, .int u_7_6, .int nl7, .int (wl8 - 1), .int u_7_7, .int (wl10 - 1), .int u_7_8, .int (bB u_7_9)])), (qQr, .inr (0, [.int u_7_10, .int u_7_11, .int u_7_12, .int nr3, .int u_7_13, .int u_7_14, .int u_7_15, .int nr7, .int (wr8 - 1), .int u_7_16, .int (wr10 - 1), .int u_7_17, .int (bB u_7_18)]))]) (ad := [qQ, qQl, qQr, qR]) (wr := [(qM, .inr (7, [.ref qT, .ref qQ, .ref qR, .ref qD, .ref qN, .ref q1, .ref q2, .ref q3, .ref q4, .int ud])), (qN, .inr (5, [.ref qNp, .ref qNs, .ref qNz, .int nk])), (qNp, .inr (2, [.ref qNpl, .ref qNpr, .int nv])), (qNpl, .inr (0, [.int nl0, .int nl1, .int nl2, .int nl3, .int nl4, .int nl5, .int nl6, .int nl7, .int nl8, .int nl9, .int nl10, .int nl11, .int (bB nlb)])), (qNpr, .inr (0, [.int nr0, .int nr1, .int nr2, .int nr3, .int nr4, .int nr5, .int nr6, .int nr7, .int nr8, .int nr9, .int nr10, .int nr11, .int (bB nrb)]))]) (nn := 9) (ci := 2) (q0 := 6) X Y (c_pairGoOn l D cyC cyI qQ nv qQl wl0 wl1 wl2 nl3 wl4 wl5 wl6 nl7 wl8 wl9 wl10 wl11 wlb qQr wr0 wr1 wr2 nr3 wr4 wr5 wr6 nr7 wr8 wr9 wr10 wr11 wrb qR qRl qRr r0 r1 r2 r3 r4 u_7_0 u_7_1 u_7_2 u_7_3 u_7_4 u_7_5 u_7_6 u_7_7 u_7_8 u_7_9 u_7_10 u_7_11 u_7_12 u_7_13 u_7_14 u_7_15 u_7_16 u_7_17 u_7_18 hr_7) gX7_ahead_X2_goOn rfl ⟨rfl, rfl⟩ hd_X2_goOn ⟨(Nat.le_of_ble_eq_true rfl), (Nat.le_of_ble_eq_true rfl)⟩ rfl rfl rfl [6, 7, 8, 5] [0, 1, 2, 3, 4] rfl rfl rfl rfl rfl rfl rfl rfl (by decide) rfl rfl hl.1 (Nat.le_of_ble_eq_true rfl) ⟨Nat.zero_le _, Nat.zero_le _⟩ dX7_ahead_75 (fun H locs Y => ?_)
      refine lv_pop hx hb dX7_ahead_78 rfl ?_
      refine lv_iload hx hb dX7_ahead_79 (lv_at hl 5 rfl) ?_
      refine lv_aload hx hb dX7_ahead_81 (lv_at hl 4 rfl) ?_
      refine bGet (v := .int u_7_13) (T := TX0) (N := 13) (ci := 0) X Y i_X7_ahead_X0 8 rfl rfl 4 (Nat.le_of_ble_eq_true rfl) f_X7_ahead_148 rfl rfl dX7_ahead_83 ?_
      refine bAbs (v := (if 0 ≤ u_7_13 then u_7_13 else 0 - u_7_13)) X hl.1 m_X7_ahead_209 ms_X7_ahead_abs mi_X7_ahead mc_X7_ahead_abs (Nat.le_of_ble_eq_true rfl) (Nat.le_of_ble_eq_true rfl) ⟨Nat.zero_le _, Nat.zero_le _⟩ dX7_ahead_86 rfl ?_
      refine bMax (v := (if gr_ < (if 0 ≤ u_7_13 then u_7_13 else 0 - u_7_13) then (if 0 ≤ u_7_13 then u_7_13 else 0 - u_7_13) else gr_)) X hl.1 m_X7_ahead_214 ms_X7_ahead_max mi_X7_ahead mc_X7_ahead_max (Nat.le_of_ble_eq_true rfl) (Nat.le_of_ble_eq_true rfl) ⟨Nat.zero_le _, Nat.zero_le _⟩ dX7_ahead_89 rfl ?_
      refine lv_istore (lv' := [(5, .int (if gr_ < (if 0 ≤ u_7_13 then u_7_13 else 0 - u_7_13) then (if 0 ≤ u_7_13 then u_7_13 else 0 - u_7_13) else gr_)), (0, .ref qM), (1, .int tn), (2, .int 1), (3, .int what), (4, .ref qQr), (6, .int br), (7, .int (nI j))]) hx hb dX7_ahead_92 hl (by decide) rfl (fun ls hl => ?_)
      refine lv_iload hx hb dX7_ahead_94 (lv_at hl 6 rfl) ?_
      refine lv_aload hx hb dX7_ahead_96 (lv_at hl 5 rfl) ?_
      refine bGet (v := .int (bB u_7_18)) (T := TX0) (N := 13) (ci := 0) X Y i_X7_ahead_X0 8 rfl rfl 12 (Nat.le_of_ble_eq_true rfl) f_X7_ahead_217 rfl rfl dX7_ahead_98 ?_
      refine lv_if_eq (tgt := 108) hx hb dX7_ahead_101 (by decide) (fun c_8 => ?_) (fun c_8 => ?_)
      · have c_8 := bB_f c_8
        rw [if_neg c_8] at hu
        refine lv_iconst (v := 0) hx hb dX7_ahead_108 (by decide) ?_
        refine bAdd (v := br + 0) X dX7_ahead_109 rfl ?_
        refine lv_istore (lv' := [(6, .int (br + 0)), (5, .int (if gr_ < (if 0 ≤ u_7_13 then u_7_13 else 0 - u_7_13) then (if 0 ≤ u_7_13 then u_7_13 else 0 - u_7_13) else gr_)), (0, .ref qM), (1, .int tn), (2, .int 1), (3, .int what), (4, .ref qQr), (7, .int (nI j))]) hx hb dX7_ahead_110 hl (by decide) rfl (fun ls hl => ?_)
        refine lv_iinc (v := nI (j + 1)) (lv' := [(7, .int (nI (j + 1))), (6, .int (br + 0)), (5, .int (if gr_ < (if 0 ≤ u_7_13 then u_7_13 else 0 - u_7_13) then (if 0 ≤ u_7_13 then u_7_13 else 0 - u_7_13) else gr_)), (0, .ref qM), (1, .int tn), (2, .int 1), (3, .int what), (4, .ref qQr)]) hx hb dX7_ahead_112 hl (k := 7) rfl (nI_inc _) (by decide) rfl (fun ls hl => ?_)
        refine lv_goto (tgt := 61) hx hb dX7_ahead_115 (by decide) ?_
        exact ih (j + 1) (if gr_ < (if 0 ≤ u_7_13 then u_7_13 else 0 - u_7_13) then (if 0 ≤ u_7_13 then u_7_13 else 0 - u_7_13) else gr_) (br + 0) u_7_1 u_7_2 u_7_3 u_7_4 u_7_5 u_7_6 (wl8 - 1) u_7_7 (wl10 - 1) u_7_8 u_7_9 u_7_10 u_7_11 u_7_12 u_7_13 u_7_14 u_7_15 (wr8 - 1) u_7_16 (wr10 - 1) u_7_17 u_7_18 (by omega) (by have := bNleS (by omega) (by decide) hK c_1; omega) hK hu _ _ _ (lv_sub hl [3, 4, 5, 6, 7, 2, 1, 0] rfl) Y
      · have c_8 := bB_t c_8
        rw [if_pos c_8] at hu
        refine lv_iconst (v := 1) hx hb dX7_ahead_104 (by decide) ?_
        refine lv_goto (tgt := 109) hx hb dX7_ahead_105 (by decide) ?_
        refine bAdd (v := br + 1) X dX7_ahead_109 rfl ?_
        refine lv_istore (lv' := [(6, .int (br + 1)), (5, .int (if gr_ < (if 0 ≤ u_7_13 then u_7_13 else 0 - u_7_13) then (if 0 ≤ u_7_13 then u_7_13 else 0 - u_7_13) else gr_)), (0, .ref qM), (1, .int tn), (2, .int 1), (3, .int what), (4, .ref qQr), (7, .int (nI j))]) hx hb dX7_ahead_110 hl (by decide) rfl (fun ls hl => ?_)
        refine lv_iinc (v := nI (j + 1)) (lv' := [(7, .int (nI (j + 1))), (6, .int (br + 1)), (5, .int (if gr_ < (if 0 ≤ u_7_13 then u_7_13 else 0 - u_7_13) then (if 0 ≤ u_7_13 then u_7_13 else 0 - u_7_13) else gr_)), (0, .ref qM), (1, .int tn), (2, .int 1), (3, .int what), (4, .ref qQr)]) hx hb dX7_ahead_112 hl (k := 7) rfl (nI_inc _) (by decide) rfl (fun ls hl => ?_)
        refine lv_goto (tgt := 61) hx hb dX7_ahead_115 (by decide) ?_
        exact ih (j + 1) (if gr_ < (if 0 ≤ u_7_13 then u_7_13 else 0 - u_7_13) then (if 0 ≤ u_7_13 then u_7_13 else 0 - u_7_13) else gr_) (br + 1) u_7_1 u_7_2 u_7_3 u_7_4 u_7_5 u_7_6 (wl8 - 1) u_7_7 (wl10 - 1) u_7_8 u_7_9 u_7_10 u_7_11 u_7_12 u_7_13 u_7_14 u_7_15 (wr8 - 1) u_7_16 (wr10 - 1) u_7_17 u_7_18 (by omega) (by have := bNleS (by omega) (by decide) hK c_1; omega) hK hu _ _ _ (lv_sub hl [3, 4, 5, 6, 7, 2, 1, 0] rfl) Y
set_option maxHeartbeats 4000000 in
set_option maxRecDepth 100000 in
theorem c_ahead_1 (l : Launch) (D : va_G) (cyC cyI : ClassId) (qM : Nat) (qT : Nat) (qQ : Nat) (qR : Nat) (qD : Nat) (qN : Nat) (q1 : Nat) (q2 : Nat) (q3 : Nat) (q4 : Nat) (ud : Int32) (nk : Int32) (qNp : Nat) (nv : Int32) (qNpl : Nat) (nl0 : Int32) (nl1 : Int32) (nl2 : Int32) (nl3 : Int32) (nl4 : Int32) (nl5 : Int32) (nl6 : Int32) (nl7 : Int32) (nl8 : Int32) (nl9 : Int32) (nl10 : Int32) (nl11 : Int32) (nlb : Bool) (qNpr : Nat) (nr0 : Int32) (nr1 : Int32) (nr2 : Int32) (nr3 : Int32) (nr4 : Int32) (nr5 : Int32) (nr6 : Int32) (nr7 : Int32) (nr8 : Int32) (nr9 : Int32) (nr10 : Int32) (nr11 : Int32) (nrb : Bool) (qNs : Nat) (qNz : Nat) (qRl : Nat) (qRr : Nat) (r0 : Int32) (r1 : Int32) (r2 : Int32) (r3 : Int32) (r4 : Int32) (tv : Int32) (qQl : Nat) (tl0 : Int32) (tl1 : Int32) (tl2 : Int32) (tl3 : Int32) (tl4 : Int32) (tl5 : Int32) (tl6 : Int32) (tl7 : Int32) (tl8 : Int32) (tl9 : Int32) (tl10 : Int32) (tl11 : Int32) (tlb : Bool) (qQr : Nat) (tr0 : Int32) (tr1 : Int32) (tr2 : Int32) (tr3 : Int32) (tr4 : Int32) (tr5 : Int32) (tr6 : Int32) (tr7 : Int32) (tr8 : Int32) (tr9 : Int32) (tr10 : Int32) (tr11 : Int32) (trb : Bool) (tn : Int32) (what : Int32) (o0 : Int32) (o1 : Int32) (o2 : Int32) (o3 : Int32) (o4 : Int32) (o5 : Int32) (o6 : Int32) (o7 : Int32) (o8 : Int32) (o9 : Int32) (o10 : Int32) (o11 : Int32) (o12 : Int32) (o13 : Int32) (o14 : Bool) (o15 : Int32) (o16 : Int32) (o17 : Int32) (o18 : Int32) (o19 : Int32) (o20 : Int32) (o21 : Int32) (o22 : Int32) (o23 : Int32) (o24 : Int32) (o25 : Int32) (o26 : Int32) (o27 : Bool) (hu : s_ahead_1 nv nl0 nl1 nl2 nl3 nl4 nl5 nl6 nl7 nl8 nl9 nl10 nl11 nlb nr0 nr1 nr2 nr3 nr4 nr5 nr6 nr7 nr8 nr9 nr10 nr11 nrb r0 r1 r2 r3 r4 tv tl0 tl1 tl2 tl3 tl4 tl5 tl6 tl7 tl8 tl9 tl10 tl11 tlb tr0 tr1 tr2 tr3 tr4 tr5 tr6 tr7 tr8 tr9 tr10 tr11 trb tn what = (o0, o1, o2, o3, o4, o5, o6, o7, o8, o9, o10, o11, o12, o13, o14, o15, o16, o17, o18, o19, o20, o21, o22, o23, o24, o25, o26, o27)) : CI l yX7_ahead wsX7_ahead { frames := 5, cells := 0, slots := 0, locals := 108 } D cyC cyI [.ref qM, .int tn, .int 1, .int what] [(qM, .inr (7, [.ref qT, .ref qQ, .ref qR, .ref qD, .ref qN, .ref q1, .ref q2, .ref q3, .ref q4, .int ud])), (qN, .inr (5, [.ref qNp, .ref qNs, .ref qNz, .int nk])), (qNp, .inr (2, [.ref qNpl, .ref qNpr, .int nv])), (qNpl, .inr (0, [.int nl0, .int nl1, .int nl2, .int nl3, .int nl4, .int nl5, .int nl6, .int nl7, .int nl8, .int nl9, .int nl10, .int nl11, .int (bB nlb)])), (qNpr, .inr (0, [.int nr0, .int nr1, .int nr2, .int nr3, .int nr4, .int nr5, .int nr6, .int nr7, .int nr8, .int nr9, .int nr10, .int nr11, .int (bB nrb)])), (qR, .inr (1, [.int r0, .int r1, .int r2, .int r3, .int r4, .ref qRl, .ref qRr])), (qQ, .inr (2, [.ref qQl, .ref qQr, .int tv])), (qQl, .inr (0, [.int tl0, .int tl1, .int tl2, .int tl3, .int tl4, .int tl5, .int tl6, .int tl7, .int tl8, .int tl9, .int tl10, .int tl11, .int (bB tlb)])), (qQr, .inr (0, [.int tr0, .int tr1, .int tr2, .int tr3, .int tr4, .int tr5, .int tr6, .int tr7, .int tr8, .int tr9, .int tr10, .int tr11, .int (bB trb)]))] o0 [(qM, .inr (7, [.ref qT, .ref qQ, .ref qR, .ref qD, .ref qN, .ref q1, .ref q2, .ref q3, .ref q4, .int ud])), (qN, .inr (5, [.ref qNp, .ref qNs, .ref qNz, .int nk])), (qNp, .inr (2, [.ref qNpl, .ref qNpr, .int nv])), (qNpl, .inr (0, [.int nl0, .int nl1, .int nl2, .int nl3, .int nl4, .int nl5, .int nl6, .int nl7, .int nl8, .int nl9, .int nl10, .int nl11, .int (bB nlb)])), (qNpr, .inr (0, [.int nr0, .int nr1, .int nr2, .int nr3, .int nr4, .int nr5, .int nr6, .int nr7, .int nr8, .int nr9, .int nr10, .int nr11, .int (bB nrb)])), (qR, .inr (1, [.int r0, .int r1, .int r2, .int r3, .int r4, .ref qRl, .ref qRr])), (qQ, .inr (2, [.ref qQl, .ref qQr, .int o1])), (qQl, .inr (0, [.int o2, .int o3, .int o4, .int o5, .int o6, .int o7, .int o8, .int o9, .int o10, .int o11, .int o12, .int o13, .int (bB o14)])), (qQr, .inr (0, [.int o15, .int o16, .int o17, .int o18, .int o19, .int o20, .int o21, .int o22, .int o23, .int o24, .int o25, .int o26, .int (bB o27)]))] := by
  refine CI.of (cc := cX7_ahead) (n := 8) (ret := (some .int)) (by decide +kernel) rfl (Nat.le_of_ble_eq_true rfl) ?_
  intro p_ e_ s_ m_ bl_ me_ cd_ A_ ls X Y hr hlk hl
  have hx := X.1.1
  have hb := X.1.2.1
  have hl : lv_has ls 8 [(0, .ref qM), (1, .int tn), (2, .int 1), (3, .int what)] := hl
  unfold s_ahead_1 at hu
  refine lv_iload_n hx hb dX7_ahead_0 rfl (lv_at hl 1 rfl) ?_
  refine lv_iconst (v := 1) hx hb dX7_ahead_1 (by decide) ?_
  refine lv_bipush (v := 60) hx hb dX7_ahead_2 (by decide) ?_
  refine bSI (As := [.int tn, .int 1, .int 60]) (rest := []) X Y (c_isWithin l D cyC cyI tn 1 60 (s_isWithin tn 1 60) rfl) gX7_ahead_X7_isWithin rfl ⟨rfl, rfl⟩ hd_X7_isWithin.2 ⟨(Nat.le_of_ble_eq_true rfl), (Nat.le_of_ble_eq_true rfl)⟩ rfl rfl hl.1 (Nat.le_of_ble_eq_true rfl) ⟨Nat.zero_le _, Nat.zero_le _⟩ dX7_ahead_4 (fun H locs Y => ?_)
  refine lv_if_eq (tgt := 26) hx hb dX7_ahead_7 (by decide) (fun c_1 => ?_) (fun c_1 => ?_)
  · have c_1 := bB_f c_1
    rw [if_neg c_1] at hu
    refine lv_iconst (v := (-1)) hx hb dX7_ahead_26 (by decide) ?_
    have h9 := (Prod.mk.inj hu).1; replace hu := (Prod.mk.inj hu).2; subst h9
    have h9 := (Prod.mk.inj hu).1; replace hu := (Prod.mk.inj hu).2; subst h9
    have h9 := (Prod.mk.inj hu).1; replace hu := (Prod.mk.inj hu).2; subst h9
    have h9 := (Prod.mk.inj hu).1; replace hu := (Prod.mk.inj hu).2; subst h9
    have h9 := (Prod.mk.inj hu).1; replace hu := (Prod.mk.inj hu).2; subst h9
    have h9 := (Prod.mk.inj hu).1; replace hu := (Prod.mk.inj hu).2; subst h9
    have h9 := (Prod.mk.inj hu).1; replace hu := (Prod.mk.inj hu).2; subst h9
    have h9 := (Prod.mk.inj hu).1; replace hu := (Prod.mk.inj hu).2; subst h9
    have h9 := (Prod.mk.inj hu).1; replace hu := (Prod.mk.inj hu).2; subst h9
    have h9 := (Prod.mk.inj hu).1; replace hu := (Prod.mk.inj hu).2; subst h9
    have h9 := (Prod.mk.inj hu).1; replace hu := (Prod.mk.inj hu).2; subst h9
    have h9 := (Prod.mk.inj hu).1; replace hu := (Prod.mk.inj hu).2; subst h9
    have h9 := (Prod.mk.inj hu).1; replace hu := (Prod.mk.inj hu).2; subst h9
    have h9 := (Prod.mk.inj hu).1; replace hu := (Prod.mk.inj hu).2; subst h9
    have h9 := (Prod.mk.inj hu).1; replace hu := (Prod.mk.inj hu).2; subst h9
    have h9 := (Prod.mk.inj hu).1; replace hu := (Prod.mk.inj hu).2; subst h9
    have h9 := (Prod.mk.inj hu).1; replace hu := (Prod.mk.inj hu).2; subst h9
    have h9 := (Prod.mk.inj hu).1; replace hu := (Prod.mk.inj hu).2; subst h9
    have h9 := (Prod.mk.inj hu).1; replace hu := (Prod.mk.inj hu).2; subst h9
    have h9 := (Prod.mk.inj hu).1; replace hu := (Prod.mk.inj hu).2; subst h9
    have h9 := (Prod.mk.inj hu).1; replace hu := (Prod.mk.inj hu).2; subst h9
    have h9 := (Prod.mk.inj hu).1; replace hu := (Prod.mk.inj hu).2; subst h9
    have h9 := (Prod.mk.inj hu).1; replace hu := (Prod.mk.inj hu).2; subst h9
    have h9 := (Prod.mk.inj hu).1; replace hu := (Prod.mk.inj hu).2; subst h9
    have h9 := (Prod.mk.inj hu).1; replace hu := (Prod.mk.inj hu).2; subst h9
    have h9 := (Prod.mk.inj hu).1; replace hu := (Prod.mk.inj hu).2; subst h9
    have h9 := (Prod.mk.inj hu).1; replace hu := (Prod.mk.inj hu).2; subst h9
    subst hu
    exact bEndI X Y hr hlk dX7_ahead_27 rfl rfl
  · have c_1 := bB_t c_1
    rw [if_pos c_1] at hu
    refine lv_iload_n hx hb dX7_ahead_10 rfl (lv_at hl 2 rfl) ?_
    refine bSI (As := [.int 1]) (rest := []) X Y (c_isCrane l D cyC cyI 1 (s_isCrane 1) rfl) gX7_ahead_X7_isCrane rfl ⟨rfl, rfl⟩ hd_X7_isCrane.2 ⟨(Nat.le_of_ble_eq_true rfl), (Nat.le_of_ble_eq_true rfl)⟩ rfl rfl hl.1 (Nat.le_of_ble_eq_true rfl) ⟨Nat.zero_le _, Nat.zero_le _⟩ dX7_ahead_11 (fun H locs Y => ?_)
    refine lv_if_eq (tgt := 26) hx hb dX7_ahead_14 (by decide) (fun c_2 => ?_) (fun c_2 => ?_)
    · have c_2 := bB_f c_2
      rw [if_neg c_2] at hu
      refine lv_iconst (v := (-1)) hx hb dX7_ahead_26 (by decide) ?_
      have h9 := (Prod.mk.inj hu).1; replace hu := (Prod.mk.inj hu).2; subst h9
      have h9 := (Prod.mk.inj hu).1; replace hu := (Prod.mk.inj hu).2; subst h9
      have h9 := (Prod.mk.inj hu).1; replace hu := (Prod.mk.inj hu).2; subst h9
      have h9 := (Prod.mk.inj hu).1; replace hu := (Prod.mk.inj hu).2; subst h9
      have h9 := (Prod.mk.inj hu).1; replace hu := (Prod.mk.inj hu).2; subst h9
      have h9 := (Prod.mk.inj hu).1; replace hu := (Prod.mk.inj hu).2; subst h9
      have h9 := (Prod.mk.inj hu).1; replace hu := (Prod.mk.inj hu).2; subst h9
      have h9 := (Prod.mk.inj hu).1; replace hu := (Prod.mk.inj hu).2; subst h9
      have h9 := (Prod.mk.inj hu).1; replace hu := (Prod.mk.inj hu).2; subst h9
      have h9 := (Prod.mk.inj hu).1; replace hu := (Prod.mk.inj hu).2; subst h9
      have h9 := (Prod.mk.inj hu).1; replace hu := (Prod.mk.inj hu).2; subst h9
      have h9 := (Prod.mk.inj hu).1; replace hu := (Prod.mk.inj hu).2; subst h9
      have h9 := (Prod.mk.inj hu).1; replace hu := (Prod.mk.inj hu).2; subst h9
      have h9 := (Prod.mk.inj hu).1; replace hu := (Prod.mk.inj hu).2; subst h9
      have h9 := (Prod.mk.inj hu).1; replace hu := (Prod.mk.inj hu).2; subst h9
      have h9 := (Prod.mk.inj hu).1; replace hu := (Prod.mk.inj hu).2; subst h9
      have h9 := (Prod.mk.inj hu).1; replace hu := (Prod.mk.inj hu).2; subst h9
      have h9 := (Prod.mk.inj hu).1; replace hu := (Prod.mk.inj hu).2; subst h9
      have h9 := (Prod.mk.inj hu).1; replace hu := (Prod.mk.inj hu).2; subst h9
      have h9 := (Prod.mk.inj hu).1; replace hu := (Prod.mk.inj hu).2; subst h9
      have h9 := (Prod.mk.inj hu).1; replace hu := (Prod.mk.inj hu).2; subst h9
      have h9 := (Prod.mk.inj hu).1; replace hu := (Prod.mk.inj hu).2; subst h9
      have h9 := (Prod.mk.inj hu).1; replace hu := (Prod.mk.inj hu).2; subst h9
      have h9 := (Prod.mk.inj hu).1; replace hu := (Prod.mk.inj hu).2; subst h9
      have h9 := (Prod.mk.inj hu).1; replace hu := (Prod.mk.inj hu).2; subst h9
      have h9 := (Prod.mk.inj hu).1; replace hu := (Prod.mk.inj hu).2; subst h9
      have h9 := (Prod.mk.inj hu).1; replace hu := (Prod.mk.inj hu).2; subst h9
      subst hu
      exact bEndI X Y hr hlk dX7_ahead_27 rfl rfl
    · have c_2 := bB_t c_2
      rw [if_pos c_2] at hu
      refine lv_iload_n hx hb dX7_ahead_17 rfl (lv_at hl 3 rfl) ?_
      refine lv_iconst (v := 0) hx hb dX7_ahead_18 (by decide) ?_
      refine lv_iconst (v := 5) hx hb dX7_ahead_19 (by decide) ?_
      refine bSI (As := [.int what, .int 0, .int 5]) (rest := []) X Y (c_isWithin l D cyC cyI what 0 5 (s_isWithin what 0 5) rfl) gX7_ahead_X7_isWithin rfl ⟨rfl, rfl⟩ hd_X7_isWithin.2 ⟨(Nat.le_of_ble_eq_true rfl), (Nat.le_of_ble_eq_true rfl)⟩ rfl rfl hl.1 (Nat.le_of_ble_eq_true rfl) ⟨Nat.zero_le _, Nat.zero_le _⟩ dX7_ahead_20 (fun H locs Y => ?_)
      refine lv_if_ne (tgt := 28) hx hb dX7_ahead_23 (by decide) (fun c_3 => ?_) (fun c_3 => ?_)
      · have c_3 := bB_t c_3
        rw [if_pos c_3] at hu
        refine lv_aload_n hx hb dX7_ahead_28 rfl (lv_at hl 0 rfl) ?_
        refine bGet (v := .ref qQ) (T := TX7) (N := 10) (ci := 7) X Y i_X7_ahead_X7 0 rfl rfl 1 (Nat.le_of_ble_eq_true rfl) f_X7_ahead_19 rfl rfl dX7_ahead_29 ?_
        refine lv_aload_n hx hb dX7_ahead_32 rfl (lv_at hl 0 rfl) ?_
        refine bGet (v := .ref qN) (T := TX7) (N := 10) (ci := 7) X Y i_X7_ahead_X7 0 rfl rfl 4 (Nat.le_of_ble_eq_true rfl) f_X7_ahead_36 rfl rfl dX7_ahead_33 ?_
        refine bGet (v := .ref qNp) (T := TX5) (N := 4) (ci := 5) X Y i_X7_ahead_X5 1 rfl rfl 0 (Nat.le_of_ble_eq_true rfl) f_X7_ahead_95 rfl rfl dX7_ahead_36 ?_
        refine bVV (As := [.ref qNp]) (rest := []) (wc := [(qQ, .inr (2, [.ref qQl, .ref qQr, .int tv])), (qQl, .inr (0, [.int tl0, .int tl1, .int tl2, .int tl3, .int tl4, .int tl5, .int tl6, .int tl7, .int tl8, .int tl9, .int tl10, .int tl11, .int (bB tlb)])), (qQr, .inr (0, [.int tr0, .int tr1, .int tr2, .int tr3, .int tr4, .int tr5, .int tr6, .int tr7, .int tr8, .int tr9, .int tr10, .int tr11, .int (bB trb)])), (qNp, .inr (2, [.ref qNpl, .ref qNpr, .int nv])), (qNpl, .inr (0, [.int nl0, .int nl1, .int nl2, .int nl3, .int nl4, .int nl5, .int nl6, .int nl7, .int nl8, .int nl9, .int nl10, .int nl11, .int (bB nlb)])), (qNpr, .inr (0, [.int nr0, .int nr1, .int nr2, .int nr3, .int nr4, .int nr5, .int nr6, .int nr7, .int nr8, .int nr9, .int nr10, .int nr11, .int (bB nrb)]))]) (w1 := [(qQ, .inr (2, [.ref qQl, .ref qQr, .int nv])), (qQl, .inr (0, [.int nl0, .int nl1, .int nl2, .int nl3, .int nl4, .int nl5, .int nl6, .int nl7, .int nl8, .int nl9, .int nl10, .int nl11, .int (bB nlb)])), (qQr, .inr (0, [.int nr0, .int nr1, .int nr2, .int nr3, .int nr4, .int nr5, .int nr6, .int nr7, .int nr8, .int nr9, .int nr10, .int nr11, .int (bB nrb)])), (qNp, .inr (2, [.ref qNpl, .ref qNpr, .int nv])), (qNpl, .inr (0, [.int nl0, .int nl1, .int nl2, .int nl3, .int nl4, .int nl5, .int nl6, .int nl7, .int nl8, .int nl9, .int nl10, .int nl11, .int (bB nlb)])), (qNpr, .inr (0, [.int nr0, .int nr1, .int nr2, .int nr3, .int nr4, .int nr5, .int nr6, .int nr7, .int nr8, .int nr9, .int nr10, .int nr11, .int (bB nrb)]))]) (ws' := [(qM, .inr (7, [.ref qT, .ref qQ, .ref qR, .ref qD, .ref qN, .ref q1, .ref q2, .ref q3, .ref q4, .int ud])), (qN, .inr (5, [.ref qNp, .ref qNs, .ref qNz, .int nk])), (qNp, .inr (2, [.ref qNpl, .ref qNpr, .int nv])), (qNpl, .inr (0, [.int nl0, .int nl1, .int nl2, .int nl3, .int nl4, .int nl5, .int nl6, .int nl7, .int nl8, .int nl9, .int nl10, .int nl11, .int (bB nlb)])), (qNpr, .inr (0, [.int nr0, .int nr1, .int nr2, .int nr3, .int nr4, .int nr5, .int nr6, .int nr7, .int nr8, .int nr9, .int nr10, .int nr11, .int (bB nrb)])), (qR, .inr (1, [.int r0, .int r1, .int r2, .int r3, .int r4, .ref qRl, .ref qRr])), (qQ, .inr (2, [.ref qQl, .ref qQr, .int nv])), (qQl, .inr (0, [.int nl0, .int nl1, .int nl2, .int nl3, .int nl4, .int nl5, .int nl6, .int nl7, .int nl8, .int nl9, .int nl10, .int nl11, .int (bB nlb)])), (qQr, .inr (0, [.int nr0, .int nr1, .int nr2, .int nr3, .int nr4, .int nr5, .int nr6, .int nr7, .int nr8, .int nr9, .int nr10, .int nr11, .int (bB nrb)]))]) (ad := [qQ, qQl, qQr, qNp, qNpl, qNpr]) (wr := [(qM, .inr (7, [.ref qT, .ref qQ, .ref qR, .ref qD, .ref qN, .ref q1, .ref q2, .ref q3, .ref q4, .int ud])), (qN, .inr (5, [.ref qNp, .ref qNs, .ref qNz, .int nk])), (qR, .inr (1, [.int r0, .int r1, .int r2, .int r3, .int r4, .ref qRl, .ref qRr]))]) (nn := 9) (ci := 2) (q0 := 6) X Y (c_pairCopy l D cyC cyI qQ tv qQl tl0 tl1 tl2 tl3 tl4 tl5 tl6 tl7 tl8 tl9 tl10 tl11 tlb qQr tr0 tr1 tr2 tr3 tr4 tr5 tr6 tr7 tr8 tr9 tr10 tr11 trb qNp nv qNpl nl0 nl1 nl2 nl3 nl4 nl5 nl6 nl7 nl8 nl9 nl10 nl11 nlb qNpr nr0 nr1 nr2 nr3 nr4 nr5 nr6 nr7 nr8 nr9 nr10 nr11 nrb) gX7_ahead_X2_copyFrom rfl ⟨rfl, rfl⟩ hd_X2_copyFrom ⟨(Nat.le_of_ble_eq_true rfl), (Nat.le_of_ble_eq_true rfl)⟩ rfl rfl rfl [6, 7, 8, 2, 3, 4] [0, 1, 5] rfl rfl rfl rfl rfl rfl rfl rfl (by decide) rfl rfl hl.1 (Nat.le_of_ble_eq_true rfl) ⟨Nat.zero_le _, Nat.zero_le _⟩ dX7_ahead_39 (fun H locs Y => ?_)
        refine lv_aload_n hx hb dX7_ahead_42 rfl (lv_at hl 0 rfl) ?_
        refine bGet (v := .ref qQ) (T := TX7) (N := 10) (ci := 7) X Y i_X7_ahead_X7 0 rfl rfl 1 (Nat.le_of_ble_eq_true rfl) f_X7_ahead_19 rfl rfl dX7_ahead_43 ?_
        refine lv_iload_n hx hb dX7_ahead_46 rfl (lv_at hl 2 rfl) ?_
        refine bVR0 (As := [.int 1]) (rest := []) (wc := [(qQ, .inr (2, [.ref qQl, .ref qQr, .int nv]))]) (ci := 2) (q0 := 6) X Y (c_side1 l D cyC cyI qQ qQl qQr nv) gX7_ahead_X2_side rfl ⟨rfl, rfl⟩ hd_X2_side ⟨(Nat.le_of_ble_eq_true rfl), (Nat.le_of_ble_eq_true rfl)⟩ rfl rfl rfl [6] rfl rfl rfl rfl hl.1 (Nat.le_of_ble_eq_true rfl) ⟨Nat.zero_le _, Nat.zero_le _⟩ dX7_ahead_47 (fun H locs Y => ?_)
        refine lv_astore (lv' := [(4, .ref qQr), (0, .ref qM), (1, .int tn), (2, .int 1), (3, .int what)]) hx hb dX7_ahead_50 hl (by decide) rfl (fun ls hl => ?_)
        refine lv_iconst (v := 0) hx hb dX7_ahead_52 (by decide) ?_
        refine lv_istore (lv' := [(5, .int 0), (4, .ref qQr), (0, .ref qM), (1, .int tn), (2, .int 1), (3, .int what)]) hx hb dX7_ahead_53 hl (by decide) rfl (fun ls hl => ?_)
        refine lv_iconst (v := 0) hx hb dX7_ahead_55 (by decide) ?_
        refine lv_istore (lv' := [(6, .int 0), (5, .int 0), (4, .ref qQr), (0, .ref qM), (1, .int tn), (2, .int 1), (3, .int what)]) hx hb dX7_ahead_56 hl (by decide) rfl (fun ls hl => ?_)
        refine lv_iconst (v := 0) hx hb dX7_ahead_58 (by decide) ?_
        refine lv_istore (lv' := [(7, .int 0), (6, .int 0), (5, .int 0), (4, .ref qQr), (0, .ref qM), (1, .int tn), (2, .int 1), (3, .int what)]) hx hb dX7_ahead_59 hl (by decide) rfl (fun ls hl => ?_)
        exact lp_ahead_1 l D cyC cyI qM qT qQ qR qD qN q1 q2 q3 q4 ud nk qNp nv qNpl nl0 nl1 nl2 nl3 nl4 nl5 nl6 nl7 nl8 nl9 nl10 nl11 nlb qNpr nr0 nr1 nr2 nr3 nr4 nr5 nr6 nr7 nr8 nr9 nr10 nr11 nrb qNs qNz qRl qRr r0 r1 r2 r3 r4 tv qQl tl0 tl1 tl2 tl3 tl4 tl5 tl6 tl7 tl8 tl9 tl10 tl11 tlb qQr tr0 tr1 tr2 tr3 tr4 tr5 tr6 tr7 tr8 tr9 tr10 tr11 trb tn what o0 o1 o2 o3 o4 o5 o6 o7 o8 o9 o10 o11 o12 o13 o14 o15 o16 o17 o18 o19 o20 o21 o22 o23 o24 o25 o26 o27 X hr hlk (61) 0 0 0 nl0 nl1 nl2 nl4 nl5 nl6 nl8 nl9 nl10 nl11 nlb nr0 nr1 nr2 nr4 nr5 nr6 nr8 nr9 nr10 nr11 nrb (by omega) (by omega) (isWithin_hi c_1) hu _ _ _ (lv_sub hl [4, 5, 6, 7, 3, 2, 1, 0] rfl) Y
      · have c_3 := bB_f c_3
        rw [if_neg c_3] at hu
        refine lv_iconst (v := (-1)) hx hb dX7_ahead_26 (by decide) ?_
        have h9 := (Prod.mk.inj hu).1; replace hu := (Prod.mk.inj hu).2; subst h9
        have h9 := (Prod.mk.inj hu).1; replace hu := (Prod.mk.inj hu).2; subst h9
        have h9 := (Prod.mk.inj hu).1; replace hu := (Prod.mk.inj hu).2; subst h9
        have h9 := (Prod.mk.inj hu).1; replace hu := (Prod.mk.inj hu).2; subst h9
        have h9 := (Prod.mk.inj hu).1; replace hu := (Prod.mk.inj hu).2; subst h9
        have h9 := (Prod.mk.inj hu).1; replace hu := (Prod.mk.inj hu).2; subst h9
        have h9 := (Prod.mk.inj hu).1; replace hu := (Prod.mk.inj hu).2; subst h9
        have h9 := (Prod.mk.inj hu).1; replace hu := (Prod.mk.inj hu).2; subst h9
        have h9 := (Prod.mk.inj hu).1; replace hu := (Prod.mk.inj hu).2; subst h9
        have h9 := (Prod.mk.inj hu).1; replace hu := (Prod.mk.inj hu).2; subst h9
        have h9 := (Prod.mk.inj hu).1; replace hu := (Prod.mk.inj hu).2; subst h9
        have h9 := (Prod.mk.inj hu).1; replace hu := (Prod.mk.inj hu).2; subst h9
        have h9 := (Prod.mk.inj hu).1; replace hu := (Prod.mk.inj hu).2; subst h9
        have h9 := (Prod.mk.inj hu).1; replace hu := (Prod.mk.inj hu).2; subst h9
        have h9 := (Prod.mk.inj hu).1; replace hu := (Prod.mk.inj hu).2; subst h9
        have h9 := (Prod.mk.inj hu).1; replace hu := (Prod.mk.inj hu).2; subst h9
        have h9 := (Prod.mk.inj hu).1; replace hu := (Prod.mk.inj hu).2; subst h9
        have h9 := (Prod.mk.inj hu).1; replace hu := (Prod.mk.inj hu).2; subst h9
        have h9 := (Prod.mk.inj hu).1; replace hu := (Prod.mk.inj hu).2; subst h9
        have h9 := (Prod.mk.inj hu).1; replace hu := (Prod.mk.inj hu).2; subst h9
        have h9 := (Prod.mk.inj hu).1; replace hu := (Prod.mk.inj hu).2; subst h9
        have h9 := (Prod.mk.inj hu).1; replace hu := (Prod.mk.inj hu).2; subst h9
        have h9 := (Prod.mk.inj hu).1; replace hu := (Prod.mk.inj hu).2; subst h9
        have h9 := (Prod.mk.inj hu).1; replace hu := (Prod.mk.inj hu).2; subst h9
        have h9 := (Prod.mk.inj hu).1; replace hu := (Prod.mk.inj hu).2; subst h9
        have h9 := (Prod.mk.inj hu).1; replace hu := (Prod.mk.inj hu).2; subst h9
        have h9 := (Prod.mk.inj hu).1; replace hu := (Prod.mk.inj hu).2; subst h9
        subst hu
        exact bEndI X Y hr hlk dX7_ahead_27 rfl rfl
def g_quiet_1 (nv : Int32) (nl3 : Int32) (nl7 : Int32) (nr3 : Int32) (nr7 : Int32) (r0 : Int32) (r1 : Int32) (r2 : Int32) (r3 : Int32) (r4 : Int32) : Nat → Nat → Int32 → Int32 → Int32 → Int32 → Int32 → Int32 → Int32 → Int32 → Int32 → Int32 → Bool → Int32 → Int32 → Int32 → Int32 → Int32 → Int32 → Int32 → Int32 → Int32 → Int32 → Bool → Int32 × Int32 × Int32 × Int32 × Int32 × Int32 × Int32 × Int32 × Int32 × Int32 × Int32 × Int32 × Int32 × Int32 × Bool × Int32 × Int32 × Int32 × Int32 × Int32 × Int32 × Int32 × Int32 × Int32 × Int32 × Int32 × Int32 × Bool
  | 0, _, _, _, _, _, _, _, _, _, _, _, _, _, _, _, _, _, _, _, _, _, _, _ => (0, 0, 0, 0, 0, 0, 0, 0, 0, 0, 0, 0, 0, 0, false, 0, 0, 0, 0, 0, 0, 0, 0, 0, 0, 0, 0, false)
  | n_ + 1, j, wl0, wl1, wl2, wl4, wl5, wl6, wl8, wl9, wl10, wl11, wlb, wr0, wr1, wr2, wr4, wr5, wr6, wr8, wr9, wr10, wr11, wrb =>
    if 60 ≤ nI j then
      if (s_isQuiet wr1 wr4 wr5 wr6 wr9 wr11) = true then
        (60, nv, wl0, wl1, wl2, nl3, wl4, wl5, wl6, nl7, wl8, wl9, wl10, wl11, wlb, wr0, wr1, wr2, nr3, wr4, wr5, wr6, nr7, wr8, wr9, wr10, wr11, wrb)
      else
        ((-4), nv, wl0, wl1, wl2, nl3, wl4, wl5, wl6, nl7, wl8, wl9, wl10, wl11, wlb, wr0, wr1, wr2, nr3, wr4, wr5, wr6, nr7, wr8, wr9, wr10, wr11, wrb)
    else
      if (s_isQuiet wr1 wr4 wr5 wr6 wr9 wr11) = true then
        (nI j, nv, wl0, wl1, wl2, nl3, wl4, wl5, wl6, nl7, wl8, wl9, wl10, wl11, wlb, wr0, wr1, wr2, nr3, wr4, wr5, wr6, nr7, wr8, wr9, wr10, wr11, wrb)
      else
        match s_pairGoOn nv wl0 wl1 wl2 nl3 wl4 wl5 wl6 nl7 wl8 wl9 wl10 wl11 wr0 wr1 wr2 nr3 wr4 wr5 wr6 nr7 wr8 wr9 wr10 wr11 r0 r1 r2 r3 r4 with
        | (u_4_0, u_4_1, u_4_2, u_4_3, u_4_4, u_4_5, u_4_6, u_4_7, u_4_8, u_4_9, u_4_10, u_4_11, u_4_12, u_4_13, u_4_14, u_4_15, u_4_16, u_4_17, u_4_18) =>
          g_quiet_1 nv nl3 nl7 nr3 nr7 r0 r1 r2 r3 r4 n_ (j + 1) u_4_1 u_4_2 u_4_3 u_4_4 u_4_5 u_4_6 (wl8 - 1) u_4_7 (wl10 - 1) u_4_8 u_4_9 u_4_10 u_4_11 u_4_12 u_4_13 u_4_14 u_4_15 (wr8 - 1) u_4_16 (wr10 - 1) u_4_17 u_4_18
def s_quiet_1 (nv : Int32) (nl0 : Int32) (nl1 : Int32) (nl2 : Int32) (nl3 : Int32) (nl4 : Int32) (nl5 : Int32) (nl6 : Int32) (nl7 : Int32) (nl8 : Int32) (nl9 : Int32) (nl10 : Int32) (nl11 : Int32) (nlb : Bool) (nr0 : Int32) (nr1 : Int32) (nr2 : Int32) (nr3 : Int32) (nr4 : Int32) (nr5 : Int32) (nr6 : Int32) (nr7 : Int32) (nr8 : Int32) (nr9 : Int32) (nr10 : Int32) (nr11 : Int32) (nrb : Bool) (r0 : Int32) (r1 : Int32) (r2 : Int32) (r3 : Int32) (r4 : Int32) (tv : Int32) (tl0 : Int32) (tl1 : Int32) (tl2 : Int32) (tl3 : Int32) (tl4 : Int32) (tl5 : Int32) (tl6 : Int32) (tl7 : Int32) (tl8 : Int32) (tl9 : Int32) (tl10 : Int32) (tl11 : Int32) (tlb : Bool) (tr0 : Int32) (tr1 : Int32) (tr2 : Int32) (tr3 : Int32) (tr4 : Int32) (tr5 : Int32) (tr6 : Int32) (tr7 : Int32) (tr8 : Int32) (tr9 : Int32) (tr10 : Int32) (tr11 : Int32) (trb : Bool) : Int32 × Int32 × Int32 × Int32 × Int32 × Int32 × Int32 × Int32 × Int32 × Int32 × Int32 × Int32 × Int32 × Int32 × Bool × Int32 × Int32 × Int32 × Int32 × Int32 × Int32 × Int32 × Int32 × Int32 × Int32 × Int32 × Int32 × Bool :=
  if (s_isCrane 1) = true then
    match s_tellAtOnce nv nl6 nl8 nl9 nl10 nl11 nr6 nr8 nr9 nr10 nr11 1 0 with
    | (u_2_0, u_2_1, u_2_2, u_2_3, u_2_4, u_2_5, u_2_6, u_2_7, u_2_8) =>
      g_quiet_1 nv nl3 nl7 nr3 nr7 r0 r1 r2 r3 r4 (61) 0 nl0 nl1 nl2 nl4 nl5 nl6 u_2_1 u_2_2 u_2_3 u_2_4 nlb nr0 nr1 nr2 nr4 nr5 nr6 u_2_5 u_2_6 u_2_7 u_2_8 nrb
  else
    ((-1), tv, tl0, tl1, tl2, tl3, tl4, tl5, tl6, tl7, tl8, tl9, tl10, tl11, tlb, tr0, tr1, tr2, tr3, tr4, tr5, tr6, tr7, tr8, tr9, tr10, tr11, trb)
set_option maxHeartbeats 4000000 in
set_option maxRecDepth 100000 in
theorem lp_quiet_1 {p_ : Program} {e_ : Env} {s_ : State} {m_ : MethodId} {bl_ : List Frame} {me_ : Method} {cd_ : Code} {A_ : Nat → Prop} (l : Launch) (D : va_G) (cyC cyI : ClassId) (qM : Nat) (qT : Nat) (qQ : Nat) (qR : Nat) (qD : Nat) (qN : Nat) (q1 : Nat) (q2 : Nat) (q3 : Nat) (q4 : Nat) (ud : Int32) (nk : Int32) (qNp : Nat) (nv : Int32) (qNpl : Nat) (nl0 : Int32) (nl1 : Int32) (nl2 : Int32) (nl3 : Int32) (nl4 : Int32) (nl5 : Int32) (nl6 : Int32) (nl7 : Int32) (nl8 : Int32) (nl9 : Int32) (nl10 : Int32) (nl11 : Int32) (nlb : Bool) (qNpr : Nat) (nr0 : Int32) (nr1 : Int32) (nr2 : Int32) (nr3 : Int32) (nr4 : Int32) (nr5 : Int32) (nr6 : Int32) (nr7 : Int32) (nr8 : Int32) (nr9 : Int32) (nr10 : Int32) (nr11 : Int32) (nrb : Bool) (qNs : Nat) (qNz : Nat) (qRl : Nat) (qRr : Nat) (r0 : Int32) (r1 : Int32) (r2 : Int32) (r3 : Int32) (r4 : Int32) (tv : Int32) (qQl : Nat) (tl0 : Int32) (tl1 : Int32) (tl2 : Int32) (tl3 : Int32) (tl4 : Int32) (tl5 : Int32) (tl6 : Int32) (tl7 : Int32) (tl8 : Int32) (tl9 : Int32) (tl10 : Int32) (tl11 : Int32) (tlb : Bool) (qQr : Nat) (tr0 : Int32) (tr1 : Int32) (tr2 : Int32) (tr3 : Int32) (tr4 : Int32) (tr5 : Int32) (tr6 : Int32) (tr7 : Int32) (tr8 : Int32) (tr9 : Int32) (tr10 : Int32) (tr11 : Int32) (trb : Bool) (o0 : Int32) (o1 : Int32) (o2 : Int32) (o3 : Int32) (o4 : Int32) (o5 : Int32) (o6 : Int32) (o7 : Int32) (o8 : Int32) (o9 : Int32) (o10 : Int32) (o11 : Int32) (o12 : Int32) (o13 : Int32) (o14 : Bool) (o15 : Int32) (o16 : Int32) (o17 : Int32) (o18 : Int32) (o19 : Int32) (o20 : Int32) (o21 : Int32) (o22 : Int32) (o23 : Int32) (o24 : Int32) (o25 : Int32) (o26 : Int32) (o27 : Bool) (X : bX p_ s_ m_ ([.ref qM, .int 1] : List Value).toArray cd_ cX7_quiet 4 wsX7_quiet yX7_quiet.cls D cyC cyI) (hr : me_.sig.returnType = (some .int)) (hlk : me_.locks = false) : ∀ (n_ : Nat) (j : Nat) (wl0 : Int32) (wl1 : Int32) (wl2 : Int32) (wl4 : Int32) (wl5 : Int32) (wl6 : Int32) (wl8 : Int32) (wl9 : Int32) (wl10 : Int32) (wl11 : Int32) (wlb : Bool) (wr0 : Int32) (wr1 : Int32) (wr2 : Int32) (wr4 : Int32) (wr5 : Int32) (wr6 : Int32) (wr8 : Int32) (wr9 : Int32) (wr10 : Int32) (wr11 : Int32) (wrb : Bool) (hN : 61 ≤ j + n_) (hJ : j ≤ 60) (hu : g_quiet_1 nv nl3 nl7 nr3 nr7 r0 r1 r2 r3 r4 n_ j wl0 wl1 wl2 wl4 wl5 wl6 wl8 wl9 wl10 wl11 wlb wr0 wr1 wr2 wr4 wr5 wr6 wr8 wr9 wr10 wr11 wrb = (o0, o1, o2, o3, o4, o5, o6, o7, o8, o9, o10, o11, o12, o13, o14, o15, o16, o17, o18, o19, o20, o21, o22, o23, o24, o25, o26, o27)) (ls : Array Slot) (H : Heap) (locs : List Loc), lv_has ls 4 [(0, .ref qM), (1, .int 1), (2, .ref qQr), (3, .int (nI j))] → bY D A_ s_.heap [(qM, .inr (7, [.ref qT, .ref qQ, .ref qR, .ref qD, .ref qN, .ref q1, .ref q2, .ref q3, .ref q4, .int ud])), (qN, .inr (5, [.ref qNp, .ref qNs, .ref qNz, .int nk])), (qNp, .inr (2, [.ref qNpl, .ref qNpr, .int nv])), (qNpl, .inr (0, [.int nl0, .int nl1, .int nl2, .int nl3, .int nl4, .int nl5, .int nl6, .int nl7, .int nl8, .int nl9, .int nl10, .int nl11, .int (bB nlb)])), (qNpr, .inr (0, [.int nr0, .int nr1, .int nr2, .int nr3, .int nr4, .int nr5, .int nr6, .int nr7, .int nr8, .int nr9, .int nr10, .int nr11, .int (bB nrb)])), (qR, .inr (1, [.int r0, .int r1, .int r2, .int r3, .int r4, .ref qRl, .ref qRr])), (qQ, .inr (2, [.ref qQl, .ref qQr, .int nv])), (qQl, .inr (0, [.int wl0, .int wl1, .int wl2, .int nl3, .int wl4, .int wl5, .int wl6, .int nl7, .int wl8, .int wl9, .int wl10, .int wl11, .int (bB wlb)])), (qQr, .inr (0, [.int wr0, .int wr1, .int wr2, .int nr3, .int wr4, .int wr5, .int wr6, .int nr7, .int wr8, .int wr9, .int wr10, .int wr11, .int (bB wrb)]))] H locs → W p_ l e_ ({ frames := 5, cells := 0, slots := 0, locals := 108 } : Room) s_ m_ ([.ref qM, .int 1] : List Value).toArray bl_ me_ cd_ H locs 0 0 (bQI bl_ ([.ref qM, .int 1] : List Value).toArray s_ D [(qM, .inr (7, [.ref qT, .ref qQ, .ref qR, .ref qD, .ref qN, .ref q1, .ref q2, .ref q3, .ref q4, .int ud])), (qN, .inr (5, [.ref qNp, .ref qNs, .ref qNz, .int nk])), (qNp, .inr (2, [.ref qNpl, .ref qNpr, .int nv])), (qNpl, .inr (0, [.int nl0, .int nl1, .int nl2, .int nl3, .int nl4, .int nl5, .int nl6, .int nl7, .int nl8, .int nl9, .int nl10, .int nl11, .int (bB nlb)])), (qNpr, .inr (0, [.int nr0, .int nr1, .int nr2, .int nr3, .int nr4, .int nr5, .int nr6, .int nr7, .int nr8, .int nr9, .int nr10, .int nr11, .int (bB nrb)])), (qR, .inr (1, [.int r0, .int r1, .int r2, .int r3, .int r4, .ref qRl, .ref qRr])), (qQ, .inr (2, [.ref qQl, .ref qQr, .int o1])), (qQl, .inr (0, [.int o2, .int o3, .int o4, .int o5, .int o6, .int o7, .int o8, .int o9, .int o10, .int o11, .int o12, .int o13, .int (bB o14)])), (qQr, .inr (0, [.int o15, .int o16, .int o17, .int o18, .int o19, .int o20, .int o21, .int o22, .int o23, .int o24, .int o25, .int o26, .int (bB o27)]))] o0 A_) (F0 m_ 44 ls []) := by
  intro n_
  induction n_ with
  | zero =>
    intro j wl0 wl1 wl2 wl4 wl5 wl6 wl8 wl9 wl10 wl11 wlb wr0 wr1 wr2 wr4 wr5 wr6 wr8 wr9 wr10 wr11 wrb hN hJ hu ls H locs hl Y
    exfalso; omega
  | succ n_ ih =>
    intro j wl0 wl1 wl2 wl4 wl5 wl6 wl8 wl9 wl10 wl11 wlb wr0 wr1 wr2 wr4 wr5 wr6 wr8 wr9 wr10 wr11 wrb hN hJ hu ls H locs hl Y
    have hx := X.1.1
    have hb := X.1.2.1
    rw [g_quiet_1] at hu
    refine lv_iload_n hx hb dX7_quiet_44 rfl (lv_at hl 3 rfl) ?_
    refine lv_bipush (v := 60) hx hb dX7_quiet_45 (by decide) ?_
    refine lv_icmp_ge (tgt := 77) hx hb dX7_quiet_47 (by decide) (fun c_1 => ?_) (fun c_1 => ?_)
    · have c_1 : 60 ≤ nI j := c_1
      rw [if_pos c_1] at hu
      refine lv_aload_n hx hb dX7_quiet_77 rfl (lv_at hl 2 rfl) ?_
      refine bVI0 (As := []) (rest := []) (wc := [(qQr, .inr (0, [.int wr0, .int wr1, .int wr2, .int nr3, .int wr4, .int wr5, .int wr6, .int nr7, .int wr8, .int wr9, .int wr10, .int wr11, .int (bB wrb)]))]) (ci := 0) (q0 := 8) X Y (c_isQuiet l D cyC cyI qQr wr0 wr1 wr2 nr3 wr4 wr5 wr6 nr7 wr8 wr9 wr10 wr11 wrb (s_isQuiet wr1 wr4 wr5 wr6 wr9 wr11) rfl) gX7_quiet_X0_isQuiet rfl ⟨rfl, rfl⟩ hd_X0_isQuiet ⟨(Nat.le_of_ble_eq_true rfl), (Nat.le_of_ble_eq_true rfl)⟩ rfl rfl rfl [8] rfl rfl rfl rfl hl.1 (Nat.le_of_ble_eq_true rfl) ⟨Nat.zero_le _, Nat.zero_le _⟩ dX7_quiet_78 (fun H locs Y => ?_)
      refine lv_if_eq (tgt := 89) hx hb dX7_quiet_81 (by decide) (fun c_2 => ?_) (fun c_2 => ?_)
      · have c_2 := bB_f c_2
        rw [if_neg c_2] at hu
        refine lv_bipush (v := (-4)) hx hb dX7_quiet_89 (by decide) ?_
        have h9 := (Prod.mk.inj hu).1; replace hu := (Prod.mk.inj hu).2; subst h9
        have h9 := (Prod.mk.inj hu).1; replace hu := (Prod.mk.inj hu).2; subst h9
        have h9 := (Prod.mk.inj hu).1; replace hu := (Prod.mk.inj hu).2; subst h9
        have h9 := (Prod.mk.inj hu).1; replace hu := (Prod.mk.inj hu).2; subst h9
        have h9 := (Prod.mk.inj hu).1; replace hu := (Prod.mk.inj hu).2; subst h9
        have h9 := (Prod.mk.inj hu).1; replace hu := (Prod.mk.inj hu).2; subst h9
        have h9 := (Prod.mk.inj hu).1; replace hu := (Prod.mk.inj hu).2; subst h9
        have h9 := (Prod.mk.inj hu).1; replace hu := (Prod.mk.inj hu).2; subst h9
        have h9 := (Prod.mk.inj hu).1; replace hu := (Prod.mk.inj hu).2; subst h9
        have h9 := (Prod.mk.inj hu).1; replace hu := (Prod.mk.inj hu).2; subst h9
        have h9 := (Prod.mk.inj hu).1; replace hu := (Prod.mk.inj hu).2; subst h9
        have h9 := (Prod.mk.inj hu).1; replace hu := (Prod.mk.inj hu).2; subst h9
        have h9 := (Prod.mk.inj hu).1; replace hu := (Prod.mk.inj hu).2; subst h9
        have h9 := (Prod.mk.inj hu).1; replace hu := (Prod.mk.inj hu).2; subst h9
        have h9 := (Prod.mk.inj hu).1; replace hu := (Prod.mk.inj hu).2; subst h9
        have h9 := (Prod.mk.inj hu).1; replace hu := (Prod.mk.inj hu).2; subst h9
        have h9 := (Prod.mk.inj hu).1; replace hu := (Prod.mk.inj hu).2; subst h9
        have h9 := (Prod.mk.inj hu).1; replace hu := (Prod.mk.inj hu).2; subst h9
        have h9 := (Prod.mk.inj hu).1; replace hu := (Prod.mk.inj hu).2; subst h9
        have h9 := (Prod.mk.inj hu).1; replace hu := (Prod.mk.inj hu).2; subst h9
        have h9 := (Prod.mk.inj hu).1; replace hu := (Prod.mk.inj hu).2; subst h9
        have h9 := (Prod.mk.inj hu).1; replace hu := (Prod.mk.inj hu).2; subst h9
        have h9 := (Prod.mk.inj hu).1; replace hu := (Prod.mk.inj hu).2; subst h9
        have h9 := (Prod.mk.inj hu).1; replace hu := (Prod.mk.inj hu).2; subst h9
        have h9 := (Prod.mk.inj hu).1; replace hu := (Prod.mk.inj hu).2; subst h9
        have h9 := (Prod.mk.inj hu).1; replace hu := (Prod.mk.inj hu).2; subst h9
        have h9 := (Prod.mk.inj hu).1; replace hu := (Prod.mk.inj hu).2; subst h9
        subst hu
        exact bEndI X Y hr hlk dX7_quiet_91 rfl rfl
      · have c_2 := bB_t c_2
        rw [if_pos c_2] at hu
        refine lv_bipush (v := 60) hx hb dX7_quiet_84 (by decide) ?_
        refine lv_goto (tgt := 91) hx hb dX7_quiet_86 (by decide) ?_
        have h9 := (Prod.mk.inj hu).1; replace hu := (Prod.mk.inj hu).2; subst h9
        have h9 := (Prod.mk.inj hu).1; replace hu := (Prod.mk.inj hu).2; subst h9
        have h9 := (Prod.mk.inj hu).1; replace hu := (Prod.mk.inj hu).2; subst h9
        have h9 := (Prod.mk.inj hu).1; replace hu := (Prod.mk.inj hu).2; subst h9
        have h9 := (Prod.mk.inj hu).1; replace hu := (Prod.mk.inj hu).2; subst h9
        have h9 := (Prod.mk.inj hu).1; replace hu := (Prod.mk.inj hu).2; subst h9
        have h9 := (Prod.mk.inj hu).1; replace hu := (Prod.mk.inj hu).2; subst h9
        have h9 := (Prod.mk.inj hu).1; replace hu := (Prod.mk.inj hu).2; subst h9
        have h9 := (Prod.mk.inj hu).1; replace hu := (Prod.mk.inj hu).2; subst h9
        have h9 := (Prod.mk.inj hu).1; replace hu := (Prod.mk.inj hu).2; subst h9
        have h9 := (Prod.mk.inj hu).1; replace hu := (Prod.mk.inj hu).2; subst h9
        have h9 := (Prod.mk.inj hu).1; replace hu := (Prod.mk.inj hu).2; subst h9
        have h9 := (Prod.mk.inj hu).1; replace hu := (Prod.mk.inj hu).2; subst h9
        have h9 := (Prod.mk.inj hu).1; replace hu := (Prod.mk.inj hu).2; subst h9
        have h9 := (Prod.mk.inj hu).1; replace hu := (Prod.mk.inj hu).2; subst h9
        have h9 := (Prod.mk.inj hu).1; replace hu := (Prod.mk.inj hu).2; subst h9
        have h9 := (Prod.mk.inj hu).1; replace hu := (Prod.mk.inj hu).2; subst h9
        have h9 := (Prod.mk.inj hu).1; replace hu := (Prod.mk.inj hu).2; subst h9
        have h9 := (Prod.mk.inj hu).1; replace hu := (Prod.mk.inj hu).2; subst h9
        have h9 := (Prod.mk.inj hu).1; replace hu := (Prod.mk.inj hu).2; subst h9
        have h9 := (Prod.mk.inj hu).1; replace hu := (Prod.mk.inj hu).2; subst h9
        have h9 := (Prod.mk.inj hu).1; replace hu := (Prod.mk.inj hu).2; subst h9
        have h9 := (Prod.mk.inj hu).1; replace hu := (Prod.mk.inj hu).2; subst h9
        have h9 := (Prod.mk.inj hu).1; replace hu := (Prod.mk.inj hu).2; subst h9
        have h9 := (Prod.mk.inj hu).1; replace hu := (Prod.mk.inj hu).2; subst h9
        have h9 := (Prod.mk.inj hu).1; replace hu := (Prod.mk.inj hu).2; subst h9
        have h9 := (Prod.mk.inj hu).1; replace hu := (Prod.mk.inj hu).2; subst h9
        subst hu
        exact bEndI X Y hr hlk dX7_quiet_91 rfl rfl
    · have c_1 : ¬ (60 ≤ nI j) := c_1
      rw [if_neg c_1] at hu
      refine lv_aload_n hx hb dX7_quiet_50 rfl (lv_at hl 2 rfl) ?_
      refine bVI0 (As := []) (rest := []) (wc := [(qQr, .inr (0, [.int wr0, .int wr1, .int wr2, .int nr3, .int wr4, .int wr5, .int wr6, .int nr7, .int wr8, .int wr9, .int wr10, .int wr11, .int (bB wrb)]))]) (ci := 0) (q0 := 8) X Y (c_isQuiet l D cyC cyI qQr wr0 wr1 wr2 nr3 wr4 wr5 wr6 nr7 wr8 wr9 wr10 wr11 wrb (s_isQuiet wr1 wr4 wr5 wr6 wr9 wr11) rfl) gX7_quiet_X0_isQuiet rfl ⟨rfl, rfl⟩ hd_X0_isQuiet ⟨(Nat.le_of_ble_eq_true rfl), (Nat.le_of_ble_eq_true rfl)⟩ rfl rfl rfl [8] rfl rfl rfl rfl hl.1 (Nat.le_of_ble_eq_true rfl) ⟨Nat.zero_le _, Nat.zero_le _⟩ dX7_quiet_51 (fun H locs Y => ?_)
      refine lv_if_eq (tgt := 59) hx hb dX7_quiet_54 (by decide) (fun c_3 => ?_) (fun c_3 => ?_)
      · have c_3 := bB_f c_3
        rw [if_neg c_3] at hu
        refine lv_aload_n hx hb dX7_quiet_59 rfl (lv_at hl 0 rfl) ?_
        refine bGet (v := .ref qQ) (T := TX7) (N := 10) (ci := 7) X Y i_X7_quiet_X7 0 rfl rfl 1 (Nat.le_of_ble_eq_true rfl) f_X7_quiet_19 rfl rfl dX7_quiet_60 ?_
        refine lv_aload_n hx hb dX7_quiet_63 rfl (lv_at hl 0 rfl) ?_
        refine bGet (v := .ref qR) (T := TX7) (N := 10) (ci := 7) X Y i_X7_quiet_X7 0 rfl rfl 2 (Nat.le_of_ble_eq_true rfl) f_X7_quiet_26 rfl rfl dX7_quiet_64 ?_
        obtain ⟨u_4_0, u_4_1, u_4_2, u_4_3, u_4_4, u_4_5, u_4_6, u_4_7, u_4_8, u_4_9, u_4_10, u_4_11, u_4_12, u_4_13, u_4_14, u_4_15, u_4_16, u_4_17, u_4_18, hr_4⟩ := bEx19 (s_pairGoOn nv wl0 wl1 wl2 nl3 wl4 wl5 wl6 nl7 wl8 wl9 wl10 wl11 wr0 wr1 wr2 nr3 wr4 wr5 wr6 nr7 wr8 wr9 wr10 wr11 r0 r1 r2 r3 r4)
        rw [hr_4] at hu
        dsimp only at hu
        refine bVI (As := [.ref qR]) (rest := []) (wc := [(qQ, .inr (2, [.ref qQl, .ref qQr, .int nv])), (qQl, .inr (0, [.int wl0, .int wl1, .int wl2, .int nl3, .int wl4, .int wl5, .int wl6, .int nl7, .int wl8, .int wl9, .int wl10, .int wl11, .int (bB wlb)])), (qQr, .inr (0, [.int wr0, .int wr1, .int wr2, .int nr3, .int wr4, .int wr5, .int wr6, .int nr7, .int wr8, .int wr9, .int wr10, .int wr11, .int (bB wrb)])), (qR, .inr (1, [.int r0, .int r1, .int r2, .int r3, .int r4, .ref qRl, .ref qRr]))]) (w1 := [(qQ, .inr (2, [.ref qQl, .ref qQr, .int nv])), (qQl, .inr (0, [.int u_4_1, .int u_4_2, .int u_4_3, .int nl3, .int u_4_4, .int u_4_5, .int u_4_6, .int nl7, .int (wl8 - 1), .int u_4_7, .int (wl10 - 1), .int u_4_8, .int (bB u_4_9)])), (qQr, .inr (0, [.int u_4_10, .int u_4_11, .int u_4_12, .int nr3, .int u_4_13, .int u_4_14, .int u_4_15, .int nr7, .int (wr8 - 1), .int u_4_16, .int (wr10 - 1), .int u_4_17, .int (bB u_4_18)])), (qR, .inr (1, [.int r0, .int r1, .int r2, .int r3, .int r4, .ref qRl, .ref qRr]))]) (ws' := [(qM, .inr (7, [.ref qT, .ref qQ, .ref qR, .ref qD, .ref qN, .ref q1, .ref q2, .ref q3, .ref q4, .int ud])), (qN, .inr (5, [.ref qNp, .ref qNs, .ref qNz, .int nk])), (qNp, .inr (2, [.ref qNpl, .ref qNpr, .int nv])), (qNpl, .inr (0, [.int nl0, .int nl1, .int nl2, .int nl3, .int nl4, .int nl5, .int nl6, .int nl7, .int nl8, .int nl9, .int nl10, .int nl11, .int (bB nlb)])), (qNpr, .inr (0, [.int nr0, .int nr1, .int nr2, .int nr3, .int nr4, .int nr5, .int nr6, .int nr7, .int nr8, .int nr9, .int nr10, .int nr11, .int (bB nrb)])), (qR, .inr (1, [.int r0, .int r1, .int r2, .int r3, .int r4, .ref qRl, .ref qRr])), (qQ, .inr (2, [.ref qQl, .ref qQr, .int nv])), (qQl, .inr (0, [.int u_4_1, .int u_4_2, .int u_4_3, .int nl3, .int u_4_4, .int u_4_5, .int u_4_6, .int nl7, .int (wl8 - 1), .int u_4_7, .int (wl10 - 1), .int u_4_8, .int (bB u_4_9)])), (qQr, .inr (0, [.int u_4_10, .int u_4_11, .int u_4_12, .int nr3, .int u_4_13, .int u_4_14, .int u_4_15, .int nr7, .int (wr8 - 1), .int u_4_16, .int (wr10 - 1), .int u_4_17, .int (bB u_4_18)]))]) (ad := [qQ, qQl, qQr, qR]) (wr := [(qM, .inr (7, [.ref qT, .ref qQ, .ref qR, .ref qD, .ref qN, .ref q1, .ref q2, .ref q3, .ref q4, .int ud])), (qN, .inr (5, [.ref qNp, .ref qNs, .ref qNz, .int nk])), (qNp, .inr (2, [.ref qNpl, .ref qNpr, .int nv])), (qNpl, .inr (0, [.int nl0, .int nl1, .int nl2, .int nl3, .int nl4, .int nl5, .int nl6, .int nl7, .int nl8, .int nl9, .int nl10, .int nl11, .int (bB nlb)])), (qNpr, .inr (0, [.int nr0, .int nr1, .int nr2, .int nr3, .int nr4, .int nr5, .int nr6, .int nr7, .int nr8, .int nr9, .int nr10, .int nr11, .int (bB nrb)]))]) (nn := 9) (ci := 2) (q0 := 6) X Y (c_pairGoOn l D cyC cyI qQ nv qQl wl0 wl1 wl2 nl3 wl4 wl5 wl6 nl7 wl8 wl9 wl10 wl11 wlb qQr wr0 wr1 wr2 nr3 wr4 wr5 wr6 nr7 wr8 wr9 wr10 wr11 wrb qR qRl qRr r0 r1 r2 r3 r4 u_4_0 u_4_1 u_4_2 u_4_3 u_4_4 u_4_5 u_4_6 u_4_7 u_4_8 u_4_9 u_4_10 u_4_11 u_4_12 u_4_13 u_4_14 u_4_15 u_4_16 u_4_17 u_4_18 hr_4) gX7_quiet_X2_goOn rfl ⟨rfl, rfl⟩ hd_X2_goOn ⟨(Nat.le_of_ble_eq_true rfl), (Nat.le_of_ble_eq_true rfl)⟩ rfl rfl rfl [6, 7, 8, 5] [0, 1, 2, 3, 4] rfl rfl rfl rfl rfl rfl rfl rfl (by decide) rfl rfl hl.1 (Nat.le_of_ble_eq_true rfl) ⟨Nat.zero_le _, Nat.zero_le _⟩ dX7_quiet_67 (fun H locs Y => ?_)
        refine lv_pop hx hb dX7_quiet_70 rfl ?_
        refine lv_iinc (v := nI (j + 1)) (lv' := [(3, .int (nI (j + 1))), (0, .ref qM), (1, .int 1), (2, .ref qQr)]) hx hb dX7_quiet_71 hl (k := 3) rfl (nI_inc _) (by decide) rfl (fun ls hl => ?_)
        refine lv_goto (tgt := 44) hx hb dX7_quiet_74 (by decide) ?_
        exact ih (j + 1) u_4_1 u_4_2 u_4_3 u_4_4 u_4_5 u_4_6 (wl8 - 1) u_4_7 (wl10 - 1) u_4_8 u_4_9 u_4_10 u_4_11 u_4_12 u_4_13 u_4_14 u_4_15 (wr8 - 1) u_4_16 (wr10 - 1) u_4_17 u_4_18 (by omega) (by have := bNle (k := 60) rfl (by omega) (by decide) c_1; omega) hu _ _ _ (lv_sub hl [1, 2, 3, 0] rfl) Y
      · have c_3 := bB_t c_3
        rw [if_pos c_3] at hu
        refine lv_iload_n hx hb dX7_quiet_57 rfl (lv_at hl 3 rfl) ?_
        have h9 := (Prod.mk.inj hu).1; replace hu := (Prod.mk.inj hu).2; subst h9
        have h9 := (Prod.mk.inj hu).1; replace hu := (Prod.mk.inj hu).2; subst h9
        have h9 := (Prod.mk.inj hu).1; replace hu := (Prod.mk.inj hu).2; subst h9
        have h9 := (Prod.mk.inj hu).1; replace hu := (Prod.mk.inj hu).2; subst h9
        have h9 := (Prod.mk.inj hu).1; replace hu := (Prod.mk.inj hu).2; subst h9
        have h9 := (Prod.mk.inj hu).1; replace hu := (Prod.mk.inj hu).2; subst h9
        have h9 := (Prod.mk.inj hu).1; replace hu := (Prod.mk.inj hu).2; subst h9
        have h9 := (Prod.mk.inj hu).1; replace hu := (Prod.mk.inj hu).2; subst h9
        have h9 := (Prod.mk.inj hu).1; replace hu := (Prod.mk.inj hu).2; subst h9
        have h9 := (Prod.mk.inj hu).1; replace hu := (Prod.mk.inj hu).2; subst h9
        have h9 := (Prod.mk.inj hu).1; replace hu := (Prod.mk.inj hu).2; subst h9
        have h9 := (Prod.mk.inj hu).1; replace hu := (Prod.mk.inj hu).2; subst h9
        have h9 := (Prod.mk.inj hu).1; replace hu := (Prod.mk.inj hu).2; subst h9
        have h9 := (Prod.mk.inj hu).1; replace hu := (Prod.mk.inj hu).2; subst h9
        have h9 := (Prod.mk.inj hu).1; replace hu := (Prod.mk.inj hu).2; subst h9
        have h9 := (Prod.mk.inj hu).1; replace hu := (Prod.mk.inj hu).2; subst h9
        have h9 := (Prod.mk.inj hu).1; replace hu := (Prod.mk.inj hu).2; subst h9
        have h9 := (Prod.mk.inj hu).1; replace hu := (Prod.mk.inj hu).2; subst h9
        have h9 := (Prod.mk.inj hu).1; replace hu := (Prod.mk.inj hu).2; subst h9
        have h9 := (Prod.mk.inj hu).1; replace hu := (Prod.mk.inj hu).2; subst h9
        have h9 := (Prod.mk.inj hu).1; replace hu := (Prod.mk.inj hu).2; subst h9
        have h9 := (Prod.mk.inj hu).1; replace hu := (Prod.mk.inj hu).2; subst h9
        have h9 := (Prod.mk.inj hu).1; replace hu := (Prod.mk.inj hu).2; subst h9
        have h9 := (Prod.mk.inj hu).1; replace hu := (Prod.mk.inj hu).2; subst h9
        have h9 := (Prod.mk.inj hu).1; replace hu := (Prod.mk.inj hu).2; subst h9
        have h9 := (Prod.mk.inj hu).1; replace hu := (Prod.mk.inj hu).2; subst h9
        have h9 := (Prod.mk.inj hu).1; replace hu := (Prod.mk.inj hu).2; subst h9
        subst hu
        exact bEndI X Y hr hlk dX7_quiet_58 rfl rfl
set_option maxHeartbeats 4000000 in
set_option maxRecDepth 100000 in
theorem c_quiet_1 (l : Launch) (D : va_G) (cyC cyI : ClassId) (qM : Nat) (qT : Nat) (qQ : Nat) (qR : Nat) (qD : Nat) (qN : Nat) (q1 : Nat) (q2 : Nat) (q3 : Nat) (q4 : Nat) (ud : Int32) (nk : Int32) (qNp : Nat) (nv : Int32) (qNpl : Nat) (nl0 : Int32) (nl1 : Int32) (nl2 : Int32) (nl3 : Int32) (nl4 : Int32) (nl5 : Int32) (nl6 : Int32) (nl7 : Int32) (nl8 : Int32) (nl9 : Int32) (nl10 : Int32) (nl11 : Int32) (nlb : Bool) (qNpr : Nat) (nr0 : Int32) (nr1 : Int32) (nr2 : Int32) (nr3 : Int32) (nr4 : Int32) (nr5 : Int32) (nr6 : Int32) (nr7 : Int32) (nr8 : Int32) (nr9 : Int32) (nr10 : Int32) (nr11 : Int32) (nrb : Bool) (qNs : Nat) (qNz : Nat) (qRl : Nat) (qRr : Nat) (r0 : Int32) (r1 : Int32) (r2 : Int32) (r3 : Int32) (r4 : Int32) (tv : Int32) (qQl : Nat) (tl0 : Int32) (tl1 : Int32) (tl2 : Int32) (tl3 : Int32) (tl4 : Int32) (tl5 : Int32) (tl6 : Int32) (tl7 : Int32) (tl8 : Int32) (tl9 : Int32) (tl10 : Int32) (tl11 : Int32) (tlb : Bool) (qQr : Nat) (tr0 : Int32) (tr1 : Int32) (tr2 : Int32) (tr3 : Int32) (tr4 : Int32) (tr5 : Int32) (tr6 : Int32) (tr7 : Int32) (tr8 : Int32) (tr9 : Int32) (tr10 : Int32) (tr11 : Int32) (trb : Bool) (o0 : Int32) (o1 : Int32) (o2 : Int32) (o3 : Int32) (o4 : Int32) (o5 : Int32) (o6 : Int32) (o7 : Int32) (o8 : Int32) (o9 : Int32) (o10 : Int32) (o11 : Int32) (o12 : Int32) (o13 : Int32) (o14 : Bool) (o15 : Int32) (o16 : Int32) (o17 : Int32) (o18 : Int32) (o19 : Int32) (o20 : Int32) (o21 : Int32) (o22 : Int32) (o23 : Int32) (o24 : Int32) (o25 : Int32) (o26 : Int32) (o27 : Bool) (hu : s_quiet_1 nv nl0 nl1 nl2 nl3 nl4 nl5 nl6 nl7 nl8 nl9 nl10 nl11 nlb nr0 nr1 nr2 nr3 nr4 nr5 nr6 nr7 nr8 nr9 nr10 nr11 nrb r0 r1 r2 r3 r4 tv tl0 tl1 tl2 tl3 tl4 tl5 tl6 tl7 tl8 tl9 tl10 tl11 tlb tr0 tr1 tr2 tr3 tr4 tr5 tr6 tr7 tr8 tr9 tr10 tr11 trb = (o0, o1, o2, o3, o4, o5, o6, o7, o8, o9, o10, o11, o12, o13, o14, o15, o16, o17, o18, o19, o20, o21, o22, o23, o24, o25, o26, o27)) : CI l yX7_quiet wsX7_quiet { frames := 5, cells := 0, slots := 0, locals := 108 } D cyC cyI [.ref qM, .int 1] [(qM, .inr (7, [.ref qT, .ref qQ, .ref qR, .ref qD, .ref qN, .ref q1, .ref q2, .ref q3, .ref q4, .int ud])), (qN, .inr (5, [.ref qNp, .ref qNs, .ref qNz, .int nk])), (qNp, .inr (2, [.ref qNpl, .ref qNpr, .int nv])), (qNpl, .inr (0, [.int nl0, .int nl1, .int nl2, .int nl3, .int nl4, .int nl5, .int nl6, .int nl7, .int nl8, .int nl9, .int nl10, .int nl11, .int (bB nlb)])), (qNpr, .inr (0, [.int nr0, .int nr1, .int nr2, .int nr3, .int nr4, .int nr5, .int nr6, .int nr7, .int nr8, .int nr9, .int nr10, .int nr11, .int (bB nrb)])), (qR, .inr (1, [.int r0, .int r1, .int r2, .int r3, .int r4, .ref qRl, .ref qRr])), (qQ, .inr (2, [.ref qQl, .ref qQr, .int tv])), (qQl, .inr (0, [.int tl0, .int tl1, .int tl2, .int tl3, .int tl4, .int tl5, .int tl6, .int tl7, .int tl8, .int tl9, .int tl10, .int tl11, .int (bB tlb)])), (qQr, .inr (0, [.int tr0, .int tr1, .int tr2, .int tr3, .int tr4, .int tr5, .int tr6, .int tr7, .int tr8, .int tr9, .int tr10, .int tr11, .int (bB trb)]))] o0 [(qM, .inr (7, [.ref qT, .ref qQ, .ref qR, .ref qD, .ref qN, .ref q1, .ref q2, .ref q3, .ref q4, .int ud])), (qN, .inr (5, [.ref qNp, .ref qNs, .ref qNz, .int nk])), (qNp, .inr (2, [.ref qNpl, .ref qNpr, .int nv])), (qNpl, .inr (0, [.int nl0, .int nl1, .int nl2, .int nl3, .int nl4, .int nl5, .int nl6, .int nl7, .int nl8, .int nl9, .int nl10, .int nl11, .int (bB nlb)])), (qNpr, .inr (0, [.int nr0, .int nr1, .int nr2, .int nr3, .int nr4, .int nr5, .int nr6, .int nr7, .int nr8, .int nr9, .int nr10, .int nr11, .int (bB nrb)])), (qR, .inr (1, [.int r0, .int r1, .int r2, .int r3, .int r4, .ref qRl, .ref qRr])), (qQ, .inr (2, [.ref qQl, .ref qQr, .int o1])), (qQl, .inr (0, [.int o2, .int o3, .int o4, .int o5, .int o6, .int o7, .int o8, .int o9, .int o10, .int o11, .int o12, .int o13, .int (bB o14)])), (qQr, .inr (0, [.int o15, .int o16, .int o17, .int o18, .int o19, .int o20, .int o21, .int o22, .int o23, .int o24, .int o25, .int o26, .int (bB o27)]))] := by
  refine CI.of (cc := cX7_quiet) (n := 4) (ret := (some .int)) (by decide +kernel) rfl (Nat.le_of_ble_eq_true rfl) ?_
  intro p_ e_ s_ m_ bl_ me_ cd_ A_ ls X Y hr hlk hl
  have hx := X.1.1
  have hb := X.1.2.1
  have hl : lv_has ls 4 [(0, .ref qM), (1, .int 1)] := hl
  unfold s_quiet_1 at hu
  refine lv_iload_n hx hb dX7_quiet_0 rfl (lv_at hl 1 rfl) ?_
  refine bSI (As := [.int 1]) (rest := []) X Y (c_isCrane l D cyC cyI 1 (s_isCrane 1) rfl) gX7_quiet_X7_isCrane rfl ⟨rfl, rfl⟩ hd_X7_isCrane.2 ⟨(Nat.le_of_ble_eq_true rfl), (Nat.le_of_ble_eq_true rfl)⟩ rfl rfl hl.1 (Nat.le_of_ble_eq_true rfl) ⟨Nat.zero_le _, Nat.zero_le _⟩ dX7_quiet_1 (fun H locs Y => ?_)
  refine lv_if_ne (tgt := 9) hx hb dX7_quiet_4 (by decide) (fun c_1 => ?_) (fun c_1 => ?_)
  · have c_1 := bB_t c_1
    rw [if_pos c_1] at hu
    refine lv_aload_n hx hb dX7_quiet_9 rfl (lv_at hl 0 rfl) ?_
    refine bGet (v := .ref qQ) (T := TX7) (N := 10) (ci := 7) X Y i_X7_quiet_X7 0 rfl rfl 1 (Nat.le_of_ble_eq_true rfl) f_X7_quiet_19 rfl rfl dX7_quiet_10 ?_
    refine lv_aload_n hx hb dX7_quiet_13 rfl (lv_at hl 0 rfl) ?_
    refine bGet (v := .ref qN) (T := TX7) (N := 10) (ci := 7) X Y i_X7_quiet_X7 0 rfl rfl 4 (Nat.le_of_ble_eq_true rfl) f_X7_quiet_36 rfl rfl dX7_quiet_14 ?_
    refine bGet (v := .ref qNp) (T := TX5) (N := 4) (ci := 5) X Y i_X7_quiet_X5 1 rfl rfl 0 (Nat.le_of_ble_eq_true rfl) f_X7_quiet_95 rfl rfl dX7_quiet_17 ?_
    refine bVV (As := [.ref qNp]) (rest := []) (wc := [(qQ, .inr (2, [.ref qQl, .ref qQr, .int tv])), (qQl, .inr (0, [.int tl0, .int tl1, .int tl2, .int tl3, .int tl4, .int tl5, .int tl6, .int tl7, .int tl8, .int tl9, .int tl10, .int tl11, .int (bB tlb)])), (qQr, .inr (0, [.int tr0, .int tr1, .int tr2, .int tr3, .int tr4, .int tr5, .int tr6, .int tr7, .int tr8, .int tr9, .int tr10, .int tr11, .int (bB trb)])), (qNp, .inr (2, [.ref qNpl, .ref qNpr, .int nv])), (qNpl, .inr (0, [.int nl0, .int nl1, .int nl2, .int nl3, .int nl4, .int nl5, .int nl6, .int nl7, .int nl8, .int nl9, .int nl10, .int nl11, .int (bB nlb)])), (qNpr, .inr (0, [.int nr0, .int nr1, .int nr2, .int nr3, .int nr4, .int nr5, .int nr6, .int nr7, .int nr8, .int nr9, .int nr10, .int nr11, .int (bB nrb)]))]) (w1 := [(qQ, .inr (2, [.ref qQl, .ref qQr, .int nv])), (qQl, .inr (0, [.int nl0, .int nl1, .int nl2, .int nl3, .int nl4, .int nl5, .int nl6, .int nl7, .int nl8, .int nl9, .int nl10, .int nl11, .int (bB nlb)])), (qQr, .inr (0, [.int nr0, .int nr1, .int nr2, .int nr3, .int nr4, .int nr5, .int nr6, .int nr7, .int nr8, .int nr9, .int nr10, .int nr11, .int (bB nrb)])), (qNp, .inr (2, [.ref qNpl, .ref qNpr, .int nv])), (qNpl, .inr (0, [.int nl0, .int nl1, .int nl2, .int nl3, .int nl4, .int nl5, .int nl6, .int nl7, .int nl8, .int nl9, .int nl10, .int nl11, .int (bB nlb)])), (qNpr, .inr (0, [.int nr0, .int nr1, .int nr2, .int nr3, .int nr4, .int nr5, .int nr6, .int nr7, .int nr8, .int nr9, .int nr10, .int nr11, .int (bB nrb)]))]) (ws' := [(qM, .inr (7, [.ref qT, .ref qQ, .ref qR, .ref qD, .ref qN, .ref q1, .ref q2, .ref q3, .ref q4, .int ud])), (qN, .inr (5, [.ref qNp, .ref qNs, .ref qNz, .int nk])), (qNp, .inr (2, [.ref qNpl, .ref qNpr, .int nv])), (qNpl, .inr (0, [.int nl0, .int nl1, .int nl2, .int nl3, .int nl4, .int nl5, .int nl6, .int nl7, .int nl8, .int nl9, .int nl10, .int nl11, .int (bB nlb)])), (qNpr, .inr (0, [.int nr0, .int nr1, .int nr2, .int nr3, .int nr4, .int nr5, .int nr6, .int nr7, .int nr8, .int nr9, .int nr10, .int nr11, .int (bB nrb)])), (qR, .inr (1, [.int r0, .int r1, .int r2, .int r3, .int r4, .ref qRl, .ref qRr])), (qQ, .inr (2, [.ref qQl, .ref qQr, .int nv])), (qQl, .inr (0, [.int nl0, .int nl1, .int nl2, .int nl3, .int nl4, .int nl5, .int nl6, .int nl7, .int nl8, .int nl9, .int nl10, .int nl11, .int (bB nlb)])), (qQr, .inr (0, [.int nr0, .int nr1, .int nr2, .int nr3, .int nr4, .int nr5, .int nr6, .int nr7, .int nr8, .int nr9, .int nr10, .int nr11, .int (bB nrb)]))]) (ad := [qQ, qQl, qQr, qNp, qNpl, qNpr]) (wr := [(qM, .inr (7, [.ref qT, .ref qQ, .ref qR, .ref qD, .ref qN, .ref q1, .ref q2, .ref q3, .ref q4, .int ud])), (qN, .inr (5, [.ref qNp, .ref qNs, .ref qNz, .int nk])), (qR, .inr (1, [.int r0, .int r1, .int r2, .int r3, .int r4, .ref qRl, .ref qRr]))]) (nn := 9) (ci := 2) (q0 := 6) X Y (c_pairCopy l D cyC cyI qQ tv qQl tl0 tl1 tl2 tl3 tl4 tl5 tl6 tl7 tl8 tl9 tl10 tl11 tlb qQr tr0 tr1 tr2 tr3 tr4 tr5 tr6 tr7 tr8 tr9 tr10 tr11 trb qNp nv qNpl nl0 nl1 nl2 nl3 nl4 nl5 nl6 nl7 nl8 nl9 nl10 nl11 nlb qNpr nr0 nr1 nr2 nr3 nr4 nr5 nr6 nr7 nr8 nr9 nr10 nr11 nrb) gX7_quiet_X2_copyFrom rfl ⟨rfl, rfl⟩ hd_X2_copyFrom ⟨(Nat.le_of_ble_eq_true rfl), (Nat.le_of_ble_eq_true rfl)⟩ rfl rfl rfl [6, 7, 8, 2, 3, 4] [0, 1, 5] rfl rfl rfl rfl rfl rfl rfl rfl (by decide) rfl rfl hl.1 (Nat.le_of_ble_eq_true rfl) ⟨Nat.zero_le _, Nat.zero_le _⟩ dX7_quiet_20 (fun H locs Y => ?_)
    refine lv_aload_n hx hb dX7_quiet_23 rfl (lv_at hl 0 rfl) ?_
    refine bGet (v := .ref qQ) (T := TX7) (N := 10) (ci := 7) X Y i_X7_quiet_X7 0 rfl rfl 1 (Nat.le_of_ble_eq_true rfl) f_X7_quiet_19 rfl rfl dX7_quiet_24 ?_
    refine lv_iload_n hx hb dX7_quiet_27 rfl (lv_at hl 1 rfl) ?_
    refine lv_iconst (v := 0) hx hb dX7_quiet_28 (by decide) ?_
    obtain ⟨u_2_0, u_2_1, u_2_2, u_2_3, u_2_4, u_2_5, u_2_6, u_2_7, u_2_8, hr_2⟩ := bEx9 (s_tellAtOnce nv nl6 nl8 nl9 nl10 nl11 nr6 nr8 nr9 nr10 nr11 1 0)
    rw [hr_2] at hu
    dsimp only at hu
    refine bVI (As := [.int 1, .int 0]) (rest := []) (wc := [(qQ, .inr (2, [.ref qQl, .ref qQr, .int nv])), (qQl, .inr (0, [.int nl0, .int nl1, .int nl2, .int nl3, .int nl4, .int nl5, .int nl6, .int nl7, .int nl8, .int nl9, .int nl10, .int nl11, .int (bB nlb)])), (qQr, .inr (0, [.int nr0, .int nr1, .int nr2, .int nr3, .int nr4, .int nr5, .int nr6, .int nr7, .int nr8, .int nr9, .int nr10, .int nr11, .int (bB nrb)]))]) (w1 := [(qQ, .inr (2, [.ref qQl, .ref qQr, .int nv])), (qQl, .inr (0, [.int nl0, .int nl1, .int nl2, .int nl3, .int nl4, .int nl5, .int nl6, .int nl7, .int u_2_1, .int u_2_2, .int u_2_3, .int u_2_4, .int (bB nlb)])), (qQr, .inr (0, [.int nr0, .int nr1, .int nr2, .int nr3, .int nr4, .int nr5, .int nr6, .int nr7, .int u_2_5, .int u_2_6, .int u_2_7, .int u_2_8, .int (bB nrb)]))]) (ws' := [(qM, .inr (7, [.ref qT, .ref qQ, .ref qR, .ref qD, .ref qN, .ref q1, .ref q2, .ref q3, .ref q4, .int ud])), (qN, .inr (5, [.ref qNp, .ref qNs, .ref qNz, .int nk])), (qNp, .inr (2, [.ref qNpl, .ref qNpr, .int nv])), (qNpl, .inr (0, [.int nl0, .int nl1, .int nl2, .int nl3, .int nl4, .int nl5, .int nl6, .int nl7, .int nl8, .int nl9, .int nl10, .int nl11, .int (bB nlb)])), (qNpr, .inr (0, [.int nr0, .int nr1, .int nr2, .int nr3, .int nr4, .int nr5, .int nr6, .int nr7, .int nr8, .int nr9, .int nr10, .int nr11, .int (bB nrb)])), (qR, .inr (1, [.int r0, .int r1, .int r2, .int r3, .int r4, .ref qRl, .ref qRr])), (qQ, .inr (2, [.ref qQl, .ref qQr, .int nv])), (qQl, .inr (0, [.int nl0, .int nl1, .int nl2, .int nl3, .int nl4, .int nl5, .int nl6, .int nl7, .int u_2_1, .int u_2_2, .int u_2_3, .int u_2_4, .int (bB nlb)])), (qQr, .inr (0, [.int nr0, .int nr1, .int nr2, .int nr3, .int nr4, .int nr5, .int nr6, .int nr7, .int u_2_5, .int u_2_6, .int u_2_7, .int u_2_8, .int (bB nrb)]))]) (ad := [qQ, qQl, qQr]) (wr := [(qM, .inr (7, [.ref qT, .ref qQ, .ref qR, .ref qD, .ref qN, .ref q1, .ref q2, .ref q3, .ref q4, .int ud])), (qN, .inr (5, [.ref qNp, .ref qNs, .ref qNz, .int nk])), (qNp, .inr (2, [.ref qNpl, .ref qNpr, .int nv])), (qNpl, .inr (0, [.int nl0, .int nl1, .int nl2, .int nl3, .int nl4, .int nl5, .int nl6, .int nl7, .int nl8, .int nl9, .int nl10, .int nl11, .int (bB nlb)])), (qNpr, .inr (0, [.int nr0, .int nr1, .int nr2, .int nr3, .int nr4, .int nr5, .int nr6, .int nr7, .int nr8, .int nr9, .int nr10, .int nr11, .int (bB nrb)])), (qR, .inr (1, [.int r0, .int r1, .int r2, .int r3, .int r4, .ref qRl, .ref qRr]))]) (nn := 9) (ci := 2) (q0 := 6) X Y (c_tellAtOnce l D cyC cyI qQ nv qQl nl0 nl1 nl2 nl3 nl4 nl5 nl6 nl7 nl8 nl9 nl10 nl11 nlb qQr nr0 nr1 nr2 nr3 nr4 nr5 nr6 nr7 nr8 nr9 nr10 nr11 nrb 1 0 u_2_0 u_2_1 u_2_2 u_2_3 u_2_4 u_2_5 u_2_6 u_2_7 u_2_8 hr_2) gX7_quiet_X2_tellAtOnce rfl ⟨rfl, rfl⟩ hd_X2_tellAtOnce ⟨(Nat.le_of_ble_eq_true rfl), (Nat.le_of_ble_eq_true rfl)⟩ rfl rfl rfl [6, 7, 8] [0, 1, 2, 3, 4, 5] rfl rfl rfl rfl rfl rfl rfl rfl (by decide) rfl rfl hl.1 (Nat.le_of_ble_eq_true rfl) ⟨Nat.zero_le _, Nat.zero_le _⟩ dX7_quiet_29 (fun H locs Y => ?_)
    refine lv_pop hx hb dX7_quiet_32 rfl ?_
    refine lv_aload_n hx hb dX7_quiet_33 rfl (lv_at hl 0 rfl) ?_
    refine bGet (v := .ref qQ) (T := TX7) (N := 10) (ci := 7) X Y i_X7_quiet_X7 0 rfl rfl 1 (Nat.le_of_ble_eq_true rfl) f_X7_quiet_19 rfl rfl dX7_quiet_34 ?_
    refine lv_iload_n hx hb dX7_quiet_37 rfl (lv_at hl 1 rfl) ?_
    refine bVR0 (As := [.int 1]) (rest := []) (wc := [(qQ, .inr (2, [.ref qQl, .ref qQr, .int nv]))]) (ci := 2) (q0 := 6) X Y (c_side1 l D cyC cyI qQ qQl qQr nv) gX7_quiet_X2_side rfl ⟨rfl, rfl⟩ hd_X2_side ⟨(Nat.le_of_ble_eq_true rfl), (Nat.le_of_ble_eq_true rfl)⟩ rfl rfl rfl [6] rfl rfl rfl rfl hl.1 (Nat.le_of_ble_eq_true rfl) ⟨Nat.zero_le _, Nat.zero_le _⟩ dX7_quiet_38 (fun H locs Y => ?_)
    refine lv_astore_n (lv' := [(2, .ref qQr), (0, .ref qM), (1, .int 1)]) hx hb dX7_quiet_41 rfl hl (by decide) rfl (fun ls hl => ?_)
    refine lv_iconst (v := 0) hx hb dX7_quiet_42 (by decide) ?_
    refine lv_istore_n (lv' := [(3, .int 0), (2, .ref qQr), (0, .ref qM), (1, .int 1)]) hx hb dX7_quiet_43 rfl hl (by decide) rfl (fun ls hl => ?_)
    exact lp_quiet_1 l D cyC cyI qM qT qQ qR qD qN q1 q2 q3 q4 ud nk qNp nv qNpl nl0 nl1 nl2 nl3 nl4 nl5 nl6 nl7 nl8 nl9 nl10 nl11 nlb qNpr nr0 nr1 nr2 nr3 nr4 nr5 nr6 nr7 nr8 nr9 nr10 nr11 nrb qNs qNz qRl qRr r0 r1 r2 r3 r4 tv qQl tl0 tl1 tl2 tl3 tl4 tl5 tl6 tl7 tl8 tl9 tl10 tl11 tlb qQr tr0 tr1 tr2 tr3 tr4 tr5 tr6 tr7 tr8 tr9 tr10 tr11 trb o0 o1 o2 o3 o4 o5 o6 o7 o8 o9 o10 o11 o12 o13 o14 o15 o16 o17 o18 o19 o20 o21 o22 o23 o24 o25 o26 o27 X hr hlk (61) 0 nl0 nl1 nl2 nl4 nl5 nl6 u_2_1 u_2_2 u_2_3 u_2_4 nlb nr0 nr1 nr2 nr4 nr5 nr6 u_2_5 u_2_6 u_2_7 u_2_8 nrb (by omega) (by omega) hu _ _ _ (lv_sub hl [2, 3, 1, 0] rfl) Y
  · have c_1 := bB_f c_1
    rw [if_neg c_1] at hu
    refine lv_iconst (v := (-1)) hx hb dX7_quiet_7 (by decide) ?_
    have h9 := (Prod.mk.inj hu).1; replace hu := (Prod.mk.inj hu).2; subst h9
    have h9 := (Prod.mk.inj hu).1; replace hu := (Prod.mk.inj hu).2; subst h9
    have h9 := (Prod.mk.inj hu).1; replace hu := (Prod.mk.inj hu).2; subst h9
    have h9 := (Prod.mk.inj hu).1; replace hu := (Prod.mk.inj hu).2; subst h9
    have h9 := (Prod.mk.inj hu).1; replace hu := (Prod.mk.inj hu).2; subst h9
    have h9 := (Prod.mk.inj hu).1; replace hu := (Prod.mk.inj hu).2; subst h9
    have h9 := (Prod.mk.inj hu).1; replace hu := (Prod.mk.inj hu).2; subst h9
    have h9 := (Prod.mk.inj hu).1; replace hu := (Prod.mk.inj hu).2; subst h9
    have h9 := (Prod.mk.inj hu).1; replace hu := (Prod.mk.inj hu).2; subst h9
    have h9 := (Prod.mk.inj hu).1; replace hu := (Prod.mk.inj hu).2; subst h9
    have h9 := (Prod.mk.inj hu).1; replace hu := (Prod.mk.inj hu).2; subst h9
    have h9 := (Prod.mk.inj hu).1; replace hu := (Prod.mk.inj hu).2; subst h9
    have h9 := (Prod.mk.inj hu).1; replace hu := (Prod.mk.inj hu).2; subst h9
    have h9 := (Prod.mk.inj hu).1; replace hu := (Prod.mk.inj hu).2; subst h9
    have h9 := (Prod.mk.inj hu).1; replace hu := (Prod.mk.inj hu).2; subst h9
    have h9 := (Prod.mk.inj hu).1; replace hu := (Prod.mk.inj hu).2; subst h9
    have h9 := (Prod.mk.inj hu).1; replace hu := (Prod.mk.inj hu).2; subst h9
    have h9 := (Prod.mk.inj hu).1; replace hu := (Prod.mk.inj hu).2; subst h9
    have h9 := (Prod.mk.inj hu).1; replace hu := (Prod.mk.inj hu).2; subst h9
    have h9 := (Prod.mk.inj hu).1; replace hu := (Prod.mk.inj hu).2; subst h9
    have h9 := (Prod.mk.inj hu).1; replace hu := (Prod.mk.inj hu).2; subst h9
    have h9 := (Prod.mk.inj hu).1; replace hu := (Prod.mk.inj hu).2; subst h9
    have h9 := (Prod.mk.inj hu).1; replace hu := (Prod.mk.inj hu).2; subst h9
    have h9 := (Prod.mk.inj hu).1; replace hu := (Prod.mk.inj hu).2; subst h9
    have h9 := (Prod.mk.inj hu).1; replace hu := (Prod.mk.inj hu).2; subst h9
    have h9 := (Prod.mk.inj hu).1; replace hu := (Prod.mk.inj hu).2; subst h9
    have h9 := (Prod.mk.inj hu).1; replace hu := (Prod.mk.inj hu).2; subst h9
    subst hu
    exact bEndI X Y hr hlk dX7_quiet_8 rfl rfl
def g_swingWithPause_1 (nv : Int32) (nl3 : Int32) (nl7 : Int32) (nr3 : Int32) (nr7 : Int32) (r0 : Int32) (r1 : Int32) (r2 : Int32) (r3 : Int32) (r4 : Int32) : Nat → Nat → Int32 → Int32 → Int32 → Int32 → Int32 → Int32 → Int32 → Int32 → Int32 → Int32 → Int32 → Bool → Int32 → Int32 → Int32 → Int32 → Int32 → Int32 → Int32 → Int32 → Int32 → Int32 → Bool → Int32 × Int32 × Int32 × Int32 × Int32 × Int32 × Int32 × Int32 × Int32 × Int32 × Int32 × Bool × Int32 × Int32 × Int32 × Int32 × Int32 × Int32 × Int32 × Int32 × Int32 × Int32 × Bool
  | 0, _, _, _, _, _, _, _, _, _, _, _, _, _, _, _, _, _, _, _, _, _, _, _, _ => (0, 0, 0, 0, 0, 0, 0, 0, 0, 0, 0, false, 0, 0, 0, 0, 0, 0, 0, 0, 0, 0, false)
  | n_ + 1, j, gr_, wl0, wl1, wl2, wl4, wl5, wl6, wl8, wl9, wl10, wl11, wlb, wr0, wr1, wr2, wr4, wr5, wr6, wr8, wr9, wr10, wr11, wrb =>
    if 60 < nI j then
      (gr_, wl0, wl1, wl2, wl4, wl5, wl6, wl8, wl9, wl10, wl11, wlb, wr0, wr1, wr2, wr4, wr5, wr6, wr8, wr9, wr10, wr11, wrb)
    else
      match s_pairGoOn nv wl0 wl1 wl2 nl3 wl4 wl5 wl6 nl7 wl8 wl9 wl10 wl11 wr0 wr1 wr2 nr3 wr4 wr5 wr6 nr7 wr8 wr9 wr10 wr11 r0 r1 r2 r3 r4 with
      | (u_2_0, u_2_1, u_2_2, u_2_3, u_2_4, u_2_5, u_2_6, u_2_7, u_2_8, u_2_9, u_2_10, u_2_11, u_2_12, u_2_13, u_2_14, u_2_15, u_2_16, u_2_17, u_2_18) =>
        if nI j < 21 then
          g_swingWithPause_1 nv nl3 nl7 nr3 nr7 r0 r1 r2 r3 r4 n_ (j + 1) gr_ u_2_1 u_2_2 u_2_3 u_2_4 u_2_5 u_2_6 (wl8 - 1) u_2_7 (wl10 - 1) u_2_8 u_2_9 u_2_10 u_2_11 u_2_12 u_2_13 u_2_14 u_2_15 (wr8 - 1) u_2_16 (wr10 - 1) u_2_17 u_2_18
        else
          g_swingWithPause_1 nv nl3 nl7 nr3 nr7 r0 r1 r2 r3 r4 n_ (j + 1) (if gr_ < (if 0 ≤ u_2_13 then u_2_13 else 0 - u_2_13) then (if 0 ≤ u_2_13 then u_2_13 else 0 - u_2_13) else gr_) u_2_1 u_2_2 u_2_3 u_2_4 u_2_5 u_2_6 (wl8 - 1) u_2_7 (wl10 - 1) u_2_8 u_2_9 u_2_10 u_2_11 u_2_12 u_2_13 u_2_14 u_2_15 (wr8 - 1) u_2_16 (wr10 - 1) u_2_17 u_2_18
def s_swingWithPause_1 (nv : Int32) (nl0 : Int32) (nl1 : Int32) (nl2 : Int32) (nl3 : Int32) (nl4 : Int32) (nl5 : Int32) (nl6 : Int32) (nl7 : Int32) (nl8 : Int32) (nl9 : Int32) (nl10 : Int32) (nl11 : Int32) (nlb : Bool) (nr0 : Int32) (nr1 : Int32) (nr2 : Int32) (nr3 : Int32) (nr4 : Int32) (nr5 : Int32) (nr6 : Int32) (nr7 : Int32) (nr8 : Int32) (nr9 : Int32) (nr10 : Int32) (nr11 : Int32) (nrb : Bool) (r0 : Int32) (r1 : Int32) (r2 : Int32) (r3 : Int32) (r4 : Int32) (w_ : Int32) (pa : Int32) : Int32 × Int32 × Int32 × Int32 × Int32 × Int32 × Int32 × Int32 × Int32 × Int32 × Int32 × Bool × Int32 × Int32 × Int32 × Int32 × Int32 × Int32 × Int32 × Int32 × Int32 × Int32 × Bool :=
  match s_tellByHalves nv nl2 nl6 nl8 nl9 nl10 nl11 nr2 nr6 nr8 nr9 nr10 nr11 1 w_ pa with
  | (u_1_0, u_1_1, u_1_2, u_1_3, u_1_4, u_1_5, u_1_6, u_1_7, u_1_8) =>
    g_swingWithPause_1 nv nl3 nl7 nr3 nr7 r0 r1 r2 r3 r4 (61) 1 0 nl0 nl1 nl2 nl4 nl5 nl6 u_1_1 u_1_2 u_1_3 u_1_4 nlb nr0 nr1 nr2 nr4 nr5 nr6 u_1_5 u_1_6 u_1_7 u_1_8 nrb
set_option maxHeartbeats 4000000 in
set_option maxRecDepth 100000 in
theorem lp_swingWithPause_1 {p_ : Program} {e_ : Env} {s_ : State} {m_ : MethodId} {bl_ : List Frame} {me_ : Method} {cd_ : Code} {A_ : Nat → Prop} (l : Launch) (D : va_G) (cyC cyI : ClassId) (qM : Nat) (qT : Nat) (qQ : Nat) (qR : Nat) (qD : Nat) (qN : Nat) (q1 : Nat) (q2 : Nat) (q3 : Nat) (q4 : Nat) (ud : Int32) (nk : Int32) (qNp : Nat) (nv : Int32) (qNpl : Nat) (nl0 : Int32) (nl1 : Int32) (nl2 : Int32) (nl3 : Int32) (nl4 : Int32) (nl5 : Int32) (nl6 : Int32) (nl7 : Int32) (nl8 : Int32) (nl9 : Int32) (nl10 : Int32) (nl11 : Int32) (nlb : Bool) (qNpr : Nat) (nr0 : Int32) (nr1 : Int32) (nr2 : Int32) (nr3 : Int32) (nr4 : Int32) (nr5 : Int32) (nr6 : Int32) (nr7 : Int32) (nr8 : Int32) (nr9 : Int32) (nr10 : Int32) (nr11 : Int32) (nrb : Bool) (qNs : Nat) (qNz : Nat) (qRl : Nat) (qRr : Nat) (r0 : Int32) (r1 : Int32) (r2 : Int32) (r3 : Int32) (r4 : Int32) (tv : Int32) (qQl : Nat) (tl0 : Int32) (tl1 : Int32) (tl2 : Int32) (tl3 : Int32) (tl4 : Int32) (tl5 : Int32) (tl6 : Int32) (tl7 : Int32) (tl8 : Int32) (tl9 : Int32) (tl10 : Int32) (tl11 : Int32) (tlb : Bool) (qQr : Nat) (tr0 : Int32) (tr1 : Int32) (tr2 : Int32) (tr3 : Int32) (tr4 : Int32) (tr5 : Int32) (tr6 : Int32) (tr7 : Int32) (tr8 : Int32) (tr9 : Int32) (tr10 : Int32) (tr11 : Int32) (trb : Bool) (w_ : Int32) (pa : Int32) (o0 : Int32) (o1 : Int32) (o2 : Int32) (o3 : Int32) (o4 : Int32) (o5 : Int32) (o6 : Int32) (o7 : Int32) (o8 : Int32) (o9 : Int32) (o10 : Int32) (o11 : Bool) (o12 : Int32) (o13 : Int32) (o14 : Int32) (o15 : Int32) (o16 : Int32) (o17 : Int32) (o18 : Int32) (o19 : Int32) (o20 : Int32) (o21 : Int32) (o22 : Bool) (X : bX p_ s_ m_ ([.ref qM, .int 1, .int w_, .int pa] : List Value).toArray cd_ cX7_swingWithPause 7 wsX7_swingWithPause yX7_swingWithPause.cls D cyC cyI) (hr : me_.sig.returnType = (some .int)) (hlk : me_.locks = false) : ∀ (n_ : Nat) (j : Nat) (gr_ : Int32) (wl0 : Int32) (wl1 : Int32) (wl2 : Int32) (wl4 : Int32) (wl5 : Int32) (wl6 : Int32) (wl8 : Int32) (wl9 : Int32) (wl10 : Int32) (wl11 : Int32) (wlb : Bool) (wr0 : Int32) (wr1 : Int32) (wr2 : Int32) (wr4 : Int32) (wr5 : Int32) (wr6 : Int32) (wr8 : Int32) (wr9 : Int32) (wr10 : Int32) (wr11 : Int32) (wrb : Bool) (hN : 62 ≤ j + n_) (hJ : j ≤ 61) (hu : g_swingWithPause_1 nv nl3 nl7 nr3 nr7 r0 r1 r2 r3 r4 n_ j gr_ wl0 wl1 wl2 wl4 wl5 wl6 wl8 wl9 wl10 wl11 wlb wr0 wr1 wr2 wr4 wr5 wr6 wr8 wr9 wr10 wr11 wrb = (o0, o1, o2, o3, o4, o5, o6, o7, o8, o9, o10, o11, o12, o13, o14, o15, o16, o17, o18, o19, o20, o21, o22)) (ls : Array Slot) (H : Heap) (locs : List Loc), lv_has ls 7 [(0, .ref qM), (1, .int 1), (2, .int w_), (3, .int pa), (4, .ref qQr), (5, .int gr_), (6, .int (nI j))] → bY D A_ s_.heap [(qM, .inr (7, [.ref qT, .ref qQ, .ref qR, .ref qD, .ref qN, .ref q1, .ref q2, .ref q3, .ref q4, .int ud])), (qN, .inr (5, [.ref qNp, .ref qNs, .ref qNz, .int nk])), (qNp, .inr (2, [.ref qNpl, .ref qNpr, .int nv])), (qNpl, .inr (0, [.int nl0, .int nl1, .int nl2, .int nl3, .int nl4, .int nl5, .int nl6, .int nl7, .int nl8, .int nl9, .int nl10, .int nl11, .int (bB nlb)])), (qNpr, .inr (0, [.int nr0, .int nr1, .int nr2, .int nr3, .int nr4, .int nr5, .int nr6, .int nr7, .int nr8, .int nr9, .int nr10, .int nr11, .int (bB nrb)])), (qR, .inr (1, [.int r0, .int r1, .int r2, .int r3, .int r4, .ref qRl, .ref qRr])), (qQ, .inr (2, [.ref qQl, .ref qQr, .int nv])), (qQl, .inr (0, [.int wl0, .int wl1, .int wl2, .int nl3, .int wl4, .int wl5, .int wl6, .int nl7, .int wl8, .int wl9, .int wl10, .int wl11, .int (bB wlb)])), (qQr, .inr (0, [.int wr0, .int wr1, .int wr2, .int nr3, .int wr4, .int wr5, .int wr6, .int nr7, .int wr8, .int wr9, .int wr10, .int wr11, .int (bB wrb)]))] H locs → W p_ l e_ ({ frames := 5, cells := 0, slots := 0, locals := 108 } : Room) s_ m_ ([.ref qM, .int 1, .int w_, .int pa] : List Value).toArray bl_ me_ cd_ H locs 0 0 (bQI bl_ ([.ref qM, .int 1, .int w_, .int pa] : List Value).toArray s_ D [(qM, .inr (7, [.ref qT, .ref qQ, .ref qR, .ref qD, .ref qN, .ref q1, .ref q2, .ref q3, .ref q4, .int ud])), (qN, .inr (5, [.ref qNp, .ref qNs, .ref qNz, .int nk])), (qNp, .inr (2, [.ref qNpl, .ref qNpr, .int nv])), (qNpl, .inr (0, [.int nl0, .int nl1, .int nl2, .int nl3, .int nl4, .int nl5, .int nl6, .int nl7, .int nl8, .int nl9, .int nl10, .int nl11, .int (bB nlb)])), (qNpr, .inr (0, [.int nr0, .int nr1, .int nr2, .int nr3, .int nr4, .int nr5, .int nr6, .int nr7, .int nr8, .int nr9, .int nr10, .int nr11, .int (bB nrb)])), (qR, .inr (1, [.int r0, .int r1, .int r2, .int r3, .int r4, .ref qRl, .ref qRr])), (qQ, .inr (2, [.ref qQl, .ref qQr, .int nv])), (qQl, .inr (0, [.int o1, .int o2, .int o3, .int nl3, .int o4, .int o5, .int o6, .int nl7, .int o7, .int o8, .int o9, .int o10, .int (bB o11)])), (qQr, .inr (0, [.int o12, .int o13, .int o14, .int nr3, .int o15, .int o16, .int o17, .int nr7, .int o18, .int o19, .int o20, .int o21, .int (bB o22)]))] o0 A_) (F0 m_ 41 ls []) := by
  intro n_
  induction n_ with
  | zero =>
    intro j gr_ wl0 wl1 wl2 wl4 wl5 wl6 wl8 wl9 wl10 wl11 wlb wr0 wr1 wr2 wr4 wr5 wr6 wr8 wr9 wr10 wr11 wrb hN hJ hu ls H locs hl Y
    exfalso; omega
  | succ n_ ih =>
    intro j gr_ wl0 wl1 wl2 wl4 wl5 wl6 wl8 wl9 wl10 wl11 wlb wr0 wr1 wr2 wr4 wr5 wr6 wr8 wr9 wr10 wr11 wrb hN hJ hu ls H locs hl Y
    have hx := X.1.1
    have hb := X.1.2.1
    rw [g_swingWithPause_1] at hu
    refine lv_iload hx hb dX7_swingWithPause_41 (lv_at hl 6 rfl) ?_
    refine lv_bipush (v := 60) hx hb dX7_swingWithPause_43 (by decide) ?_
    refine lv_icmp_gt (tgt := 88) hx hb dX7_swingWithPause_45 (by decide) (fun c_1 => ?_) (fun c_1 => ?_)
    · have c_1 : 60 < nI j := c_1
      rw [if_pos c_1] at hu
      refine lv_iload hx hb dX7_swingWithPause_88 (lv_at hl 5 rfl) ?_
      have h9 := (Prod.mk.inj hu).1; replace hu := (Prod.mk.inj hu).2; subst h9
      have h9 := (Prod.mk.inj hu).1; replace hu := (Prod.mk.inj hu).2; subst h9
      have h9 := (Prod.mk.inj hu).1; replace hu := (Prod.mk.inj hu).2; subst h9
      have h9 := (Prod.mk.inj hu).1; replace hu := (Prod.mk.inj hu).2; subst h9
      have h9 := (Prod.mk.inj hu).1; replace hu := (Prod.mk.inj hu).2; subst h9
      have h9 := (Prod.mk.inj hu).1; replace hu := (Prod.mk.inj hu).2; subst h9
      have h9 := (Prod.mk.inj hu).1; replace hu := (Prod.mk.inj hu).2; subst h9
      have h9 := (Prod.mk.inj hu).1; replace hu := (Prod.mk.inj hu).2; subst h9
      have h9 := (Prod.mk.inj hu).1; replace hu := (Prod.mk.inj hu).2; subst h9
      have h9 := (Prod.mk.inj hu).1; replace hu := (Prod.mk.inj hu).2; subst h9
      have h9 := (Prod.mk.inj hu).1; replace hu := (Prod.mk.inj hu).2; subst h9
      have h9 := (Prod.mk.inj hu).1; replace hu := (Prod.mk.inj hu).2; subst h9
      have h9 := (Prod.mk.inj hu).1; replace hu := (Prod.mk.inj hu).2; subst h9
      have h9 := (Prod.mk.inj hu).1; replace hu := (Prod.mk.inj hu).2; subst h9
      have h9 := (Prod.mk.inj hu).1; replace hu := (Prod.mk.inj hu).2; subst h9
      have h9 := (Prod.mk.inj hu).1; replace hu := (Prod.mk.inj hu).2; subst h9
      have h9 := (Prod.mk.inj hu).1; replace hu := (Prod.mk.inj hu).2; subst h9
      have h9 := (Prod.mk.inj hu).1; replace hu := (Prod.mk.inj hu).2; subst h9
      have h9 := (Prod.mk.inj hu).1; replace hu := (Prod.mk.inj hu).2; subst h9
      have h9 := (Prod.mk.inj hu).1; replace hu := (Prod.mk.inj hu).2; subst h9
      have h9 := (Prod.mk.inj hu).1; replace hu := (Prod.mk.inj hu).2; subst h9
      have h9 := (Prod.mk.inj hu).1; replace hu := (Prod.mk.inj hu).2; subst h9
      subst hu
      exact bEndI X Y hr hlk dX7_swingWithPause_90 rfl rfl
    · have c_1 : ¬ (60 < nI j) := c_1
      rw [if_neg c_1] at hu
      refine lv_aload_n hx hb dX7_swingWithPause_48 rfl (lv_at hl 0 rfl) ?_
      refine bGet (v := .ref qQ) (T := TX7) (N := 10) (ci := 7) X Y i_X7_swingWithPause_X7 0 rfl rfl 1 (Nat.le_of_ble_eq_true rfl) f_X7_swingWithPause_19 rfl rfl dX7_swingWithPause_49 ?_
      refine lv_aload_n hx hb dX7_swingWithPause_52 rfl (lv_at hl 0 rfl) ?_
      refine bGet (v := .ref qR) (T := TX7) (N := 10) (ci := 7) X Y i_X7_swingWithPause_X7 0 rfl rfl 2 (Nat.le_of_ble_eq_true rfl) f_X7_swingWithPause_26 rfl rfl dX7_swingWithPause_53 ?_
      obtain ⟨u_2_0, u_2_1, u_2_2, u_2_3, u_2_4, u_2_5, u_2_6, u_2_7, u_2_8, u_2_9, u_2_10, u_2_11, u_2_12, u_2_13, u_2_14, u_2_15, u_2_16, u_2_17, u_2_18, hr_2⟩ := bEx19 (s_pairGoOn nv wl0 wl1 wl2 nl3 wl4 wl5 wl6 nl7 wl8 wl9 wl10 wl11 wr0 wr1 wr2 nr3 wr4 wr5 wr6 nr7 wr8 wr9 wr10 wr11 r0 r1 r2 r3 r4)
      rw [hr_2] at hu
      dsimp only at hu
      refine bVI (As := [.ref qR]) (rest := []) (wc := [(qQ, .inr (2, [.ref qQl, .ref qQr, .int nv])), (qQl, .inr (0, [.int wl0, .int wl1, .int wl2, .int nl3, .int wl4, .int wl5, .int wl6, .int nl7, .int wl8, .int wl9, .int wl10, .int wl11, .int (bB wlb)])), (qQr, .inr (0, [.int wr0, .int wr1, .int wr2, .int nr3, .int wr4, .int wr5, .int wr6, .int nr7, .int wr8, .int wr9, .int wr10, .int wr11, .int (bB wrb)])), (qR, .inr (1, [.int r0, .int r1, .int r2, .int r3, .int r4, .ref qRl, .ref qRr]))]) (w1 := [(qQ, .inr (2, [.ref qQl, .ref qQr, .int nv])), (qQl, .inr (0, [.int u_2_1, .int u_2_2, .int u_2_3, .int nl3, .int u_2_4, .int u_2_5, .int u_2_6, .int nl7, .int (wl8 - 1), .int u_2_7, .int (wl10 - 1), .int u_2_8, .int (bB u_2_9)])), (qQr, .inr (0, [.int u_2_10, .int u_2_11, .int u_2_12, .int nr3, .int u_2_13, .int u_2_14, .int u_2_15, .int nr7, .int (wr8 - 1), .int u_2_16, .int (wr10 - 1), .int u_2_17, .int (bB u_2_18)])), (qR, .inr (1, [.int r0, .int r1, .int r2, .int r3, .int r4, .ref qRl, .ref qRr]))]) (ws' := [(qM, .inr (7, [.ref qT, .ref qQ, .ref qR, .ref qD, .ref qN, .ref q1, .ref q2, .ref q3, .ref q4, .int ud])), (qN, .inr (5, [.ref qNp, .ref qNs, .ref qNz, .int nk])), (qNp, .inr (2, [.ref qNpl, .ref qNpr, .int nv])), (qNpl, .inr (0, [.int nl0, .int nl1, .int nl2, .int nl3, .int nl4, .int nl5, .int nl6, .int nl7, .int nl8, .int nl9, .int nl10, .int nl11, .int (bB nlb)])), (qNpr, .inr (0, [.int nr0, .int nr1, .int nr2, .int nr3, .int nr4, .int nr5, .int nr6, .int nr7, .int nr8, .int nr9, .int nr10, .int nr11, .int (bB nrb)])), (qR, .inr (1, [.int r0, .int r1, .int r2, .int r3, .int r4, .ref qRl, .ref qRr])), (qQ, .inr (2, [.ref qQl, .ref qQr, .int nv])), (qQl, .inr (0, [.int u_2_1, .int u_2_2, .int u_2_3, .int nl3, .int u_2_4, .int u_2_5, .int u_2_6, .int nl7, .int (wl8 - 1), .int u_2_7, .int (wl10 - 1), .int u_2_8, .int (bB u_2_9)])), (qQr, .inr (0, [.int u_2_10, .int u_2_11, .int u_2_12, .int nr3, .int u_2_13, .int u_2_14, .int u_2_15, .int nr7, .int (wr8 - 1), .int u_2_16, .int (wr10 - 1), .int u_2_17, .int (bB u_2_18)]))]) (ad := [qQ, qQl, qQr, qR]) (wr := [(qM, .inr (7, [.ref qT, .ref qQ, .ref qR, .ref qD, .ref qN, .ref q1, .ref q2, .ref q3, .ref q4, .int ud])), (qN, .inr (5, [.ref qNp, .ref qNs, .ref qNz, .int nk])), (qNp, .inr (2, [.ref qNpl, .ref qNpr, .int nv])), (qNpl, .inr (0, [.int nl0, .int nl1, .int nl2, .int nl3, .int nl4, .int nl5, .int nl6, .int nl7, .int nl8, .int nl9, .int nl10, .int nl11, .int (bB nlb)])), (qNpr, .inr (0, [.int nr0, .int nr1, .int nr2, .int nr3, .int nr4, .int nr5, .int nr6, .int nr7, .int nr8, .int nr9, .int nr10, .int nr11, .int (bB nrb)]))]) (nn := 9) (ci := 2) (q0 := 6) X Y (c_pairGoOn l D cyC cyI qQ nv qQl wl0 wl1 wl2 nl3 wl4 wl5 wl6 nl7 wl8 wl9 wl10 wl11 wlb qQr wr0 wr1 wr2 nr3 wr4 wr5 wr6 nr7 wr8 wr9 wr10 wr11 wrb qR qRl qRr r0 r1 r2 r3 r4 u_2_0 u_2_1 u_2_2 u_2_3 u_2_4 u_2_5 u_2_6 u_2_7 u_2_8 u_2_9 u_2_10 u_2_11 u_2_12 u_2_13 u_2_14 u_2_15 u_2_16 u_2_17 u_2_18 hr_2) gX7_swingWithPause_X2_goOn rfl ⟨rfl, rfl⟩ hd_X2_goOn ⟨(Nat.le_of_ble_eq_true rfl), (Nat.le_of_ble_eq_true rfl)⟩ rfl rfl rfl [6, 7, 8, 5] [0, 1, 2, 3, 4] rfl rfl rfl rfl rfl rfl rfl rfl (by decide) rfl rfl hl.1 (Nat.le_of_ble_eq_true rfl) ⟨Nat.zero_le _, Nat.zero_le _⟩ dX7_swingWithPause_56 (fun H locs Y => ?_)
      refine lv_pop hx hb dX7_swingWithPause_59 rfl ?_
      refine lv_iload hx hb dX7_swingWithPause_60 (lv_at hl 6 rfl) ?_
      refine lv_bipush (v := 21) hx hb dX7_swingWithPause_62 (by decide) ?_
      refine lv_icmp_lt (tgt := 82) hx hb dX7_swingWithPause_64 (by decide) (fun c_3 => ?_) (fun c_3 => ?_)
      · have c_3 : nI j < 21 := c_3
        rw [if_pos c_3] at hu
        refine lv_iinc (v := nI (j + 1)) (lv' := [(6, .int (nI (j + 1))), (0, .ref qM), (1, .int 1), (2, .int w_), (3, .int pa), (4, .ref qQr), (5, .int gr_)]) hx hb dX7_swingWithPause_82 hl (k := 6) rfl (nI_inc _) (by decide) rfl (fun ls hl => ?_)
        refine lv_goto (tgt := 41) hx hb dX7_swingWithPause_85 (by decide) ?_
        exact ih (j + 1) gr_ u_2_1 u_2_2 u_2_3 u_2_4 u_2_5 u_2_6 (wl8 - 1) u_2_7 (wl10 - 1) u_2_8 u_2_9 u_2_10 u_2_11 u_2_12 u_2_13 u_2_14 u_2_15 (wr8 - 1) u_2_16 (wr10 - 1) u_2_17 u_2_18 (by omega) (by have h9 := bNlt (k := 60) rfl (by omega) (by decide) c_1; omega) hu _ _ _ (lv_sub hl [1, 2, 3, 4, 5, 6, 0] rfl) Y
      · have c_3 : ¬ (nI j < 21) := c_3
        rw [if_neg c_3] at hu
        refine lv_iload hx hb dX7_swingWithPause_67 (lv_at hl 5 rfl) ?_
        refine lv_aload hx hb dX7_swingWithPause_69 (lv_at hl 4 rfl) ?_
        refine bGet (v := .int u_2_13) (T := TX0) (N := 13) (ci := 0) X Y i_X7_swingWithPause_X0 8 rfl rfl 4 (Nat.le_of_ble_eq_true rfl) f_X7_swingWithPause_148 rfl rfl dX7_swingWithPause_71 ?_
        refine bAbs (v := (if 0 ≤ u_2_13 then u_2_13 else 0 - u_2_13)) X hl.1 m_X7_swingWithPause_209 ms_X7_swingWithPause_abs mi_X7_swingWithPause mc_X7_swingWithPause_abs (Nat.le_of_ble_eq_true rfl) (Nat.le_of_ble_eq_true rfl) ⟨Nat.zero_le _, Nat.zero_le _⟩ dX7_swingWithPause_74 rfl ?_
        refine bMax (v := (if gr_ < (if 0 ≤ u_2_13 then u_2_13 else 0 - u_2_13) then (if 0 ≤ u_2_13 then u_2_13 else 0 - u_2_13) else gr_)) X hl.1 m_X7_swingWithPause_214 ms_X7_swingWithPause_max mi_X7_swingWithPause mc_X7_swingWithPause_max (Nat.le_of_ble_eq_true rfl) (Nat.le_of_ble_eq_true rfl) ⟨Nat.zero_le _, Nat.zero_le _⟩ dX7_swingWithPause_77 rfl ?_
        refine lv_istore (lv' := [(5, .int (if gr_ < (if 0 ≤ u_2_13 then u_2_13 else 0 - u_2_13) then (if 0 ≤ u_2_13 then u_2_13 else 0 - u_2_13) else gr_)), (0, .ref qM), (1, .int 1), (2, .int w_), (3, .int pa), (4, .ref qQr), (6, .int (nI j))]) hx hb dX7_swingWithPause_80 hl (by decide) rfl (fun ls hl => ?_)
        refine lv_iinc (v := nI (j + 1)) (lv' := [(6, .int (nI (j + 1))), (5, .int (if gr_ < (if 0 ≤ u_2_13 then u_2_13 else 0 - u_2_13) then (if 0 ≤ u_2_13 then u_2_13 else 0 - u_2_13) else gr_)), (0, .ref qM), (1, .int 1), (2, .int w_), (3, .int pa), (4, .ref qQr)]) hx hb dX7_swingWithPause_82 hl (k := 6) rfl (nI_inc _) (by decide) rfl (fun ls hl => ?_)
        refine lv_goto (tgt := 41) hx hb dX7_swingWithPause_85 (by decide) ?_
        exact ih (j + 1) (if gr_ < (if 0 ≤ u_2_13 then u_2_13 else 0 - u_2_13) then (if 0 ≤ u_2_13 then u_2_13 else 0 - u_2_13) else gr_) u_2_1 u_2_2 u_2_3 u_2_4 u_2_5 u_2_6 (wl8 - 1) u_2_7 (wl10 - 1) u_2_8 u_2_9 u_2_10 u_2_11 u_2_12 u_2_13 u_2_14 u_2_15 (wr8 - 1) u_2_16 (wr10 - 1) u_2_17 u_2_18 (by omega) (by have h9 := bNlt (k := 60) rfl (by omega) (by decide) c_1; omega) hu _ _ _ (lv_sub hl [2, 3, 4, 5, 6, 1, 0] rfl) Y
set_option maxHeartbeats 4000000 in
set_option maxRecDepth 100000 in
theorem c_swingWithPause_1 (l : Launch) (D : va_G) (cyC cyI : ClassId) (qM : Nat) (qT : Nat) (qQ : Nat) (qR : Nat) (qD : Nat) (qN : Nat) (q1 : Nat) (q2 : Nat) (q3 : Nat) (q4 : Nat) (ud : Int32) (nk : Int32) (qNp : Nat) (nv : Int32) (qNpl : Nat) (nl0 : Int32) (nl1 : Int32) (nl2 : Int32) (nl3 : Int32) (nl4 : Int32) (nl5 : Int32) (nl6 : Int32) (nl7 : Int32) (nl8 : Int32) (nl9 : Int32) (nl10 : Int32) (nl11 : Int32) (nlb : Bool) (qNpr : Nat) (nr0 : Int32) (nr1 : Int32) (nr2 : Int32) (nr3 : Int32) (nr4 : Int32) (nr5 : Int32) (nr6 : Int32) (nr7 : Int32) (nr8 : Int32) (nr9 : Int32) (nr10 : Int32) (nr11 : Int32) (nrb : Bool) (qNs : Nat) (qNz : Nat) (qRl : Nat) (qRr : Nat) (r0 : Int32) (r1 : Int32) (r2 : Int32) (r3 : Int32) (r4 : Int32) (tv : Int32) (qQl : Nat) (tl0 : Int32) (tl1 : Int32) (tl2 : Int32) (tl3 : Int32) (tl4 : Int32) (tl5 : Int32) (tl6 : Int32) (tl7 : Int32) (tl8 : Int32) (tl9 : Int32) (tl10 : Int32) (tl11 : Int32) (tlb : Bool) (qQr : Nat) (tr0 : Int32) (tr1 : Int32) (tr2 : Int32) (tr3 : Int32) (tr4 : Int32) (tr5 : Int32) (tr6 : Int32) (tr7 : Int32) (tr8 : Int32) (tr9 : Int32) (tr10 : Int32) (tr11 : Int32) (trb : Bool) (w_ : Int32) (pa : Int32) (o0 : Int32) (o1 : Int32) (o2 : Int32) (o3 : Int32) (o4 : Int32) (o5 : Int32) (o6 : Int32) (o7 : Int32) (o8 : Int32) (o9 : Int32) (o10 : Int32) (o11 : Bool) (o12 : Int32) (o13 : Int32) (o14 : Int32) (o15 : Int32) (o16 : Int32) (o17 : Int32) (o18 : Int32) (o19 : Int32) (o20 : Int32) (o21 : Int32) (o22 : Bool) (hu : s_swingWithPause_1 nv nl0 nl1 nl2 nl3 nl4 nl5 nl6 nl7 nl8 nl9 nl10 nl11 nlb nr0 nr1 nr2 nr3 nr4 nr5 nr6 nr7 nr8 nr9 nr10 nr11 nrb r0 r1 r2 r3 r4 w_ pa = (o0, o1, o2, o3, o4, o5, o6, o7, o8, o9, o10, o11, o12, o13, o14, o15, o16, o17, o18, o19, o20, o21, o22)) : CI l yX7_swingWithPause wsX7_swingWithPause { frames := 5, cells := 0, slots := 0, locals := 108 } D cyC cyI [.ref qM, .int 1, .int w_, .int pa] [(qM, .inr (7, [.ref qT, .ref qQ, .ref qR, .ref qD, .ref qN, .ref q1, .ref q2, .ref q3, .ref q4, .int ud])), (qN, .inr (5, [.ref qNp, .ref qNs, .ref qNz, .int nk])), (qNp, .inr (2, [.ref qNpl, .ref qNpr, .int nv])), (qNpl, .inr (0, [.int nl0, .int nl1, .int nl2, .int nl3, .int nl4, .int nl5, .int nl6, .int nl7, .int nl8, .int nl9, .int nl10, .int nl11, .int (bB nlb)])), (qNpr, .inr (0, [.int nr0, .int nr1, .int nr2, .int nr3, .int nr4, .int nr5, .int nr6, .int nr7, .int nr8, .int nr9, .int nr10, .int nr11, .int (bB nrb)])), (qR, .inr (1, [.int r0, .int r1, .int r2, .int r3, .int r4, .ref qRl, .ref qRr])), (qQ, .inr (2, [.ref qQl, .ref qQr, .int tv])), (qQl, .inr (0, [.int tl0, .int tl1, .int tl2, .int tl3, .int tl4, .int tl5, .int tl6, .int tl7, .int tl8, .int tl9, .int tl10, .int tl11, .int (bB tlb)])), (qQr, .inr (0, [.int tr0, .int tr1, .int tr2, .int tr3, .int tr4, .int tr5, .int tr6, .int tr7, .int tr8, .int tr9, .int tr10, .int tr11, .int (bB trb)]))] o0 [(qM, .inr (7, [.ref qT, .ref qQ, .ref qR, .ref qD, .ref qN, .ref q1, .ref q2, .ref q3, .ref q4, .int ud])), (qN, .inr (5, [.ref qNp, .ref qNs, .ref qNz, .int nk])), (qNp, .inr (2, [.ref qNpl, .ref qNpr, .int nv])), (qNpl, .inr (0, [.int nl0, .int nl1, .int nl2, .int nl3, .int nl4, .int nl5, .int nl6, .int nl7, .int nl8, .int nl9, .int nl10, .int nl11, .int (bB nlb)])), (qNpr, .inr (0, [.int nr0, .int nr1, .int nr2, .int nr3, .int nr4, .int nr5, .int nr6, .int nr7, .int nr8, .int nr9, .int nr10, .int nr11, .int (bB nrb)])), (qR, .inr (1, [.int r0, .int r1, .int r2, .int r3, .int r4, .ref qRl, .ref qRr])), (qQ, .inr (2, [.ref qQl, .ref qQr, .int nv])), (qQl, .inr (0, [.int o1, .int o2, .int o3, .int nl3, .int o4, .int o5, .int o6, .int nl7, .int o7, .int o8, .int o9, .int o10, .int (bB o11)])), (qQr, .inr (0, [.int o12, .int o13, .int o14, .int nr3, .int o15, .int o16, .int o17, .int nr7, .int o18, .int o19, .int o20, .int o21, .int (bB o22)]))] := by
  refine CI.of (cc := cX7_swingWithPause) (n := 7) (ret := (some .int)) (by decide +kernel) rfl (Nat.le_of_ble_eq_true rfl) ?_
  intro p_ e_ s_ m_ bl_ me_ cd_ A_ ls X Y hr hlk hl
  have hx := X.1.1
  have hb := X.1.2.1
  have hl : lv_has ls 7 [(0, .ref qM), (1, .int 1), (2, .int w_), (3, .int pa)] := hl
  unfold s_swingWithPause_1 at hu
  refine lv_aload_n hx hb dX7_swingWithPause_0 rfl (lv_at hl 0 rfl) ?_
  refine bGet (v := .ref qQ) (T := TX7) (N := 10) (ci := 7) X Y i_X7_swingWithPause_X7 0 rfl rfl 1 (Nat.le_of_ble_eq_true rfl) f_X7_swingWithPause_19 rfl rfl dX7_swingWithPause_1 ?_
  refine lv_aload_n hx hb dX7_swingWithPause_4 rfl (lv_at hl 0 rfl) ?_
  refine bGet (v := .ref qN) (T := TX7) (N := 10) (ci := 7) X Y i_X7_swingWithPause_X7 0 rfl rfl 4 (Nat.le_of_ble_eq_true rfl) f_X7_swingWithPause_36 rfl rfl dX7_swingWithPause_5 ?_
  refine bGet (v := .ref qNp) (T := TX5) (N := 4) (ci := 5) X Y i_X7_swingWithPause_X5 1 rfl rfl 0 (Nat.le_of_ble_eq_true rfl) f_X7_swingWithPause_95 rfl rfl dX7_swingWithPause_8 ?_
  refine bVV (As := [.ref qNp]) (rest := []) (wc := [(qQ, .inr (2, [.ref qQl, .ref qQr, .int tv])), (qQl, .inr (0, [.int tl0, .int tl1, .int tl2, .int tl3, .int tl4, .int tl5, .int tl6, .int tl7, .int tl8, .int tl9, .int tl10, .int tl11, .int (bB tlb)])), (qQr, .inr (0, [.int tr0, .int tr1, .int tr2, .int tr3, .int tr4, .int tr5, .int tr6, .int tr7, .int tr8, .int tr9, .int tr10, .int tr11, .int (bB trb)])), (qNp, .inr (2, [.ref qNpl, .ref qNpr, .int nv])), (qNpl, .inr (0, [.int nl0, .int nl1, .int nl2, .int nl3, .int nl4, .int nl5, .int nl6, .int nl7, .int nl8, .int nl9, .int nl10, .int nl11, .int (bB nlb)])), (qNpr, .inr (0, [.int nr0, .int nr1, .int nr2, .int nr3, .int nr4, .int nr5, .int nr6, .int nr7, .int nr8, .int nr9, .int nr10, .int nr11, .int (bB nrb)]))]) (w1 := [(qQ, .inr (2, [.ref qQl, .ref qQr, .int nv])), (qQl, .inr (0, [.int nl0, .int nl1, .int nl2, .int nl3, .int nl4, .int nl5, .int nl6, .int nl7, .int nl8, .int nl9, .int nl10, .int nl11, .int (bB nlb)])), (qQr, .inr (0, [.int nr0, .int nr1, .int nr2, .int nr3, .int nr4, .int nr5, .int nr6, .int nr7, .int nr8, .int nr9, .int nr10, .int nr11, .int (bB nrb)])), (qNp, .inr (2, [.ref qNpl, .ref qNpr, .int nv])), (qNpl, .inr (0, [.int nl0, .int nl1, .int nl2, .int nl3, .int nl4, .int nl5, .int nl6, .int nl7, .int nl8, .int nl9, .int nl10, .int nl11, .int (bB nlb)])), (qNpr, .inr (0, [.int nr0, .int nr1, .int nr2, .int nr3, .int nr4, .int nr5, .int nr6, .int nr7, .int nr8, .int nr9, .int nr10, .int nr11, .int (bB nrb)]))]) (ws' := [(qM, .inr (7, [.ref qT, .ref qQ, .ref qR, .ref qD, .ref qN, .ref q1, .ref q2, .ref q3, .ref q4, .int ud])), (qN, .inr (5, [.ref qNp, .ref qNs, .ref qNz, .int nk])), (qNp, .inr (2, [.ref qNpl, .ref qNpr, .int nv])), (qNpl, .inr (0, [.int nl0, .int nl1, .int nl2, .int nl3, .int nl4, .int nl5, .int nl6, .int nl7, .int nl8, .int nl9, .int nl10, .int nl11, .int (bB nlb)])), (qNpr, .inr (0, [.int nr0, .int nr1, .int nr2, .int nr3, .int nr4, .int nr5, .int nr6, .int nr7, .int nr8, .int nr9, .int nr10, .int nr11, .int (bB nrb)])), (qR, .inr (1, [.int r0, .int r1, .int r2, .int r3, .int r4, .ref qRl, .ref qRr])), (qQ, .inr (2, [.ref qQl, .ref qQr, .int nv])), (qQl, .inr (0, [.int nl0, .int nl1, .int nl2, .int nl3, .int nl4, .int nl5, .int nl6, .int nl7, .int nl8, .int nl9, .int nl10, .int nl11, .int (bB nlb)])), (qQr, .inr (0, [.int nr0, .int nr1, .int nr2, .int nr3, .int nr4, .int nr5, .int nr6, .int nr7, .int nr8, .int nr9, .int nr10, .int nr11, .int (bB nrb)]))]) (ad := [qQ, qQl, qQr, qNp, qNpl, qNpr]) (wr := [(qM, .inr (7, [.ref qT, .ref qQ, .ref qR, .ref qD, .ref qN, .ref q1, .ref q2, .ref q3, .ref q4, .int ud])), (qN, .inr (5, [.ref qNp, .ref qNs, .ref qNz, .int nk])), (qR, .inr (1, [.int r0, .int r1, .int r2, .int r3, .int r4, .ref qRl, .ref qRr]))]) (nn := 9) (ci := 2) (q0 := 6) X Y (c_pairCopy l D cyC cyI qQ tv qQl tl0 tl1 tl2 tl3 tl4 tl5 tl6 tl7 tl8 tl9 tl10 tl11 tlb qQr tr0 tr1 tr2 tr3 tr4 tr5 tr6 tr7 tr8 tr9 tr10 tr11 trb qNp nv qNpl nl0 nl1 nl2 nl3 nl4 nl5 nl6 nl7 nl8 nl9 nl10 nl11 nlb qNpr nr0 nr1 nr2 nr3 nr4 nr5 nr6 nr7 nr8 nr9 nr10 nr11 nrb) gX7_swingWithPause_X2_copyFrom rfl ⟨rfl, rfl⟩ hd_X2_copyFrom ⟨(Nat.le_of_ble_eq_true rfl), (Nat.le_of_ble_eq_true rfl)⟩ rfl rfl rfl [6, 7, 8, 2, 3, 4] [0, 1, 5] rfl rfl rfl rfl rfl rfl rfl rfl (by decide) rfl rfl hl.1 (Nat.le_of_ble_eq_true rfl) ⟨Nat.zero_le _, Nat.zero_le _⟩ dX7_swingWithPause_11 (fun H locs Y => ?_)
  refine lv_aload_n hx hb dX7_swingWithPause_14 rfl (lv_at hl 0 rfl) ?_
  refine bGet (v := .ref qQ) (T := TX7) (N := 10) (ci := 7) X Y i_X7_swingWithPause_X7 0 rfl rfl 1 (Nat.le_of_ble_eq_true rfl) f_X7_swingWithPause_19 rfl rfl dX7_swingWithPause_15 ?_
  refine lv_iload_n hx hb dX7_swingWithPause_18 rfl (lv_at hl 1 rfl) ?_
  refine lv_iload_n hx hb dX7_swingWithPause_19 rfl (lv_at hl 2 rfl) ?_
  refine lv_iload_n hx hb dX7_swingWithPause_20 rfl (lv_at hl 3 rfl) ?_
  obtain ⟨u_1_0, u_1_1, u_1_2, u_1_3, u_1_4, u_1_5, u_1_6, u_1_7, u_1_8, hr_1⟩ := bEx9 (s_tellByHalves nv nl2 nl6 nl8 nl9 nl10 nl11 nr2 nr6 nr8 nr9 nr10 nr11 1 w_ pa)
  rw [hr_1] at hu
  dsimp only at hu
  refine bVI (As := [.int 1, .int w_, .int pa]) (rest := []) (wc := [(qQ, .inr (2, [.ref qQl, .ref qQr, .int nv])), (qQl, .inr (0, [.int nl0, .int nl1, .int nl2, .int nl3, .int nl4, .int nl5, .int nl6, .int nl7, .int nl8, .int nl9, .int nl10, .int nl11, .int (bB nlb)])), (qQr, .inr (0, [.int nr0, .int nr1, .int nr2, .int nr3, .int nr4, .int nr5, .int nr6, .int nr7, .int nr8, .int nr9, .int nr10, .int nr11, .int (bB nrb)]))]) (w1 := [(qQ, .inr (2, [.ref qQl, .ref qQr, .int nv])), (qQl, .inr (0, [.int nl0, .int nl1, .int nl2, .int nl3, .int nl4, .int nl5, .int nl6, .int nl7, .int u_1_1, .int u_1_2, .int u_1_3, .int u_1_4, .int (bB nlb)])), (qQr, .inr (0, [.int nr0, .int nr1, .int nr2, .int nr3, .int nr4, .int nr5, .int nr6, .int nr7, .int u_1_5, .int u_1_6, .int u_1_7, .int u_1_8, .int (bB nrb)]))]) (ws' := [(qM, .inr (7, [.ref qT, .ref qQ, .ref qR, .ref qD, .ref qN, .ref q1, .ref q2, .ref q3, .ref q4, .int ud])), (qN, .inr (5, [.ref qNp, .ref qNs, .ref qNz, .int nk])), (qNp, .inr (2, [.ref qNpl, .ref qNpr, .int nv])), (qNpl, .inr (0, [.int nl0, .int nl1, .int nl2, .int nl3, .int nl4, .int nl5, .int nl6, .int nl7, .int nl8, .int nl9, .int nl10, .int nl11, .int (bB nlb)])), (qNpr, .inr (0, [.int nr0, .int nr1, .int nr2, .int nr3, .int nr4, .int nr5, .int nr6, .int nr7, .int nr8, .int nr9, .int nr10, .int nr11, .int (bB nrb)])), (qR, .inr (1, [.int r0, .int r1, .int r2, .int r3, .int r4, .ref qRl, .ref qRr])), (qQ, .inr (2, [.ref qQl, .ref qQr, .int nv])), (qQl, .inr (0, [.int nl0, .int nl1, .int nl2, .int nl3, .int nl4, .int nl5, .int nl6, .int nl7, .int u_1_1, .int u_1_2, .int u_1_3, .int u_1_4, .int (bB nlb)])), (qQr, .inr (0, [.int nr0, .int nr1, .int nr2, .int nr3, .int nr4, .int nr5, .int nr6, .int nr7, .int u_1_5, .int u_1_6, .int u_1_7, .int u_1_8, .int (bB nrb)]))]) (ad := [qQ, qQl, qQr]) (wr := [(qM, .inr (7, [.ref qT, .ref qQ, .ref qR, .ref qD, .ref qN, .ref q1, .ref q2, .ref q3, .ref q4, .int ud])), (qN, .inr (5, [.ref qNp, .ref qNs, .ref qNz, .int nk])), (qNp, .inr (2, [.ref qNpl, .ref qNpr, .int nv])), (qNpl, .inr (0, [.int nl0, .int nl1, .int nl2, .int nl3, .int nl4, .int nl5, .int nl6, .int nl7, .int nl8, .int nl9, .int nl10, .int nl11, .int (bB nlb)])), (qNpr, .inr (0, [.int nr0, .int nr1, .int nr2, .int nr3, .int nr4, .int nr5, .int nr6, .int nr7, .int nr8, .int nr9, .int nr10, .int nr11, .int (bB nrb)])), (qR, .inr (1, [.int r0, .int r1, .int r2, .int r3, .int r4, .ref qRl, .ref qRr]))]) (nn := 9) (ci := 2) (q0 := 6) X Y (c_tellByHalves l D cyC cyI qQ nv qQl nl0 nl1 nl2 nl3 nl4 nl5 nl6 nl7 nl8 nl9 nl10 nl11 nlb qQr nr0 nr1 nr2 nr3 nr4 nr5 nr6 nr7 nr8 nr9 nr10 nr11 nrb 1 w_ pa u_1_0 u_1_1 u_1_2 u_1_3 u_1_4 u_1_5 u_1_6 u_1_7 u_1_8 hr_1) gX7_swingWithPause_X2_tellByHalves rfl ⟨rfl, rfl⟩ hd_X2_tellByHalves ⟨(Nat.le_of_ble_eq_true rfl), (Nat.le_of_ble_eq_true rfl)⟩ rfl rfl rfl [6, 7, 8] [0, 1, 2, 3, 4, 5] rfl rfl rfl rfl rfl rfl rfl rfl (by decide) rfl rfl hl.1 (Nat.le_of_ble_eq_true rfl) ⟨Nat.zero_le _, Nat.zero_le _⟩ dX7_swingWithPause_21 (fun H locs Y => ?_)
  refine lv_pop hx hb dX7_swingWithPause_24 rfl ?_
  refine lv_aload_n hx hb dX7_swingWithPause_25 rfl (lv_at hl 0 rfl) ?_
  refine bGet (v := .ref qQ) (T := TX7) (N := 10) (ci := 7) X Y i_X7_swingWithPause_X7 0 rfl rfl 1 (Nat.le_of_ble_eq_true rfl) f_X7_swingWithPause_19 rfl rfl dX7_swingWithPause_26 ?_
  refine lv_iload_n hx hb dX7_swingWithPause_29 rfl (lv_at hl 1 rfl) ?_
  refine bVR0 (As := [.int 1]) (rest := []) (wc := [(qQ, .inr (2, [.ref qQl, .ref qQr, .int nv]))]) (ci := 2) (q0 := 6) X Y (c_side1 l D cyC cyI qQ qQl qQr nv) gX7_swingWithPause_X2_side rfl ⟨rfl, rfl⟩ hd_X2_side ⟨(Nat.le_of_ble_eq_true rfl), (Nat.le_of_ble_eq_true rfl)⟩ rfl rfl rfl [6] rfl rfl rfl rfl hl.1 (Nat.le_of_ble_eq_true rfl) ⟨Nat.zero_le _, Nat.zero_le _⟩ dX7_swingWithPause_30 (fun H locs Y => ?_)
  refine lv_astore (lv' := [(4, .ref qQr), (0, .ref qM), (1, .int 1), (2, .int w_), (3, .int pa)]) hx hb dX7_swingWithPause_33 hl (by decide) rfl (fun ls hl => ?_)
  refine lv_iconst (v := 0) hx hb dX7_swingWithPause_35 (by decide) ?_
  refine lv_istore (lv' := [(5, .int 0), (4, .ref qQr), (0, .ref qM), (1, .int 1), (2, .int w_), (3, .int pa)]) hx hb dX7_swingWithPause_36 hl (by decide) rfl (fun ls hl => ?_)
  refine lv_iconst (v := 1) hx hb dX7_swingWithPause_38 (by decide) ?_
  refine lv_istore (lv' := [(6, .int 1), (5, .int 0), (4, .ref qQr), (0, .ref qM), (1, .int 1), (2, .int w_), (3, .int pa)]) hx hb dX7_swingWithPause_39 hl (by decide) rfl (fun ls hl => ?_)
  exact lp_swingWithPause_1 l D cyC cyI qM qT qQ qR qD qN q1 q2 q3 q4 ud nk qNp nv qNpl nl0 nl1 nl2 nl3 nl4 nl5 nl6 nl7 nl8 nl9 nl10 nl11 nlb qNpr nr0 nr1 nr2 nr3 nr4 nr5 nr6 nr7 nr8 nr9 nr10 nr11 nrb qNs qNz qRl qRr r0 r1 r2 r3 r4 tv qQl tl0 tl1 tl2 tl3 tl4 tl5 tl6 tl7 tl8 tl9 tl10 tl11 tlb qQr tr0 tr1 tr2 tr3 tr4 tr5 tr6 tr7 tr8 tr9 tr10 tr11 trb w_ pa o0 o1 o2 o3 o4 o5 o6 o7 o8 o9 o10 o11 o12 o13 o14 o15 o16 o17 o18 o19 o20 o21 o22 X hr hlk (61) 1 0 nl0 nl1 nl2 nl4 nl5 nl6 u_1_1 u_1_2 u_1_3 u_1_4 nlb nr0 nr1 nr2 nr4 nr5 nr6 u_1_5 u_1_6 u_1_7 u_1_8 nrb (by omega) (by omega) hu _ _ _ (lv_sub hl [3, 4, 5, 6, 2, 1, 0] rfl) Y
theorem hd_X7_swingWithPause : bD1 yX7_swingWithPause RX7 3 := by decide +kernel
def g_best_0 (nv : Int32) (nl0 : Int32) (nl1 : Int32) (nl2 : Int32) (nl3 : Int32) (nl4 : Int32) (nl5 : Int32) (nl6 : Int32) (nl7 : Int32) (nl8 : Int32) (nl9 : Int32) (nl10 : Int32) (nl11 : Int32) (nlb : Bool) (nr0 : Int32) (nr1 : Int32) (nr2 : Int32) (nr3 : Int32) (nr4 : Int32) (nr5 : Int32) (nr6 : Int32) (nr7 : Int32) (nr8 : Int32) (nr9 : Int32) (nr10 : Int32) (nr11 : Int32) (nrb : Bool) (r0 : Int32) (r1 : Int32) (r2 : Int32) (r3 : Int32) (r4 : Int32) (w_ : Int32) (what : Int32) : Nat → Nat → Int32 → Int32 → Int32 → Int32 → Int32 → Int32 → Int32 → Int32 → Int32 → Int32 → Int32 → Int32 → Bool → Int32 → Int32 → Int32 → Int32 → Int32 → Int32 → Int32 → Int32 → Int32 → Int32 → Bool → Int32 × Int32 × Int32 × Int32 × Int32 × Int32 × Int32 × Int32 × Int32 × Int32 × Int32 × Int32 × Int32 × Int32 × Bool × Int32 × Int32 × Int32 × Int32 × Int32 × Int32 × Int32 × Int32 × Int32 × Int32 × Int32 × Int32 × Bool
  | 0, _, _, _, _, _, _, _, _, _, _, _, _, _, _, _, _, _, _, _, _, _, _, _, _, _ => (0, 0, 0, 0, 0, 0, 0, 0, 0, 0, 0, 0, 0, 0, false, 0, 0, 0, 0, 0, 0, 0, 0, 0, 0, 0, 0, false)
  | n_ + 1, j, bp, lst, wl0, wl1, wl2, wl4, wl5, wl6, wl8, wl9, wl10, wl11, wlb, wr0, wr1, wr2, wr4, wr5, wr6, wr8, wr9, wr10, wr11, wrb =>
    if 20 < nI j then
      if what = 0 then
        (bp, nv, wl0, wl1, wl2, nl3, wl4, wl5, wl6, nl7, wl8, wl9, wl10, wl11, wlb, wr0, wr1, wr2, nr3, wr4, wr5, wr6, nr7, wr8, wr9, wr10, wr11, wrb)
      else
        (lst, nv, wl0, wl1, wl2, nl3, wl4, wl5, wl6, nl7, wl8, wl9, wl10, wl11, wlb, wr0, wr1, wr2, nr3, wr4, wr5, wr6, nr7, wr8, wr9, wr10, wr11, wrb)
    else
      match s_swingWithPause_0 nv nl0 nl1 nl2 nl3 nl4 nl5 nl6 nl7 nl8 nl9 nl10 nl11 nlb nr0 nr1 nr2 nr3 nr4 nr5 nr6 nr7 nr8 nr9 nr10 nr11 nrb r0 r1 r2 r3 r4 w_ (nI j) with
      | (u_3_0, u_3_1, u_3_2, u_3_3, u_3_4, u_3_5, u_3_6, u_3_7, u_3_8, u_3_9, u_3_10, u_3_11, u_3_12, u_3_13, u_3_14, u_3_15, u_3_16, u_3_17, u_3_18, u_3_19, u_3_20, u_3_21, u_3_22) =>
        if lst ≤ u_3_0 then
          g_best_0 nv nl0 nl1 nl2 nl3 nl4 nl5 nl6 nl7 nl8 nl9 nl10 nl11 nlb nr0 nr1 nr2 nr3 nr4 nr5 nr6 nr7 nr8 nr9 nr10 nr11 nrb r0 r1 r2 r3 r4 w_ what n_ (j + 1) bp lst u_3_1 u_3_2 u_3_3 u_3_4 u_3_5 u_3_6 u_3_7 u_3_8 u_3_9 u_3_10 u_3_11 u_3_12 u_3_13 u_3_14 u_3_15 u_3_16 u_3_17 u_3_18 u_3_19 u_3_20 u_3_21 u_3_22
        else
          g_best_0 nv nl0 nl1 nl2 nl3 nl4 nl5 nl6 nl7 nl8 nl9 nl10 nl11 nlb nr0 nr1 nr2 nr3 nr4 nr5 nr6 nr7 nr8 nr9 nr10 nr11 nrb r0 r1 r2 r3 r4 w_ what n_ (j + 1) (nI j) u_3_0 u_3_1 u_3_2 u_3_3 u_3_4 u_3_5 u_3_6 u_3_7 u_3_8 u_3_9 u_3_10 u_3_11 u_3_12 u_3_13 u_3_14 u_3_15 u_3_16 u_3_17 u_3_18 u_3_19 u_3_20 u_3_21 u_3_22
def s_best_0 (nv : Int32) (nl0 : Int32) (nl1 : Int32) (nl2 : Int32) (nl3 : Int32) (nl4 : Int32) (nl5 : Int32) (nl6 : Int32) (nl7 : Int32) (nl8 : Int32) (nl9 : Int32) (nl10 : Int32) (nl11 : Int32) (nlb : Bool) (nr0 : Int32) (nr1 : Int32) (nr2 : Int32) (nr3 : Int32) (nr4 : Int32) (nr5 : Int32) (nr6 : Int32) (nr7 : Int32) (nr8 : Int32) (nr9 : Int32) (nr10 : Int32) (nr11 : Int32) (nrb : Bool) (r0 : Int32) (r1 : Int32) (r2 : Int32) (r3 : Int32) (r4 : Int32) (tv : Int32) (tl0 : Int32) (tl1 : Int32) (tl2 : Int32) (tl3 : Int32) (tl4 : Int32) (tl5 : Int32) (tl6 : Int32) (tl7 : Int32) (tl8 : Int32) (tl9 : Int32) (tl10 : Int32) (tl11 : Int32) (tlb : Bool) (tr0 : Int32) (tr1 : Int32) (tr2 : Int32) (tr3 : Int32) (tr4 : Int32) (tr5 : Int32) (tr6 : Int32) (tr7 : Int32) (tr8 : Int32) (tr9 : Int32) (tr10 : Int32) (tr11 : Int32) (trb : Bool) (w_ : Int32) (what : Int32) : Int32 × Int32 × Int32 × Int32 × Int32 × Int32 × Int32 × Int32 × Int32 × Int32 × Int32 × Int32 × Int32 × Int32 × Bool × Int32 × Int32 × Int32 × Int32 × Int32 × Int32 × Int32 × Int32 × Int32 × Int32 × Int32 × Int32 × Bool :=
  if (s_isCrane 0) = true then
    if (s_isSpeed w_) = true then
      if (s_isWithin what 0 1) = true then
        match s_swingWithPause_0 nv nl0 nl1 nl2 nl3 nl4 nl5 nl6 nl7 nl8 nl9 nl10 nl11 nlb nr0 nr1 nr2 nr3 nr4 nr5 nr6 nr7 nr8 nr9 nr10 nr11 nrb r0 r1 r2 r3 r4 w_ 0 with
        | (u_4_0, u_4_1, u_4_2, u_4_3, u_4_4, u_4_5, u_4_6, u_4_7, u_4_8, u_4_9, u_4_10, u_4_11, u_4_12, u_4_13, u_4_14, u_4_15, u_4_16, u_4_17, u_4_18, u_4_19, u_4_20, u_4_21, u_4_22) =>
          g_best_0 nv nl0 nl1 nl2 nl3 nl4 nl5 nl6 nl7 nl8 nl9 nl10 nl11 nlb nr0 nr1 nr2 nr3 nr4 nr5 nr6 nr7 nr8 nr9 nr10 nr11 nrb r0 r1 r2 r3 r4 w_ what (21) 1 0 u_4_0 u_4_1 u_4_2 u_4_3 u_4_4 u_4_5 u_4_6 u_4_7 u_4_8 u_4_9 u_4_10 u_4_11 u_4_12 u_4_13 u_4_14 u_4_15 u_4_16 u_4_17 u_4_18 u_4_19 u_4_20 u_4_21 u_4_22
      else
        ((-1), tv, tl0, tl1, tl2, tl3, tl4, tl5, tl6, tl7, tl8, tl9, tl10, tl11, tlb, tr0, tr1, tr2, tr3, tr4, tr5, tr6, tr7, tr8, tr9, tr10, tr11, trb)
    else
      ((-1), tv, tl0, tl1, tl2, tl3, tl4, tl5, tl6, tl7, tl8, tl9, tl10, tl11, tlb, tr0, tr1, tr2, tr3, tr4, tr5, tr6, tr7, tr8, tr9, tr10, tr11, trb)
  else
    ((-1), tv, tl0, tl1, tl2, tl3, tl4, tl5, tl6, tl7, tl8, tl9, tl10, tl11, tlb, tr0, tr1, tr2, tr3, tr4, tr5, tr6, tr7, tr8, tr9, tr10, tr11, trb)
set_option maxHeartbeats 4000000 in
set_option maxRecDepth 100000 in
theorem lp_best_0 {p_ : Program} {e_ : Env} {s_ : State} {m_ : MethodId} {bl_ : List Frame} {me_ : Method} {cd_ : Code} {A_ : Nat → Prop} (l : Launch) (D : va_G) (cyC cyI : ClassId) (qM : Nat) (qT : Nat) (qQ : Nat) (qR : Nat) (qD : Nat) (qN : Nat) (q1 : Nat) (q2 : Nat) (q3 : Nat) (q4 : Nat) (ud : Int32) (nk : Int32) (qNp : Nat) (nv : Int32) (qNpl : Nat) (nl0 : Int32) (nl1 : Int32) (nl2 : Int32) (nl3 : Int32) (nl4 : Int32) (nl5 : Int32) (nl6 : Int32) (nl7 : Int32) (nl8 : Int32) (nl9 : Int32) (nl10 : Int32) (nl11 : Int32) (nlb : Bool) (qNpr : Nat) (nr0 : Int32) (nr1 : Int32) (nr2 : Int32) (nr3 : Int32) (nr4 : Int32) (nr5 : Int32) (nr6 : Int32) (nr7 : Int32) (nr8 : Int32) (nr9 : Int32) (nr10 : Int32) (nr11 : Int32) (nrb : Bool) (qNs : Nat) (qNz : Nat) (qRl : Nat) (qRr : Nat) (r0 : Int32) (r1 : Int32) (r2 : Int32) (r3 : Int32) (r4 : Int32) (tv : Int32) (qQl : Nat) (tl0 : Int32) (tl1 : Int32) (tl2 : Int32) (tl3 : Int32) (tl4 : Int32) (tl5 : Int32) (tl6 : Int32) (tl7 : Int32) (tl8 : Int32) (tl9 : Int32) (tl10 : Int32) (tl11 : Int32) (tlb : Bool) (qQr : Nat) (tr0 : Int32) (tr1 : Int32) (tr2 : Int32) (tr3 : Int32) (tr4 : Int32) (tr5 : Int32) (tr6 : Int32) (tr7 : Int32) (tr8 : Int32) (tr9 : Int32) (tr10 : Int32) (tr11 : Int32) (trb : Bool) (w_ : Int32) (what : Int32) (o0 : Int32) (o1 : Int32) (o2 : Int32) (o3 : Int32) (o4 : Int32) (o5 : Int32) (o6 : Int32) (o7 : Int32) (o8 : Int32) (o9 : Int32) (o10 : Int32) (o11 : Int32) (o12 : Int32) (o13 : Int32) (o14 : Bool) (o15 : Int32) (o16 : Int32) (o17 : Int32) (o18 : Int32) (o19 : Int32) (o20 : Int32) (o21 : Int32) (o22 : Int32) (o23 : Int32) (o24 : Int32) (o25 : Int32) (o26 : Int32) (o27 : Bool) (X : bX p_ s_ m_ ([.ref qM, .int 0, .int w_, .int what] : List Value).toArray cd_ cX7_best 8 wsX7_best yX7_best.cls D cyC cyI) (hr : me_.sig.returnType = (some .int)) (hlk : me_.locks = false) : ∀ (n_ : Nat) (j : Nat) (bp : Int32) (lst : Int32) (wl0 : Int32) (wl1 : Int32) (wl2 : Int32) (wl4 : Int32) (wl5 : Int32) (wl6 : Int32) (wl8 : Int32) (wl9 : Int32) (wl10 : Int32) (wl11 : Int32) (wlb : Bool) (wr0 : Int32) (wr1 : Int32) (wr2 : Int32) (wr4 : Int32) (wr5 : Int32) (wr6 : Int32) (wr8 : Int32) (wr9 : Int32) (wr10 : Int32) (wr11 : Int32) (wrb : Bool) (hN : 22 ≤ j + n_) (hJ : j ≤ 21) (hu : g_best_0 nv nl0 nl1 nl2 nl3 nl4 nl5 nl6 nl7 nl8 nl9 nl10 nl11 nlb nr0 nr1 nr2 nr3 nr4 nr5 nr6 nr7 nr8 nr9 nr10 nr11 nrb r0 r1 r2 r3 r4 w_ what n_ j bp lst wl0 wl1 wl2 wl4 wl5 wl6 wl8 wl9 wl10 wl11 wlb wr0 wr1 wr2 wr4 wr5 wr6 wr8 wr9 wr10 wr11 wrb = (o0, o1, o2, o3, o4, o5, o6, o7, o8, o9, o10, o11, o12, o13, o14, o15, o16, o17, o18, o19, o20, o21, o22, o23, o24, o25, o26, o27)) (ls : Array Slot) (H : Heap) (locs : List Loc), lv_has ls 8 [(0, .ref qM), (1, .int 0), (2, .int w_), (3, .int what), (4, .int bp), (5, .int lst), (6, .int (nI j))] → bY D A_ s_.heap [(qM, .inr (7, [.ref qT, .ref qQ, .ref qR, .ref qD, .ref qN, .ref q1, .ref q2, .ref q3, .ref q4, .int ud])), (qN, .inr (5, [.ref qNp, .ref qNs, .ref qNz, .int nk])), (qNp, .inr (2, [.ref qNpl, .ref qNpr, .int nv])), (qNpl, .inr (0, [.int nl0, .int nl1, .int nl2, .int nl3, .int nl4, .int nl5, .int nl6, .int nl7, .int nl8, .int nl9, .int nl10, .int nl11, .int (bB nlb)])), (qNpr, .inr (0, [.int nr0, .int nr1, .int nr2, .int nr3, .int nr4, .int nr5, .int nr6, .int nr7, .int nr8, .int nr9, .int nr10, .int nr11, .int (bB nrb)])), (qR, .inr (1, [.int r0, .int r1, .int r2, .int r3, .int r4, .ref qRl, .ref qRr])), (qQ, .inr (2, [.ref qQl, .ref qQr, .int nv])), (qQl, .inr (0, [.int wl0, .int wl1, .int wl2, .int nl3, .int wl4, .int wl5, .int wl6, .int nl7, .int wl8, .int wl9, .int wl10, .int wl11, .int (bB wlb)])), (qQr, .inr (0, [.int wr0, .int wr1, .int wr2, .int nr3, .int wr4, .int wr5, .int wr6, .int nr7, .int wr8, .int wr9, .int wr10, .int wr11, .int (bB wrb)]))] H locs → W p_ l e_ ({ frames := 6, cells := 0, slots := 0, locals := 134 } : Room) s_ m_ ([.ref qM, .int 0, .int w_, .int what] : List Value).toArray bl_ me_ cd_ H locs 0 0 (bQI bl_ ([.ref qM, .int 0, .int w_, .int what] : List Value).toArray s_ D [(qM, .inr (7, [.ref qT, .ref qQ, .ref qR, .ref qD, .ref qN, .ref q1, .ref q2, .ref q3, .ref q4, .int ud])), (qN, .inr (5, [.ref qNp, .ref qNs, .ref qNz, .int nk])), (qNp, .inr (2, [.ref qNpl, .ref qNpr, .int nv])), (qNpl, .inr (0, [.int nl0, .int nl1, .int nl2, .int nl3, .int nl4, .int nl5, .int nl6, .int nl7, .int nl8, .int nl9, .int nl10, .int nl11, .int (bB nlb)])), (qNpr, .inr (0, [.int nr0, .int nr1, .int nr2, .int nr3, .int nr4, .int nr5, .int nr6, .int nr7, .int nr8, .int nr9, .int nr10, .int nr11, .int (bB nrb)])), (qR, .inr (1, [.int r0, .int r1, .int r2, .int r3, .int r4, .ref qRl, .ref qRr])), (qQ, .inr (2, [.ref qQl, .ref qQr, .int o1])), (qQl, .inr (0, [.int o2, .int o3, .int o4, .int o5, .int o6, .int o7, .int o8, .int o9, .int o10, .int o11, .int o12, .int o13, .int (bB o14)])), (qQr, .inr (0, [.int o15, .int o16, .int o17, .int o18, .int o19, .int o20, .int o21, .int o22, .int o23, .int o24, .int o25, .int o26, .int (bB o27)]))] o0 A_) (F0 m_ 40 ls []) := by
  intro n_
  induction n_ with
  | zero =>
    intro j bp lst wl0 wl1 wl2 wl4 wl5 wl6 wl8 wl9 wl10 wl11 wlb wr0 wr1 wr2 wr4 wr5 wr6 wr8 wr9 wr10 wr11 wrb hN hJ hu ls H locs hl Y
    exfalso; omega
  | succ n_ ih =>
    intro j bp lst wl0 wl1 wl2 wl4 wl5 wl6 wl8 wl9 wl10 wl11 wlb wr0 wr1 wr2 wr4 wr5 wr6 wr8 wr9 wr10 wr11 wrb hN hJ hu ls H locs hl Y
    have hx := X.1.1
    have hb := X.1.2.1
    rw [g_best_0] at hu
    refine lv_iload hx hb dX7_best_40 (lv_at hl 6 rfl) ?_
    refine lv_bipush (v := 20) hx hb dX7_best_42 (by decide) ?_
    refine lv_icmp_gt (tgt := 78) hx hb dX7_best_44 (by decide) (fun c_1 => ?_) (fun c_1 => ?_)
    · have c_1 : 20 < nI j := c_1
      rw [if_pos c_1] at hu
      refine lv_iload_n hx hb dX7_best_78 rfl (lv_at hl 3 rfl) ?_
      refine lv_if_ne (tgt := 87) hx hb dX7_best_79 (by decide) (fun c_2 => ?_) (fun c_2 => ?_)
      · have c_2 : ¬ (what = 0) := c_2
        rw [if_neg c_2] at hu
        refine lv_iload hx hb dX7_best_87 (lv_at hl 5 rfl) ?_
        have h9 := (Prod.mk.inj hu).1; replace hu := (Prod.mk.inj hu).2; subst h9
        have h9 := (Prod.mk.inj hu).1; replace hu := (Prod.mk.inj hu).2; subst h9
        have h9 := (Prod.mk.inj hu).1; replace hu := (Prod.mk.inj hu).2; subst h9
        have h9 := (Prod.mk.inj hu).1; replace hu := (Prod.mk.inj hu).2; subst h9
        have h9 := (Prod.mk.inj hu).1; replace hu := (Prod.mk.inj hu).2; subst h9
        have h9 := (Prod.mk.inj hu).1; replace hu := (Prod.mk.inj hu).2; subst h9
        have h9 := (Prod.mk.inj hu).1; replace hu := (Prod.mk.inj hu).2; subst h9
        have h9 := (Prod.mk.inj hu).1; replace hu := (Prod.mk.inj hu).2; subst h9
        have h9 := (Prod.mk.inj hu).1; replace hu := (Prod.mk.inj hu).2; subst h9
        have h9 := (Prod.mk.inj hu).1; replace hu := (Prod.mk.inj hu).2; subst h9
        have h9 := (Prod.mk.inj hu).1; replace hu := (Prod.mk.inj hu).2; subst h9
        have h9 := (Prod.mk.inj hu).1; replace hu := (Prod.mk.inj hu).2; subst h9
        have h9 := (Prod.mk.inj hu).1; replace hu := (Prod.mk.inj hu).2; subst h9
        have h9 := (Prod.mk.inj hu).1; replace hu := (Prod.mk.inj hu).2; subst h9
        have h9 := (Prod.mk.inj hu).1; replace hu := (Prod.mk.inj hu).2; subst h9
        have h9 := (Prod.mk.inj hu).1; replace hu := (Prod.mk.inj hu).2; subst h9
        have h9 := (Prod.mk.inj hu).1; replace hu := (Prod.mk.inj hu).2; subst h9
        have h9 := (Prod.mk.inj hu).1; replace hu := (Prod.mk.inj hu).2; subst h9
        have h9 := (Prod.mk.inj hu).1; replace hu := (Prod.mk.inj hu).2; subst h9
        have h9 := (Prod.mk.inj hu).1; replace hu := (Prod.mk.inj hu).2; subst h9
        have h9 := (Prod.mk.inj hu).1; replace hu := (Prod.mk.inj hu).2; subst h9
        have h9 := (Prod.mk.inj hu).1; replace hu := (Prod.mk.inj hu).2; subst h9
        have h9 := (Prod.mk.inj hu).1; replace hu := (Prod.mk.inj hu).2; subst h9
        have h9 := (Prod.mk.inj hu).1; replace hu := (Prod.mk.inj hu).2; subst h9
        have h9 := (Prod.mk.inj hu).1; replace hu := (Prod.mk.inj hu).2; subst h9
        have h9 := (Prod.mk.inj hu).1; replace hu := (Prod.mk.inj hu).2; subst h9
        have h9 := (Prod.mk.inj hu).1; replace hu := (Prod.mk.inj hu).2; subst h9
        subst hu
        exact bEndI X Y hr hlk dX7_best_89 rfl rfl
      · have c_2 : what = 0 := c_2
        rw [if_pos c_2] at hu
        refine lv_iload hx hb dX7_best_82 (lv_at hl 4 rfl) ?_
        refine lv_goto (tgt := 89) hx hb dX7_best_84 (by decide) ?_
        have h9 := (Prod.mk.inj hu).1; replace hu := (Prod.mk.inj hu).2; subst h9
        have h9 := (Prod.mk.inj hu).1; replace hu := (Prod.mk.inj hu).2; subst h9
        have h9 := (Prod.mk.inj hu).1; replace hu := (Prod.mk.inj hu).2; subst h9
        have h9 := (Prod.mk.inj hu).1; replace hu := (Prod.mk.inj hu).2; subst h9
        have h9 := (Prod.mk.inj hu).1; replace hu := (Prod.mk.inj hu).2; subst h9
        have h9 := (Prod.mk.inj hu).1; replace hu := (Prod.mk.inj hu).2; subst h9
        have h9 := (Prod.mk.inj hu).1; replace hu := (Prod.mk.inj hu).2; subst h9
        have h9 := (Prod.mk.inj hu).1; replace hu := (Prod.mk.inj hu).2; subst h9
        have h9 := (Prod.mk.inj hu).1; replace hu := (Prod.mk.inj hu).2; subst h9
        have h9 := (Prod.mk.inj hu).1; replace hu := (Prod.mk.inj hu).2; subst h9
        have h9 := (Prod.mk.inj hu).1; replace hu := (Prod.mk.inj hu).2; subst h9
        have h9 := (Prod.mk.inj hu).1; replace hu := (Prod.mk.inj hu).2; subst h9
        have h9 := (Prod.mk.inj hu).1; replace hu := (Prod.mk.inj hu).2; subst h9
        have h9 := (Prod.mk.inj hu).1; replace hu := (Prod.mk.inj hu).2; subst h9
        have h9 := (Prod.mk.inj hu).1; replace hu := (Prod.mk.inj hu).2; subst h9
        have h9 := (Prod.mk.inj hu).1; replace hu := (Prod.mk.inj hu).2; subst h9
        have h9 := (Prod.mk.inj hu).1; replace hu := (Prod.mk.inj hu).2; subst h9
        have h9 := (Prod.mk.inj hu).1; replace hu := (Prod.mk.inj hu).2; subst h9
        have h9 := (Prod.mk.inj hu).1; replace hu := (Prod.mk.inj hu).2; subst h9
        have h9 := (Prod.mk.inj hu).1; replace hu := (Prod.mk.inj hu).2; subst h9
        have h9 := (Prod.mk.inj hu).1; replace hu := (Prod.mk.inj hu).2; subst h9
        have h9 := (Prod.mk.inj hu).1; replace hu := (Prod.mk.inj hu).2; subst h9
        have h9 := (Prod.mk.inj hu).1; replace hu := (Prod.mk.inj hu).2; subst h9
        have h9 := (Prod.mk.inj hu).1; replace hu := (Prod.mk.inj hu).2; subst h9
        have h9 := (Prod.mk.inj hu).1; replace hu := (Prod.mk.inj hu).2; subst h9
        have h9 := (Prod.mk.inj hu).1; replace hu := (Prod.mk.inj hu).2; subst h9
        have h9 := (Prod.mk.inj hu).1; replace hu := (Prod.mk.inj hu).2; subst h9
        subst hu
        exact bEndI X Y hr hlk dX7_best_89 rfl rfl
    · have c_1 : ¬ (20 < nI j) := c_1
      rw [if_neg c_1] at hu
      refine lv_aload_n hx hb dX7_best_47 rfl (lv_at hl 0 rfl) ?_
      refine lv_iload_n hx hb dX7_best_48 rfl (lv_at hl 1 rfl) ?_
      refine lv_iload_n hx hb dX7_best_49 rfl (lv_at hl 2 rfl) ?_
      refine lv_iload hx hb dX7_best_50 (lv_at hl 6 rfl) ?_
      obtain ⟨u_3_0, u_3_1, u_3_2, u_3_3, u_3_4, u_3_5, u_3_6, u_3_7, u_3_8, u_3_9, u_3_10, u_3_11, u_3_12, u_3_13, u_3_14, u_3_15, u_3_16, u_3_17, u_3_18, u_3_19, u_3_20, u_3_21, u_3_22, hr_3⟩ := bEx23 (s_swingWithPause_0 nv nl0 nl1 nl2 nl3 nl4 nl5 nl6 nl7 nl8 nl9 nl10 nl11 nlb nr0 nr1 nr2 nr3 nr4 nr5 nr6 nr7 nr8 nr9 nr10 nr11 nrb r0 r1 r2 r3 r4 w_ (nI j))
      rw [hr_3] at hu
      dsimp only at hu
      refine bVI (As := [.int 0, .int w_, .int (nI j)]) (rest := []) (wc := [(qM, .inr (7, [.ref qT, .ref qQ, .ref qR, .ref qD, .ref qN, .ref q1, .ref q2, .ref q3, .ref q4, .int ud])), (qN, .inr (5, [.ref qNp, .ref qNs, .ref qNz, .int nk])), (qNp, .inr (2, [.ref qNpl, .ref qNpr, .int nv])), (qNpl, .inr (0, [.int nl0, .int nl1, .int nl2, .int nl3, .int nl4, .int nl5, .int nl6, .int nl7, .int nl8, .int nl9, .int nl10, .int nl11, .int (bB nlb)])), (qNpr, .inr (0, [.int nr0, .int nr1, .int nr2, .int nr3, .int nr4, .int nr5, .int nr6, .int nr7, .int nr8, .int nr9, .int nr10, .int nr11, .int (bB nrb)])), (qR, .inr (1, [.int r0, .int r1, .int r2, .int r3, .int r4, .ref qRl, .ref qRr])), (qQ, .inr (2, [.ref qQl, .ref qQr, .int nv])), (qQl, .inr (0, [.int wl0, .int wl1, .int wl2, .int nl3, .int wl4, .int wl5, .int wl6, .int nl7, .int wl8, .int wl9, .int wl10, .int wl11, .int (bB wlb)])), (qQr, .inr (0, [.int wr0, .int wr1, .int wr2, .int nr3, .int wr4, .int wr5, .int wr6, .int nr7, .int wr8, .int wr9, .int wr10, .int wr11, .int (bB wrb)]))]) (w1 := [(qM, .inr (7, [.ref qT, .ref qQ, .ref qR, .ref qD, .ref qN, .ref q1, .ref q2, .ref q3, .ref q4, .int ud])), (qN, .inr (5, [.ref qNp, .ref qNs, .ref qNz, .int nk])), (qNp, .inr (2, [.ref qNpl, .ref qNpr, .int nv])), (qNpl, .inr (0, [.int nl0, .int nl1, .int nl2, .int nl3, .int nl4, .int nl5, .int nl6, .int nl7, .int nl8, .int nl9, .int nl10, .int nl11, .int (bB nlb)])), (qNpr, .inr (0, [.int nr0, .int nr1, .int nr2, .int nr3, .int nr4, .int nr5, .int nr6, .int nr7, .int nr8, .int nr9, .int nr10, .int nr11, .int (bB nrb)])), (qR, .inr (1, [.int r0, .int r1, .int r2, .int r3, .int r4, .ref qRl, .ref qRr])), (qQ, .inr (2, [.ref qQl, .ref qQr, .int nv])), (qQl, .inr (0, [.int u_3_1, .int u_3_2, .int u_3_3, .int nl3, .int u_3_4, .int u_3_5, .int u_3_6, .int nl7, .int u_3_7, .int u_3_8, .int u_3_9, .int u_3_10, .int (bB u_3_11)])), (qQr, .inr (0, [.int u_3_12, .int u_3_13, .int u_3_14, .int nr3, .int u_3_15, .int u_3_16, .int u_3_17, .int nr7, .int u_3_18, .int u_3_19, .int u_3_20, .int u_3_21, .int (bB u_3_22)]))]) (ws' := [(qM, .inr (7, [.ref qT, .ref qQ, .ref qR, .ref qD, .ref qN, .ref q1, .ref q2, .ref q3, .ref q4, .int ud])), (qN, .inr (5, [.ref qNp, .ref qNs, .ref qNz, .int nk])), (qNp, .inr (2, [.ref qNpl, .ref qNpr, .int nv])), (qNpl, .inr (0, [.int nl0, .int nl1, .int nl2, .int nl3, .int nl4, .int nl5, .int nl6, .int nl7, .int nl8, .int nl9, .int nl10, .int nl11, .int (bB nlb)])), (qNpr, .inr (0, [.int nr0, .int nr1, .int nr2, .int nr3, .int nr4, .int nr5, .int nr6, .int nr7, .int nr8, .int nr9, .int nr10, .int nr11, .int (bB nrb)])), (qR, .inr (1, [.int r0, .int r1, .int r2, .int r3, .int r4, .ref qRl, .ref qRr])), (qQ, .inr (2, [.ref qQl, .ref qQr, .int nv])), (qQl, .inr (0, [.int u_3_1, .int u_3_2, .int u_3_3, .int nl3, .int u_3_4, .int u_3_5, .int u_3_6, .int nl7, .int u_3_7, .int u_3_8, .int u_3_9, .int u_3_10, .int (bB u_3_11)])), (qQr, .inr (0, [.int u_3_12, .int u_3_13, .int u_3_14, .int nr3, .int u_3_15, .int u_3_16, .int u_3_17, .int nr7, .int u_3_18, .int u_3_19, .int u_3_20, .int u_3_21, .int (bB u_3_22)]))]) (ad := [qM, qN, qNp, qNpl, qNpr, qR, qQ, qQl, qQr]) (wr := []) (nn := 9) (ci := 7) (q0 := 0) X Y (c_swingWithPause_0 l D cyC cyI qM qT qQ qR qD qN q1 q2 q3 q4 ud nk qNp nv qNpl nl0 nl1 nl2 nl3 nl4 nl5 nl6 nl7 nl8 nl9 nl10 nl11 nlb qNpr nr0 nr1 nr2 nr3 nr4 nr5 nr6 nr7 nr8 nr9 nr10 nr11 nrb qNs qNz qRl qRr r0 r1 r2 r3 r4 nv qQl wl0 wl1 wl2 nl3 wl4 wl5 wl6 nl7 wl8 wl9 wl10 wl11 wlb qQr wr0 wr1 wr2 nr3 wr4 wr5 wr6 nr7 wr8 wr9 wr10 wr11 wrb w_ (nI j) u_3_0 u_3_1 u_3_2 u_3_3 u_3_4 u_3_5 u_3_6 u_3_7 u_3_8 u_3_9 u_3_10 u_3_11 u_3_12 u_3_13 u_3_14 u_3_15 u_3_16 u_3_17 u_3_18 u_3_19 u_3_20 u_3_21 u_3_22 hr_3) gX7_best_X7_swingWithPause rfl ⟨rfl, rfl⟩ hd_X7_swingWithPause ⟨(Nat.le_of_ble_eq_true rfl), (Nat.le_of_ble_eq_true rfl)⟩ rfl rfl rfl [0, 1, 2, 3, 4, 5, 6, 7, 8] [] rfl rfl rfl rfl rfl rfl rfl rfl (by decide) rfl rfl hl.1 (Nat.le_of_ble_eq_true rfl) ⟨Nat.zero_le _, Nat.zero_le _⟩ dX7_best_52 (fun H locs Y => ?_)
      refine lv_istore (lv' := [(7, .int u_3_0), (0, .ref qM), (1, .int 0), (2, .int w_), (3, .int what), (4, .int bp), (5, .int lst), (6, .int (nI j))]) hx hb dX7_best_55 hl (by decide) rfl (fun ls hl => ?_)
      refine lv_iload hx hb dX7_best_57 (lv_at hl 0 rfl) ?_
      refine lv_iload hx hb dX7_best_59 (lv_at hl 6 rfl) ?_
      refine lv_icmp_ge (tgt := 72) hx hb dX7_best_61 (by decide) (fun c_4 => ?_) (fun c_4 => ?_)
      · have c_4 : lst ≤ u_3_0 := c_4
        rw [if_pos c_4] at hu
        refine lv_iinc (v := nI (j + 1)) (lv' := [(6, .int (nI (j + 1))), (7, .int u_3_0), (0, .ref qM), (1, .int 0), (2, .int w_), (3, .int what), (4, .int bp), (5, .int lst)]) hx hb dX7_best_72 hl (k := 7) rfl (nI_inc _) (by decide) rfl (fun ls hl => ?_)
        refine lv_goto (tgt := 40) hx hb dX7_best_75 (by decide) ?_
        exact ih (j + 1) bp lst u_3_1 u_3_2 u_3_3 u_3_4 u_3_5 u_3_6 u_3_7 u_3_8 u_3_9 u_3_10 u_3_11 u_3_12 u_3_13 u_3_14 u_3_15 u_3_16 u_3_17 u_3_18 u_3_19 u_3_20 u_3_21 u_3_22 (by omega) (by have h9 := bNlt (k := 20) rfl (by omega) (by decide) c_1; omega) hu _ _ _ (lv_sub hl [2, 3, 4, 5, 6, 7, 0] rfl) Y
      · have c_4 : ¬ (lst ≤ u_3_0) := c_4
        rw [if_neg c_4] at hu
        refine lv_iload hx hb dX7_best_64 (lv_at hl 0 rfl) ?_
        refine lv_istore (lv' := [(5, .int u_3_0), (7, .int u_3_0), (0, .ref qM), (1, .int 0), (2, .int w_), (3, .int what), (4, .int bp), (6, .int (nI j))]) hx hb dX7_best_66 hl (by decide) rfl (fun ls hl => ?_)
        refine lv_iload hx hb dX7_best_68 (lv_at hl 7 rfl) ?_
        refine lv_istore (lv' := [(4, .int (nI j)), (5, .int u_3_0), (7, .int u_3_0), (0, .ref qM), (1, .int 0), (2, .int w_), (3, .int what), (6, .int (nI j))]) hx hb dX7_best_70 hl (by decide) rfl (fun ls hl => ?_)
        refine lv_iinc (v := nI (j + 1)) (lv' := [(6, .int (nI (j + 1))), (4, .int (nI j)), (5, .int u_3_0), (7, .int u_3_0), (0, .ref qM), (1, .int 0), (2, .int w_), (3, .int what)]) hx hb dX7_best_72 hl (k := 7) rfl (nI_inc _) (by decide) rfl (fun ls hl => ?_)
        refine lv_goto (tgt := 40) hx hb dX7_best_75 (by decide) ?_
        exact ih (j + 1) (nI j) u_3_0 u_3_1 u_3_2 u_3_3 u_3_4 u_3_5 u_3_6 u_3_7 u_3_8 u_3_9 u_3_10 u_3_11 u_3_12 u_3_13 u_3_14 u_3_15 u_3_16 u_3_17 u_3_18 u_3_19 u_3_20 u_3_21 u_3_22 (by omega) (by have h9 := bNlt (k := 20) rfl (by omega) (by decide) c_1; omega) hu _ _ _ (lv_sub hl [4, 5, 6, 7, 1, 2, 0] rfl) Y
set_option maxHeartbeats 4000000 in
set_option maxRecDepth 100000 in
theorem c_best_0 (l : Launch) (D : va_G) (cyC cyI : ClassId) (qM : Nat) (qT : Nat) (qQ : Nat) (qR : Nat) (qD : Nat) (qN : Nat) (q1 : Nat) (q2 : Nat) (q3 : Nat) (q4 : Nat) (ud : Int32) (nk : Int32) (qNp : Nat) (nv : Int32) (qNpl : Nat) (nl0 : Int32) (nl1 : Int32) (nl2 : Int32) (nl3 : Int32) (nl4 : Int32) (nl5 : Int32) (nl6 : Int32) (nl7 : Int32) (nl8 : Int32) (nl9 : Int32) (nl10 : Int32) (nl11 : Int32) (nlb : Bool) (qNpr : Nat) (nr0 : Int32) (nr1 : Int32) (nr2 : Int32) (nr3 : Int32) (nr4 : Int32) (nr5 : Int32) (nr6 : Int32) (nr7 : Int32) (nr8 : Int32) (nr9 : Int32) (nr10 : Int32) (nr11 : Int32) (nrb : Bool) (qNs : Nat) (qNz : Nat) (qRl : Nat) (qRr : Nat) (r0 : Int32) (r1 : Int32) (r2 : Int32) (r3 : Int32) (r4 : Int32) (tv : Int32) (qQl : Nat) (tl0 : Int32) (tl1 : Int32) (tl2 : Int32) (tl3 : Int32) (tl4 : Int32) (tl5 : Int32) (tl6 : Int32) (tl7 : Int32) (tl8 : Int32) (tl9 : Int32) (tl10 : Int32) (tl11 : Int32) (tlb : Bool) (qQr : Nat) (tr0 : Int32) (tr1 : Int32) (tr2 : Int32) (tr3 : Int32) (tr4 : Int32) (tr5 : Int32) (tr6 : Int32) (tr7 : Int32) (tr8 : Int32) (tr9 : Int32) (tr10 : Int32) (tr11 : Int32) (trb : Bool) (w_ : Int32) (what : Int32) (o0 : Int32) (o1 : Int32) (o2 : Int32) (o3 : Int32) (o4 : Int32) (o5 : Int32) (o6 : Int32) (o7 : Int32) (o8 : Int32) (o9 : Int32) (o10 : Int32) (o11 : Int32) (o12 : Int32) (o13 : Int32) (o14 : Bool) (o15 : Int32) (o16 : Int32) (o17 : Int32) (o18 : Int32) (o19 : Int32) (o20 : Int32) (o21 : Int32) (o22 : Int32) (o23 : Int32) (o24 : Int32) (o25 : Int32) (o26 : Int32) (o27 : Bool) (hu : s_best_0 nv nl0 nl1 nl2 nl3 nl4 nl5 nl6 nl7 nl8 nl9 nl10 nl11 nlb nr0 nr1 nr2 nr3 nr4 nr5 nr6 nr7 nr8 nr9 nr10 nr11 nrb r0 r1 r2 r3 r4 tv tl0 tl1 tl2 tl3 tl4 tl5 tl6 tl7 tl8 tl9 tl10 tl11 tlb tr0 tr1 tr2 tr3 tr4 tr5 tr6 tr7 tr8 tr9 tr10 tr11 trb w_ what = (o0, o1, o2, o3, o4, o5, o6, o7, o8, o9, o10, o11, o12, o13, o14, o15, o16, o17, o18, o19, o20, o21, o22, o23, o24, o25, o26, o27)) : CI l yX7_best wsX7_best { frames := 6, cells := 0, slots := 0, locals := 134 } D cyC cyI [.ref qM, .int 0, .int w_, .int what] [(qM, .inr (7, [.ref qT, .ref qQ, .ref qR, .ref qD, .ref qN, .ref q1, .ref q2, .ref q3, .ref q4, .int ud])), (qN, .inr (5, [.ref qNp, .ref qNs, .ref qNz, .int nk])), (qNp, .inr (2, [.ref qNpl, .ref qNpr, .int nv])), (qNpl, .inr (0, [.int nl0, .int nl1, .int nl2, .int nl3, .int nl4, .int nl5, .int nl6, .int nl7, .int nl8, .int nl9, .int nl10, .int nl11, .int (bB nlb)])), (qNpr, .inr (0, [.int nr0, .int nr1, .int nr2, .int nr3, .int nr4, .int nr5, .int nr6, .int nr7, .int nr8, .int nr9, .int nr10, .int nr11, .int (bB nrb)])), (qR, .inr (1, [.int r0, .int r1, .int r2, .int r3, .int r4, .ref qRl, .ref qRr])), (qQ, .inr (2, [.ref qQl, .ref qQr, .int tv])), (qQl, .inr (0, [.int tl0, .int tl1, .int tl2, .int tl3, .int tl4, .int tl5, .int tl6, .int tl7, .int tl8, .int tl9, .int tl10, .int tl11, .int (bB tlb)])), (qQr, .inr (0, [.int tr0, .int tr1, .int tr2, .int tr3, .int tr4, .int tr5, .int tr6, .int tr7, .int tr8, .int tr9, .int tr10, .int tr11, .int (bB trb)]))] o0 [(qM, .inr (7, [.ref qT, .ref qQ, .ref qR, .ref qD, .ref qN, .ref q1, .ref q2, .ref q3, .ref q4, .int ud])), (qN, .inr (5, [.ref qNp, .ref qNs, .ref qNz, .int nk])), (qNp, .inr (2, [.ref qNpl, .ref qNpr, .int nv])), (qNpl, .inr (0, [.int nl0, .int nl1, .int nl2, .int nl3, .int nl4, .int nl5, .int nl6, .int nl7, .int nl8, .int nl9, .int nl10, .int nl11, .int (bB nlb)])), (qNpr, .inr (0, [.int nr0, .int nr1, .int nr2, .int nr3, .int nr4, .int nr5, .int nr6, .int nr7, .int nr8, .int nr9, .int nr10, .int nr11, .int (bB nrb)])), (qR, .inr (1, [.int r0, .int r1, .int r2, .int r3, .int r4, .ref qRl, .ref qRr])), (qQ, .inr (2, [.ref qQl, .ref qQr, .int o1])), (qQl, .inr (0, [.int o2, .int o3, .int o4, .int o5, .int o6, .int o7, .int o8, .int o9, .int o10, .int o11, .int o12, .int o13, .int (bB o14)])), (qQr, .inr (0, [.int o15, .int o16, .int o17, .int o18, .int o19, .int o20, .int o21, .int o22, .int o23, .int o24, .int o25, .int o26, .int (bB o27)]))] := by
  refine CI.of (cc := cX7_best) (n := 8) (ret := (some .int)) (by decide +kernel) rfl (Nat.le_of_ble_eq_true rfl) ?_
  intro p_ e_ s_ m_ bl_ me_ cd_ A_ ls X Y hr hlk hl
  have hx := X.1.1
  have hb := X.1.2.1
  have hl : lv_has ls 8 [(0, .ref qM), (1, .int 0), (2, .int w_), (3, .int what)] := hl
  unfold s_best_0 at hu
  refine lv_iload_n hx hb dX7_best_0 rfl (lv_at hl 1 rfl) ?_
  refine bSI (As := [.int 0]) (rest := []) X Y (c_isCrane l D cyC cyI 0 (s_isCrane 0) rfl) gX7_best_X7_isCrane rfl ⟨rfl, rfl⟩ hd_X7_isCrane.2 ⟨(Nat.le_of_ble_eq_true rfl), (Nat.le_of_ble_eq_true rfl)⟩ rfl rfl hl.1 (Nat.le_of_ble_eq_true rfl) ⟨Nat.zero_le _, Nat.zero_le _⟩ dX7_best_1 (fun H locs Y => ?_)
  refine lv_if_eq (tgt := 23) hx hb dX7_best_4 (by decide) (fun c_1 => ?_) (fun c_1 => ?_)
  · have c_1 := bB_f c_1
    rw [if_neg c_1] at hu
    refine lv_iconst (v := (-1)) hx hb dX7_best_23 (by decide) ?_
    have h9 := (Prod.mk.inj hu).1; replace hu := (Prod.mk.inj hu).2; subst h9
    have h9 := (Prod.mk.inj hu).1; replace hu := (Prod.mk.inj hu).2; subst h9
    have h9 := (Prod.mk.inj hu).1; replace hu := (Prod.mk.inj hu).2; subst h9
    have h9 := (Prod.mk.inj hu).1; replace hu := (Prod.mk.inj hu).2; subst h9
    have h9 := (Prod.mk.inj hu).1; replace hu := (Prod.mk.inj hu).2; subst h9
    have h9 := (Prod.mk.inj hu).1; replace hu := (Prod.mk.inj hu).2; subst h9
    have h9 := (Prod.mk.inj hu).1; replace hu := (Prod.mk.inj hu).2; subst h9
    have h9 := (Prod.mk.inj hu).1; replace hu := (Prod.mk.inj hu).2; subst h9
    have h9 := (Prod.mk.inj hu).1; replace hu := (Prod.mk.inj hu).2; subst h9
    have h9 := (Prod.mk.inj hu).1; replace hu := (Prod.mk.inj hu).2; subst h9
    have h9 := (Prod.mk.inj hu).1; replace hu := (Prod.mk.inj hu).2; subst h9
    have h9 := (Prod.mk.inj hu).1; replace hu := (Prod.mk.inj hu).2; subst h9
    have h9 := (Prod.mk.inj hu).1; replace hu := (Prod.mk.inj hu).2; subst h9
    have h9 := (Prod.mk.inj hu).1; replace hu := (Prod.mk.inj hu).2; subst h9
    have h9 := (Prod.mk.inj hu).1; replace hu := (Prod.mk.inj hu).2; subst h9
    have h9 := (Prod.mk.inj hu).1; replace hu := (Prod.mk.inj hu).2; subst h9
    have h9 := (Prod.mk.inj hu).1; replace hu := (Prod.mk.inj hu).2; subst h9
    have h9 := (Prod.mk.inj hu).1; replace hu := (Prod.mk.inj hu).2; subst h9
    have h9 := (Prod.mk.inj hu).1; replace hu := (Prod.mk.inj hu).2; subst h9
    have h9 := (Prod.mk.inj hu).1; replace hu := (Prod.mk.inj hu).2; subst h9
    have h9 := (Prod.mk.inj hu).1; replace hu := (Prod.mk.inj hu).2; subst h9
    have h9 := (Prod.mk.inj hu).1; replace hu := (Prod.mk.inj hu).2; subst h9
    have h9 := (Prod.mk.inj hu).1; replace hu := (Prod.mk.inj hu).2; subst h9
    have h9 := (Prod.mk.inj hu).1; replace hu := (Prod.mk.inj hu).2; subst h9
    have h9 := (Prod.mk.inj hu).1; replace hu := (Prod.mk.inj hu).2; subst h9
    have h9 := (Prod.mk.inj hu).1; replace hu := (Prod.mk.inj hu).2; subst h9
    have h9 := (Prod.mk.inj hu).1; replace hu := (Prod.mk.inj hu).2; subst h9
    subst hu
    exact bEndI X Y hr hlk dX7_best_24 rfl rfl
  · have c_1 := bB_t c_1
    rw [if_pos c_1] at hu
    refine lv_iload_n hx hb dX7_best_7 rfl (lv_at hl 2 rfl) ?_
    refine bSI (As := [.int w_]) (rest := []) X Y (c_isSpeed l D cyC cyI w_ (s_isSpeed w_) rfl) gX7_best_X7_isSpeed rfl ⟨rfl, rfl⟩ hd_X7_isSpeed.2 ⟨(Nat.le_of_ble_eq_true rfl), (Nat.le_of_ble_eq_true rfl)⟩ rfl rfl hl.1 (Nat.le_of_ble_eq_true rfl) ⟨Nat.zero_le _, Nat.zero_le _⟩ dX7_best_8 (fun H locs Y => ?_)
    refine lv_if_eq (tgt := 23) hx hb dX7_best_11 (by decide) (fun c_2 => ?_) (fun c_2 => ?_)
    · have c_2 := bB_f c_2
      rw [if_neg c_2] at hu
      refine lv_iconst (v := (-1)) hx hb dX7_best_23 (by decide) ?_
      have h9 := (Prod.mk.inj hu).1; replace hu := (Prod.mk.inj hu).2; subst h9
      have h9 := (Prod.mk.inj hu).1; replace hu := (Prod.mk.inj hu).2; subst h9
      have h9 := (Prod.mk.inj hu).1; replace hu := (Prod.mk.inj hu).2; subst h9
      have h9 := (Prod.mk.inj hu).1; replace hu := (Prod.mk.inj hu).2; subst h9
      have h9 := (Prod.mk.inj hu).1; replace hu := (Prod.mk.inj hu).2; subst h9
      have h9 := (Prod.mk.inj hu).1; replace hu := (Prod.mk.inj hu).2; subst h9
      have h9 := (Prod.mk.inj hu).1; replace hu := (Prod.mk.inj hu).2; subst h9
      have h9 := (Prod.mk.inj hu).1; replace hu := (Prod.mk.inj hu).2; subst h9
      have h9 := (Prod.mk.inj hu).1; replace hu := (Prod.mk.inj hu).2; subst h9
      have h9 := (Prod.mk.inj hu).1; replace hu := (Prod.mk.inj hu).2; subst h9
      have h9 := (Prod.mk.inj hu).1; replace hu := (Prod.mk.inj hu).2; subst h9
      have h9 := (Prod.mk.inj hu).1; replace hu := (Prod.mk.inj hu).2; subst h9
      have h9 := (Prod.mk.inj hu).1; replace hu := (Prod.mk.inj hu).2; subst h9
      have h9 := (Prod.mk.inj hu).1; replace hu := (Prod.mk.inj hu).2; subst h9
      have h9 := (Prod.mk.inj hu).1; replace hu := (Prod.mk.inj hu).2; subst h9
      have h9 := (Prod.mk.inj hu).1; replace hu := (Prod.mk.inj hu).2; subst h9
      have h9 := (Prod.mk.inj hu).1; replace hu := (Prod.mk.inj hu).2; subst h9
      have h9 := (Prod.mk.inj hu).1; replace hu := (Prod.mk.inj hu).2; subst h9
      have h9 := (Prod.mk.inj hu).1; replace hu := (Prod.mk.inj hu).2; subst h9
      have h9 := (Prod.mk.inj hu).1; replace hu := (Prod.mk.inj hu).2; subst h9
      have h9 := (Prod.mk.inj hu).1; replace hu := (Prod.mk.inj hu).2; subst h9
      have h9 := (Prod.mk.inj hu).1; replace hu := (Prod.mk.inj hu).2; subst h9
      have h9 := (Prod.mk.inj hu).1; replace hu := (Prod.mk.inj hu).2; subst h9
      have h9 := (Prod.mk.inj hu).1; replace hu := (Prod.mk.inj hu).2; subst h9
      have h9 := (Prod.mk.inj hu).1; replace hu := (Prod.mk.inj hu).2; subst h9
      have h9 := (Prod.mk.inj hu).1; replace hu := (Prod.mk.inj hu).2; subst h9
      have h9 := (Prod.mk.inj hu).1; replace hu := (Prod.mk.inj hu).2; subst h9
      subst hu
      exact bEndI X Y hr hlk dX7_best_24 rfl rfl
    · have c_2 := bB_t c_2
      rw [if_pos c_2] at hu
      refine lv_iload_n hx hb dX7_best_14 rfl (lv_at hl 3 rfl) ?_
      refine lv_iconst (v := 0) hx hb dX7_best_15 (by decide) ?_
      refine lv_iconst (v := 1) hx hb dX7_best_16 (by decide) ?_
      refine bSI (As := [.int what, .int 0, .int 1]) (rest := []) X Y (c_isWithin l D cyC cyI what 0 1 (s_isWithin what 0 1) rfl) gX7_best_X7_isWithin rfl ⟨rfl, rfl⟩ hd_X7_isWithin.2 ⟨(Nat.le_of_ble_eq_true rfl), (Nat.le_of_ble_eq_true rfl)⟩ rfl rfl hl.1 (Nat.le_of_ble_eq_true rfl) ⟨Nat.zero_le _, Nat.zero_le _⟩ dX7_best_17 (fun H locs Y => ?_)
      refine lv_if_ne (tgt := 25) hx hb dX7_best_20 (by decide) (fun c_3 => ?_) (fun c_3 => ?_)
      · have c_3 := bB_t c_3
        rw [if_pos c_3] at hu
        refine lv_iconst (v := 0) hx hb dX7_best_25 (by decide) ?_
        refine lv_istore (lv' := [(4, .int 0), (0, .ref qM), (1, .int 0), (2, .int w_), (3, .int what)]) hx hb dX7_best_26 hl (by decide) rfl (fun ls hl => ?_)
        refine lv_aload_n hx hb dX7_best_28 rfl (lv_at hl 1 rfl) ?_
        refine lv_iload_n hx hb dX7_best_29 rfl (lv_at hl 2 rfl) ?_
        refine lv_iload_n hx hb dX7_best_30 rfl (lv_at hl 3 rfl) ?_
        refine lv_iconst (v := 0) hx hb dX7_best_31 (by decide) ?_
        obtain ⟨u_4_0, u_4_1, u_4_2, u_4_3, u_4_4, u_4_5, u_4_6, u_4_7, u_4_8, u_4_9, u_4_10, u_4_11, u_4_12, u_4_13, u_4_14, u_4_15, u_4_16, u_4_17, u_4_18, u_4_19, u_4_20, u_4_21, u_4_22, hr_4⟩ := bEx23 (s_swingWithPause_0 nv nl0 nl1 nl2 nl3 nl4 nl5 nl6 nl7 nl8 nl9 nl10 nl11 nlb nr0 nr1 nr2 nr3 nr4 nr5 nr6 nr7 nr8 nr9 nr10 nr11 nrb r0 r1 r2 r3 r4 w_ 0)
        rw [hr_4] at hu
        dsimp only at hu
        refine bVI (As := [.int 0, .int w_, .int 0]) (rest := []) (wc := [(qM, .inr (7, [.ref qT, .ref qQ, .ref qR, .ref qD, .ref qN, .ref q1, .ref q2, .ref q3, .ref q4, .int ud])), (qN, .inr (5, [.ref qNp, .ref qNs, .ref qNz, .int nk])), (qNp, .inr (2, [.ref qNpl, .ref qNpr, .int nv])), (qNpl, .inr (0, [.int nl0, .int nl1, .int nl2, .int nl3, .int nl4, .int nl5, .int nl6, .int nl7, .int nl8, .int nl9, .int nl10, .int nl11, .int (bB nlb)])), (qNpr, .inr (0, [.int nr0, .int nr1, .int nr2, .int nr3, .int nr4, .int nr5, .int nr6, .int nr7, .int nr8, .int nr9, .int nr10, .int nr11, .int (bB nrb)])), (qR, .inr (1, [.int r0, .int r1, .int r2, .int r3, .int r4, .ref qRl, .ref qRr])), (qQ, .inr (2, [.ref qQl, .ref qQr, .int tv])), (qQl, .inr (0, [.int tl0, .int tl1, .int tl2, .int tl3, .int tl4, .int tl5, .int tl6, .int tl7, .int tl8, .int tl9, .int tl10, .int tl11, .int (bB tlb)])), (qQr, .inr (0, [.int tr0, .int tr1, .int tr2, .int tr3, .int tr4, .int tr5, .int tr6, .int tr7, .int tr8, .int tr9, .int tr10, .int tr11, .int (bB trb)]))]) (w1 := [(qM, .inr (7, [.ref qT, .ref qQ, .ref qR, .ref qD, .ref qN, .ref q1, .ref q2, .ref q3, .ref q4, .int ud])), (qN, .inr (5, [.ref qNp, .ref qNs, .ref qNz, .int nk])), (qNp, .inr (2, [.ref qNpl, .ref qNpr, .int nv])), (qNpl, .inr (0, [.int nl0, .int nl1, .int nl2, .int nl3, .int nl4, .int nl5, .int nl6, .int nl7, .int nl8, .int nl9, .int nl10, .int nl11, .int (bB nlb)])), (qNpr, .inr (0, [.int nr0, .int nr1, .int nr2, .int nr3, .int nr4, .int nr5, .int nr6, .int nr7, .int nr8, .int nr9, .int nr10, .int nr11, .int (bB nrb)])), (qR, .inr (1, [.int r0, .int r1, .int r2, .int r3, .int r4, .ref qRl, .ref qRr])), (qQ, .inr (2, [.ref qQl, .ref qQr, .int nv])), (qQl, .inr (0, [.int u_4_1, .int u_4_2, .int u_4_3, .int nl3, .int u_4_4, .int u_4_5, .int u_4_6, .int nl7, .int u_4_7, .int u_4_8, .int u_4_9, .int u_4_10, .int (bB u_4_11)])), (qQr, .inr (0, [.int u_4_12, .int u_4_13, .int u_4_14, .int nr3, .int u_4_15, .int u_4_16, .int u_4_17, .int nr7, .int u_4_18, .int u_4_19, .int u_4_20, .int u_4_21, .int (bB u_4_22)]))]) (ws' := [(qM, .inr (7, [.ref qT, .ref qQ, .ref qR, .ref qD, .ref qN, .ref q1, .ref q2, .ref q3, .ref q4, .int ud])), (qN, .inr (5, [.ref qNp, .ref qNs, .ref qNz, .int nk])), (qNp, .inr (2, [.ref qNpl, .ref qNpr, .int nv])), (qNpl, .inr (0, [.int nl0, .int nl1, .int nl2, .int nl3, .int nl4, .int nl5, .int nl6, .int nl7, .int nl8, .int nl9, .int nl10, .int nl11, .int (bB nlb)])), (qNpr, .inr (0, [.int nr0, .int nr1, .int nr2, .int nr3, .int nr4, .int nr5, .int nr6, .int nr7, .int nr8, .int nr9, .int nr10, .int nr11, .int (bB nrb)])), (qR, .inr (1, [.int r0, .int r1, .int r2, .int r3, .int r4, .ref qRl, .ref qRr])), (qQ, .inr (2, [.ref qQl, .ref qQr, .int nv])), (qQl, .inr (0, [.int u_4_1, .int u_4_2, .int u_4_3, .int nl3, .int u_4_4, .int u_4_5, .int u_4_6, .int nl7, .int u_4_7, .int u_4_8, .int u_4_9, .int u_4_10, .int (bB u_4_11)])), (qQr, .inr (0, [.int u_4_12, .int u_4_13, .int u_4_14, .int nr3, .int u_4_15, .int u_4_16, .int u_4_17, .int nr7, .int u_4_18, .int u_4_19, .int u_4_20, .int u_4_21, .int (bB u_4_22)]))]) (ad := [qM, qN, qNp, qNpl, qNpr, qR, qQ, qQl, qQr]) (wr := []) (nn := 9) (ci := 7) (q0 := 0) X Y (c_swingWithPause_0 l D cyC cyI qM qT qQ qR qD qN q1 q2 q3 q4 ud nk qNp nv qNpl nl0 nl1 nl2 nl3 nl4 nl5 nl6 nl7 nl8 nl9 nl10 nl11 nlb qNpr nr0 nr1 nr2 nr3 nr4 nr5 nr6 nr7 nr8 nr9 nr10 nr11 nrb qNs qNz qRl qRr r0 r1 r2 r3 r4 tv qQl tl0 tl1 tl2 tl3 tl4 tl5 tl6 tl7 tl8 tl9 tl10 tl11 tlb qQr tr0 tr1 tr2 tr3 tr4 tr5 tr6 tr7 tr8 tr9 tr10 tr11 trb w_ 0 u_4_0 u_4_1 u_4_2 u_4_3 u_4_4 u_4_5 u_4_6 u_4_7 u_4_8 u_4_9 u_4_10 u_4_11 u_4_12 u_4_13 u_4_14 u_4_15 u_4_16 u_4_17 u_4_18 u_4_19 u_4_20 u_4_21 u_4_22 hr_4) gX7_best_X7_swingWithPause rfl ⟨rfl, rfl⟩ hd_X7_swingWithPause ⟨(Nat.le_of_ble_eq_true rfl), (Nat.le_of_ble_eq_true rfl)⟩ rfl rfl rfl [0, 1, 2, 3, 4, 5, 6, 7, 8] [] rfl rfl rfl rfl rfl rfl rfl rfl (by decide) rfl rfl hl.1 (Nat.le_of_ble_eq_true rfl) ⟨Nat.zero_le _, Nat.zero_le _⟩ dX7_best_32 (fun H locs Y => ?_)
        refine lv_istore (lv' := [(5, .int u_4_0), (4, .int 0), (0, .ref qM), (1, .int 0), (2, .int w_), (3, .int what)]) hx hb dX7_best_35 hl (by decide) rfl (fun ls hl => ?_)
        refine lv_iconst (v := 1) hx hb dX7_best_37 (by decide) ?_
        refine lv_istore (lv' := [(6, .int 1), (5, .int u_4_0), (4, .int 0), (0, .ref qM), (1, .int 0), (2, .int w_), (3, .int what)]) hx hb dX7_best_38 hl (by decide) rfl (fun ls hl => ?_)
        exact lp_best_0 l D cyC cyI qM qT qQ qR qD qN q1 q2 q3 q4 ud nk qNp nv qNpl nl0 nl1 nl2 nl3 nl4 nl5 nl6 nl7 nl8 nl9 nl10 nl11 nlb qNpr nr0 nr1 nr2 nr3 nr4 nr5 nr6 nr7 nr8 nr9 nr10 nr11 nrb qNs qNz qRl qRr r0 r1 r2 r3 r4 tv qQl tl0 tl1 tl2 tl3 tl4 tl5 tl6 tl7 tl8 tl9 tl10 tl11 tlb qQr tr0 tr1 tr2 tr3 tr4 tr5 tr6 tr7 tr8 tr9 tr10 tr11 trb w_ what o0 o1 o2 o3 o4 o5 o6 o7 o8 o9 o10 o11 o12 o13 o14 o15 o16 o17 o18 o19 o20 o21 o22 o23 o24 o25 o26 o27 X hr hlk (21) 1 0 u_4_0 u_4_1 u_4_2 u_4_3 u_4_4 u_4_5 u_4_6 u_4_7 u_4_8 u_4_9 u_4_10 u_4_11 u_4_12 u_4_13 u_4_14 u_4_15 u_4_16 u_4_17 u_4_18 u_4_19 u_4_20 u_4_21 u_4_22 (by omega) (by omega) hu _ _ _ (lv_sub hl [3, 4, 5, 6, 2, 1, 0] rfl) Y
      · have c_3 := bB_f c_3
        rw [if_neg c_3] at hu
        refine lv_iconst (v := (-1)) hx hb dX7_best_23 (by decide) ?_
        have h9 := (Prod.mk.inj hu).1; replace hu := (Prod.mk.inj hu).2; subst h9
        have h9 := (Prod.mk.inj hu).1; replace hu := (Prod.mk.inj hu).2; subst h9
        have h9 := (Prod.mk.inj hu).1; replace hu := (Prod.mk.inj hu).2; subst h9
        have h9 := (Prod.mk.inj hu).1; replace hu := (Prod.mk.inj hu).2; subst h9
        have h9 := (Prod.mk.inj hu).1; replace hu := (Prod.mk.inj hu).2; subst h9
        have h9 := (Prod.mk.inj hu).1; replace hu := (Prod.mk.inj hu).2; subst h9
        have h9 := (Prod.mk.inj hu).1; replace hu := (Prod.mk.inj hu).2; subst h9
        have h9 := (Prod.mk.inj hu).1; replace hu := (Prod.mk.inj hu).2; subst h9
        have h9 := (Prod.mk.inj hu).1; replace hu := (Prod.mk.inj hu).2; subst h9
        have h9 := (Prod.mk.inj hu).1; replace hu := (Prod.mk.inj hu).2; subst h9
        have h9 := (Prod.mk.inj hu).1; replace hu := (Prod.mk.inj hu).2; subst h9
        have h9 := (Prod.mk.inj hu).1; replace hu := (Prod.mk.inj hu).2; subst h9
        have h9 := (Prod.mk.inj hu).1; replace hu := (Prod.mk.inj hu).2; subst h9
        have h9 := (Prod.mk.inj hu).1; replace hu := (Prod.mk.inj hu).2; subst h9
        have h9 := (Prod.mk.inj hu).1; replace hu := (Prod.mk.inj hu).2; subst h9
        have h9 := (Prod.mk.inj hu).1; replace hu := (Prod.mk.inj hu).2; subst h9
        have h9 := (Prod.mk.inj hu).1; replace hu := (Prod.mk.inj hu).2; subst h9
        have h9 := (Prod.mk.inj hu).1; replace hu := (Prod.mk.inj hu).2; subst h9
        have h9 := (Prod.mk.inj hu).1; replace hu := (Prod.mk.inj hu).2; subst h9
        have h9 := (Prod.mk.inj hu).1; replace hu := (Prod.mk.inj hu).2; subst h9
        have h9 := (Prod.mk.inj hu).1; replace hu := (Prod.mk.inj hu).2; subst h9
        have h9 := (Prod.mk.inj hu).1; replace hu := (Prod.mk.inj hu).2; subst h9
        have h9 := (Prod.mk.inj hu).1; replace hu := (Prod.mk.inj hu).2; subst h9
        have h9 := (Prod.mk.inj hu).1; replace hu := (Prod.mk.inj hu).2; subst h9
        have h9 := (Prod.mk.inj hu).1; replace hu := (Prod.mk.inj hu).2; subst h9
        have h9 := (Prod.mk.inj hu).1; replace hu := (Prod.mk.inj hu).2; subst h9
        have h9 := (Prod.mk.inj hu).1; replace hu := (Prod.mk.inj hu).2; subst h9
        subst hu
        exact bEndI X Y hr hlk dX7_best_24 rfl rfl
def g_best_1 (nv : Int32) (nl0 : Int32) (nl1 : Int32) (nl2 : Int32) (nl3 : Int32) (nl4 : Int32) (nl5 : Int32) (nl6 : Int32) (nl7 : Int32) (nl8 : Int32) (nl9 : Int32) (nl10 : Int32) (nl11 : Int32) (nlb : Bool) (nr0 : Int32) (nr1 : Int32) (nr2 : Int32) (nr3 : Int32) (nr4 : Int32) (nr5 : Int32) (nr6 : Int32) (nr7 : Int32) (nr8 : Int32) (nr9 : Int32) (nr10 : Int32) (nr11 : Int32) (nrb : Bool) (r0 : Int32) (r1 : Int32) (r2 : Int32) (r3 : Int32) (r4 : Int32) (w_ : Int32) (what : Int32) : Nat → Nat → Int32 → Int32 → Int32 → Int32 → Int32 → Int32 → Int32 → Int32 → Int32 → Int32 → Int32 → Int32 → Bool → Int32 → Int32 → Int32 → Int32 → Int32 → Int32 → Int32 → Int32 → Int32 → Int32 → Bool → Int32 × Int32 × Int32 × Int32 × Int32 × Int32 × Int32 × Int32 × Int32 × Int32 × Int32 × Int32 × Int32 × Int32 × Bool × Int32 × Int32 × Int32 × Int32 × Int32 × Int32 × Int32 × Int32 × Int32 × Int32 × Int32 × Int32 × Bool
  | 0, _, _, _, _, _, _, _, _, _, _, _, _, _, _, _, _, _, _, _, _, _, _, _, _, _ => (0, 0, 0, 0, 0, 0, 0, 0, 0, 0, 0, 0, 0, 0, false, 0, 0, 0, 0, 0, 0, 0, 0, 0, 0, 0, 0, false)
  | n_ + 1, j, bp, lst, wl0, wl1, wl2, wl4, wl5, wl6, wl8, wl9, wl10, wl11, wlb, wr0, wr1, wr2, wr4, wr5, wr6, wr8, wr9, wr10, wr11, wrb =>
    if 20 < nI j then
      if what = 0 then
        (bp, nv, wl0, wl1, wl2, nl3, wl4, wl5, wl6, nl7, wl8, wl9, wl10, wl11, wlb, wr0, wr1, wr2, nr3, wr4, wr5, wr6, nr7, wr8, wr9, wr10, wr11, wrb)
      else
        (lst, nv, wl0, wl1, wl2, nl3, wl4, wl5, wl6, nl7, wl8, wl9, wl10, wl11, wlb, wr0, wr1, wr2, nr3, wr4, wr5, wr6, nr7, wr8, wr9, wr10, wr11, wrb)
    else
      match s_swingWithPause_1 nv nl0 nl1 nl2 nl3 nl4 nl5 nl6 nl7 nl8 nl9 nl10 nl11 nlb nr0 nr1 nr2 nr3 nr4 nr5 nr6 nr7 nr8 nr9 nr10 nr11 nrb r0 r1 r2 r3 r4 w_ (nI j) with
      | (u_3_0, u_3_1, u_3_2, u_3_3, u_3_4, u_3_5, u_3_6, u_3_7, u_3_8, u_3_9, u_3_10, u_3_11, u_3_12, u_3_13, u_3_14, u_3_15, u_3_16, u_3_17, u_3_18, u_3_19, u_3_20, u_3_21, u_3_22) =>
        if lst ≤ u_3_0 then
          g_best_1 nv nl0 nl1 nl2 nl3 nl4 nl5 nl6 nl7 nl8 nl9 nl10 nl11 nlb nr0 nr1 nr2 nr3 nr4 nr5 nr6 nr7 nr8 nr9 nr10 nr11 nrb r0 r1 r2 r3 r4 w_ what n_ (j + 1) bp lst u_3_1 u_3_2 u_3_3 u_3_4 u_3_5 u_3_6 u_3_7 u_3_8 u_3_9 u_3_10 u_3_11 u_3_12 u_3_13 u_3_14 u_3_15 u_3_16 u_3_17 u_3_18 u_3_19 u_3_20 u_3_21 u_3_22
        else
          g_best_1 nv nl0 nl1 nl2 nl3 nl4 nl5 nl6 nl7 nl8 nl9 nl10 nl11 nlb nr0 nr1 nr2 nr3 nr4 nr5 nr6 nr7 nr8 nr9 nr10 nr11 nrb r0 r1 r2 r3 r4 w_ what n_ (j + 1) (nI j) u_3_0 u_3_1 u_3_2 u_3_3 u_3_4 u_3_5 u_3_6 u_3_7 u_3_8 u_3_9 u_3_10 u_3_11 u_3_12 u_3_13 u_3_14 u_3_15 u_3_16 u_3_17 u_3_18 u_3_19 u_3_20 u_3_21 u_3_22
def s_best_1 (nv : Int32) (nl0 : Int32) (nl1 : Int32) (nl2 : Int32) (nl3 : Int32) (nl4 : Int32) (nl5 : Int32) (nl6 : Int32) (nl7 : Int32) (nl8 : Int32) (nl9 : Int32) (nl10 : Int32) (nl11 : Int32) (nlb : Bool) (nr0 : Int32) (nr1 : Int32) (nr2 : Int32) (nr3 : Int32) (nr4 : Int32) (nr5 : Int32) (nr6 : Int32) (nr7 : Int32) (nr8 : Int32) (nr9 : Int32) (nr10 : Int32) (nr11 : Int32) (nrb : Bool) (r0 : Int32) (r1 : Int32) (r2 : Int32) (r3 : Int32) (r4 : Int32) (tv : Int32) (tl0 : Int32) (tl1 : Int32) (tl2 : Int32) (tl3 : Int32) (tl4 : Int32) (tl5 : Int32) (tl6 : Int32) (tl7 : Int32) (tl8 : Int32) (tl9 : Int32) (tl10 : Int32) (tl11 : Int32) (tlb : Bool) (tr0 : Int32) (tr1 : Int32) (tr2 : Int32) (tr3 : Int32) (tr4 : Int32) (tr5 : Int32) (tr6 : Int32) (tr7 : Int32) (tr8 : Int32) (tr9 : Int32) (tr10 : Int32) (tr11 : Int32) (trb : Bool) (w_ : Int32) (what : Int32) : Int32 × Int32 × Int32 × Int32 × Int32 × Int32 × Int32 × Int32 × Int32 × Int32 × Int32 × Int32 × Int32 × Int32 × Bool × Int32 × Int32 × Int32 × Int32 × Int32 × Int32 × Int32 × Int32 × Int32 × Int32 × Int32 × Int32 × Bool :=
  if (s_isCrane 1) = true then
    if (s_isSpeed w_) = true then
      if (s_isWithin what 0 1) = true then
        match s_swingWithPause_1 nv nl0 nl1 nl2 nl3 nl4 nl5 nl6 nl7 nl8 nl9 nl10 nl11 nlb nr0 nr1 nr2 nr3 nr4 nr5 nr6 nr7 nr8 nr9 nr10 nr11 nrb r0 r1 r2 r3 r4 w_ 0 with
        | (u_4_0, u_4_1, u_4_2, u_4_3, u_4_4, u_4_5, u_4_6, u_4_7, u_4_8, u_4_9, u_4_10, u_4_11, u_4_12, u_4_13, u_4_14, u_4_15, u_4_16, u_4_17, u_4_18, u_4_19, u_4_20, u_4_21, u_4_22) =>
          g_best_1 nv nl0 nl1 nl2 nl3 nl4 nl5 nl6 nl7 nl8 nl9 nl10 nl11 nlb nr0 nr1 nr2 nr3 nr4 nr5 nr6 nr7 nr8 nr9 nr10 nr11 nrb r0 r1 r2 r3 r4 w_ what (21) 1 0 u_4_0 u_4_1 u_4_2 u_4_3 u_4_4 u_4_5 u_4_6 u_4_7 u_4_8 u_4_9 u_4_10 u_4_11 u_4_12 u_4_13 u_4_14 u_4_15 u_4_16 u_4_17 u_4_18 u_4_19 u_4_20 u_4_21 u_4_22
      else
        ((-1), tv, tl0, tl1, tl2, tl3, tl4, tl5, tl6, tl7, tl8, tl9, tl10, tl11, tlb, tr0, tr1, tr2, tr3, tr4, tr5, tr6, tr7, tr8, tr9, tr10, tr11, trb)
    else
      ((-1), tv, tl0, tl1, tl2, tl3, tl4, tl5, tl6, tl7, tl8, tl9, tl10, tl11, tlb, tr0, tr1, tr2, tr3, tr4, tr5, tr6, tr7, tr8, tr9, tr10, tr11, trb)
  else
    ((-1), tv, tl0, tl1, tl2, tl3, tl4, tl5, tl6, tl7, tl8, tl9, tl10, tl11, tlb, tr0, tr1, tr2, tr3, tr4, tr5, tr6, tr7, tr8, tr9, tr10, tr11, trb)
set_option maxHeartbeats 4000000 in
set_option maxRecDepth 100000 in
theorem lp_best_1 {p_ : Program} {e_ : Env} {s_ : State} {m_ : MethodId} {bl_ : List Frame} {me_ : Method} {cd_ : Code} {A_ : Nat → Prop} (l : Launch) (D : va_G) (cyC cyI : ClassId) (qM : Nat) (qT : Nat) (qQ : Nat) (qR : Nat) (qD : Nat) (qN : Nat) (q1 : Nat) (q2 : Nat) (q3 : Nat) (q4 : Nat) (ud : Int32) (nk : Int32) (qNp : Nat) (nv : Int32) (qNpl : Nat) (nl0 : Int32) (nl1 : Int32) (nl2 : Int32) (nl3 : Int32) (nl4 : Int32) (nl5 : Int32) (nl6 : Int32) (nl7 : Int32) (nl8 : Int32) (nl9 : Int32) (nl10 : Int32) (nl11 : Int32) (nlb : Bool) (qNpr : Nat) (nr0 : Int32) (nr1 : Int32) (nr2 : Int32) (nr3 : Int32) (nr4 : Int32) (nr5 : Int32) (nr6 : Int32) (nr7 : Int32) (nr8 : Int32) (nr9 : Int32) (nr10 : Int32) (nr11 : Int32) (nrb : Bool) (qNs : Nat) (qNz : Nat) (qRl : Nat) (qRr : Nat) (r0 : Int32) (r1 : Int32) (r2 : Int32) (r3 : Int32) (r4 : Int32) (tv : Int32) (qQl : Nat) (tl0 : Int32) (tl1 : Int32) (tl2 : Int32) (tl3 : Int32) (tl4 : Int32) (tl5 : Int32) (tl6 : Int32) (tl7 : Int32) (tl8 : Int32) (tl9 : Int32) (tl10 : Int32) (tl11 : Int32) (tlb : Bool) (qQr : Nat) (tr0 : Int32) (tr1 : Int32) (tr2 : Int32) (tr3 : Int32) (tr4 : Int32) (tr5 : Int32) (tr6 : Int32) (tr7 : Int32) (tr8 : Int32) (tr9 : Int32) (tr10 : Int32) (tr11 : Int32) (trb : Bool) (w_ : Int32) (what : Int32) (o0 : Int32) (o1 : Int32) (o2 : Int32) (o3 : Int32) (o4 : Int32) (o5 : Int32) (o6 : Int32) (o7 : Int32) (o8 : Int32) (o9 : Int32) (o10 : Int32) (o11 : Int32) (o12 : Int32) (o13 : Int32) (o14 : Bool) (o15 : Int32) (o16 : Int32) (o17 : Int32) (o18 : Int32) (o19 : Int32) (o20 : Int32) (o21 : Int32) (o22 : Int32) (o23 : Int32) (o24 : Int32) (o25 : Int32) (o26 : Int32) (o27 : Bool) (X : bX p_ s_ m_ ([.ref qM, .int 1, .int w_, .int what] : List Value).toArray cd_ cX7_best 8 wsX7_best yX7_best.cls D cyC cyI) (hr : me_.sig.returnType = (some .int)) (hlk : me_.locks = false) : ∀ (n_ : Nat) (j : Nat) (bp : Int32) (lst : Int32) (wl0 : Int32) (wl1 : Int32) (wl2 : Int32) (wl4 : Int32) (wl5 : Int32) (wl6 : Int32) (wl8 : Int32) (wl9 : Int32) (wl10 : Int32) (wl11 : Int32) (wlb : Bool) (wr0 : Int32) (wr1 : Int32) (wr2 : Int32) (wr4 : Int32) (wr5 : Int32) (wr6 : Int32) (wr8 : Int32) (wr9 : Int32) (wr10 : Int32) (wr11 : Int32) (wrb : Bool) (hN : 22 ≤ j + n_) (hJ : j ≤ 21) (hu : g_best_1 nv nl0 nl1 nl2 nl3 nl4 nl5 nl6 nl7 nl8 nl9 nl10 nl11 nlb nr0 nr1 nr2 nr3 nr4 nr5 nr6 nr7 nr8 nr9 nr10 nr11 nrb r0 r1 r2 r3 r4 w_ what n_ j bp lst wl0 wl1 wl2 wl4 wl5 wl6 wl8 wl9 wl10 wl11 wlb wr0 wr1 wr2 wr4 wr5 wr6 wr8 wr9 wr10 wr11 wrb = (o0, o1, o2, o3, o4, o5, o6, o7, o8, o9, o10, o11, o12, o13, o14, o15, o16, o17, o18, o19, o20, o21, o22, o23, o24, o25, o26, o27)) (ls : Array Slot) (H : Heap) (locs : List Loc), lv_has ls 8 [(0, .ref qM), (1, .int 1), (2, .int w_), (3, .int what), (4, .int bp), (5, .int lst), (6, .int (nI j))] → bY D A_ s_.heap [(qM, .inr (7, [.ref qT, .ref qQ, .ref qR, .ref qD, .ref qN, .ref q1, .ref q2, .ref q3, .ref q4, .int ud])), (qN, .inr (5, [.ref qNp, .ref qNs, .ref qNz, .int nk])), (qNp, .inr (2, [.ref qNpl, .ref qNpr, .int nv])), (qNpl, .inr (0, [.int nl0, .int nl1, .int nl2, .int nl3, .int nl4, .int nl5, .int nl6, .int nl7, .int nl8, .int nl9, .int nl10, .int nl11, .int (bB nlb)])), (qNpr, .inr (0, [.int nr0, .int nr1, .int nr2, .int nr3, .int nr4, .int nr5, .int nr6, .int nr7, .int nr8, .int nr9, .int nr10, .int nr11, .int (bB nrb)])), (qR, .inr (1, [.int r0, .int r1, .int r2, .int r3, .int r4, .ref qRl, .ref qRr])), (qQ, .inr (2, [.ref qQl, .ref qQr, .int nv])), (qQl, .inr (0, [.int wl0, .int wl1, .int wl2, .int nl3, .int wl4, .int wl5, .int wl6, .int nl7, .int wl8, .int wl9, .int wl10, .int wl11, .int (bB wlb)])), (qQr, .inr (0, [.int wr0, .int wr1, .int wr2, .int nr3, .int wr4, .int wr5, .int wr6, .int nr7, .int wr8, .int wr9, .int wr10, .int wr11, .int (bB wrb)]))] H locs → W p_ l e_ ({ frames := 6, cells := 0, slots := 0, locals := 134 } : Room) s_ m_ ([.ref qM, .int 1, .int w_, .int what] : List Value).toArray bl_ me_ cd_ H locs 0 0 (bQI bl_ ([.ref qM, .int 1, .int w_, .int what] : List Value).toArray s_ D [(qM, .inr (7, [.ref qT, .ref qQ, .ref qR, .ref qD, .ref qN, .ref q1, .ref q2, .ref q3, .ref q4, .int ud])), (qN, .inr (5, [.ref qNp, .ref qNs, .ref qNz, .int nk])), (qNp, .inr (2, [.ref qNpl, .ref qNpr, .int nv])), (qNpl, .inr (0, [.int nl0, .int nl1, .int nl2, .int nl3, .int nl4, .int nl5, .int nl6, .int nl7, .int nl8, .int nl9, .int nl10, .int nl11, .int (bB nlb)])), (qNpr, .inr (0, [.int nr0, .int nr1, .int nr2, .int nr3, .int nr4, .int nr5, .int nr6, .int nr7, .int nr8, .int nr9, .int nr10, .int nr11, .int (bB nrb)])), (qR, .inr (1, [.int r0, .int r1, .int r2, .int r3, .int r4, .ref qRl, .ref qRr])), (qQ, .inr (2, [.ref qQl, .ref qQr, .int o1])), (qQl, .inr (0, [.int o2, .int o3, .int o4, .int o5, .int o6, .int o7, .int o8, .int o9, .int o10, .int o11, .int o12, .int o13, .int (bB o14)])), (qQr, .inr (0, [.int o15, .int o16, .int o17, .int o18, .int o19, .int o20, .int o21, .int o22, .int o23, .int o24, .int o25, .int o26, .int (bB o27)]))] o0 A_) (F0 m_ 40 ls []) := by
  intro n_
  induction n_ with
  | zero =>
    intro j bp lst wl0 wl1 wl2 wl4 wl5 wl6 wl8 wl9 wl10 wl11 wlb wr0 wr1 wr2 wr4 wr5 wr6 wr8 wr9 wr10 wr11 wrb hN hJ hu ls H locs hl Y
    exfalso; omega
  | succ n_ ih =>
    intro j bp lst wl0 wl1 wl2 wl4 wl5 wl6 wl8 wl9 wl10 wl11 wlb wr0 wr1 wr2 wr4 wr5 wr6 wr8 wr9 wr10 wr11 wrb hN hJ hu ls H locs hl Y
    have hx := X.1.1
    have hb := X.1.2.1
    rw [g_best_1] at hu
    refine lv_iload hx hb dX7_best_40 (lv_at hl 6 rfl) ?_
    refine lv_bipush (v := 20) hx hb dX7_best_42 (by decide) ?_
    refine lv_icmp_gt (tgt := 78) hx hb dX7_best_44 (by decide) (fun c_1 => ?_) (fun c_1 => ?_)
    · have c_1 : 20 < nI j := c_1
      rw [if_pos c_1] at hu
      refine lv_iload_n hx hb dX7_best_78 rfl (lv_at hl 3 rfl) ?_
      refine lv_if_ne (tgt := 87) hx hb dX7_best_79 (by decide) (fun c_2 => ?_) (fun c_2 => ?_)
      · have c_2 : ¬ (what = 0) := c_2
        rw [if_neg c_2] at hu
        refine lv_iload hx hb dX7_best_87 (lv_at hl 5 rfl) ?_
        have h9 := (Prod.mk.inj hu).1; replace hu := (Prod.mk.inj hu).2; subst h9
        have h9 := (Prod.mk.inj hu).1; replace hu := (Prod.mk.inj hu).2; subst h9
        have h9 := (Prod.mk.inj hu).1; replace hu := (Prod.mk.inj hu).2; subst h9
        have h9 := (Prod.mk.inj hu).1; replace hu := (Prod.mk.inj hu).2; subst h9
        have h9 := (Prod.mk.inj hu).1; replace hu := (Prod.mk.inj hu).2; subst h9
        have h9 := (Prod.mk.inj hu).1; replace hu := (Prod.mk.inj hu).2; subst h9
        have h9 := (Prod.mk.inj hu).1; replace hu := (Prod.mk.inj hu).2; subst h9
        have h9 := (Prod.mk.inj hu).1; replace hu := (Prod.mk.inj hu).2; subst h9
        have h9 := (Prod.mk.inj hu).1; replace hu := (Prod.mk.inj hu).2; subst h9
        have h9 := (Prod.mk.inj hu).1; replace hu := (Prod.mk.inj hu).2; subst h9
        have h9 := (Prod.mk.inj hu).1; replace hu := (Prod.mk.inj hu).2; subst h9
        have h9 := (Prod.mk.inj hu).1; replace hu := (Prod.mk.inj hu).2; subst h9
        have h9 := (Prod.mk.inj hu).1; replace hu := (Prod.mk.inj hu).2; subst h9
        have h9 := (Prod.mk.inj hu).1; replace hu := (Prod.mk.inj hu).2; subst h9
        have h9 := (Prod.mk.inj hu).1; replace hu := (Prod.mk.inj hu).2; subst h9
        have h9 := (Prod.mk.inj hu).1; replace hu := (Prod.mk.inj hu).2; subst h9
        have h9 := (Prod.mk.inj hu).1; replace hu := (Prod.mk.inj hu).2; subst h9
        have h9 := (Prod.mk.inj hu).1; replace hu := (Prod.mk.inj hu).2; subst h9
        have h9 := (Prod.mk.inj hu).1; replace hu := (Prod.mk.inj hu).2; subst h9
        have h9 := (Prod.mk.inj hu).1; replace hu := (Prod.mk.inj hu).2; subst h9
        have h9 := (Prod.mk.inj hu).1; replace hu := (Prod.mk.inj hu).2; subst h9
        have h9 := (Prod.mk.inj hu).1; replace hu := (Prod.mk.inj hu).2; subst h9
        have h9 := (Prod.mk.inj hu).1; replace hu := (Prod.mk.inj hu).2; subst h9
        have h9 := (Prod.mk.inj hu).1; replace hu := (Prod.mk.inj hu).2; subst h9
        have h9 := (Prod.mk.inj hu).1; replace hu := (Prod.mk.inj hu).2; subst h9
        have h9 := (Prod.mk.inj hu).1; replace hu := (Prod.mk.inj hu).2; subst h9
        have h9 := (Prod.mk.inj hu).1; replace hu := (Prod.mk.inj hu).2; subst h9
        subst hu
        exact bEndI X Y hr hlk dX7_best_89 rfl rfl
      · have c_2 : what = 0 := c_2
        rw [if_pos c_2] at hu
        refine lv_iload hx hb dX7_best_82 (lv_at hl 4 rfl) ?_
        refine lv_goto (tgt := 89) hx hb dX7_best_84 (by decide) ?_
        have h9 := (Prod.mk.inj hu).1; replace hu := (Prod.mk.inj hu).2; subst h9
        have h9 := (Prod.mk.inj hu).1; replace hu := (Prod.mk.inj hu).2; subst h9
        have h9 := (Prod.mk.inj hu).1; replace hu := (Prod.mk.inj hu).2; subst h9
        have h9 := (Prod.mk.inj hu).1; replace hu := (Prod.mk.inj hu).2; subst h9
        have h9 := (Prod.mk.inj hu).1; replace hu := (Prod.mk.inj hu).2; subst h9
        have h9 := (Prod.mk.inj hu).1; replace hu := (Prod.mk.inj hu).2; subst h9
        have h9 := (Prod.mk.inj hu).1; replace hu := (Prod.mk.inj hu).2; subst h9
        have h9 := (Prod.mk.inj hu).1; replace hu := (Prod.mk.inj hu).2; subst h9
        have h9 := (Prod.mk.inj hu).1; replace hu := (Prod.mk.inj hu).2; subst h9
        have h9 := (Prod.mk.inj hu).1; replace hu := (Prod.mk.inj hu).2; subst h9
        have h9 := (Prod.mk.inj hu).1; replace hu := (Prod.mk.inj hu).2; subst h9
        have h9 := (Prod.mk.inj hu).1; replace hu := (Prod.mk.inj hu).2; subst h9
        have h9 := (Prod.mk.inj hu).1; replace hu := (Prod.mk.inj hu).2; subst h9
        have h9 := (Prod.mk.inj hu).1; replace hu := (Prod.mk.inj hu).2; subst h9
        have h9 := (Prod.mk.inj hu).1; replace hu := (Prod.mk.inj hu).2; subst h9
        have h9 := (Prod.mk.inj hu).1; replace hu := (Prod.mk.inj hu).2; subst h9
        have h9 := (Prod.mk.inj hu).1; replace hu := (Prod.mk.inj hu).2; subst h9
        have h9 := (Prod.mk.inj hu).1; replace hu := (Prod.mk.inj hu).2; subst h9
        have h9 := (Prod.mk.inj hu).1; replace hu := (Prod.mk.inj hu).2; subst h9
        have h9 := (Prod.mk.inj hu).1; replace hu := (Prod.mk.inj hu).2; subst h9
        have h9 := (Prod.mk.inj hu).1; replace hu := (Prod.mk.inj hu).2; subst h9
        have h9 := (Prod.mk.inj hu).1; replace hu := (Prod.mk.inj hu).2; subst h9
        have h9 := (Prod.mk.inj hu).1; replace hu := (Prod.mk.inj hu).2; subst h9
        have h9 := (Prod.mk.inj hu).1; replace hu := (Prod.mk.inj hu).2; subst h9
        have h9 := (Prod.mk.inj hu).1; replace hu := (Prod.mk.inj hu).2; subst h9
        have h9 := (Prod.mk.inj hu).1; replace hu := (Prod.mk.inj hu).2; subst h9
        have h9 := (Prod.mk.inj hu).1; replace hu := (Prod.mk.inj hu).2; subst h9
        subst hu
        exact bEndI X Y hr hlk dX7_best_89 rfl rfl
    · have c_1 : ¬ (20 < nI j) := c_1
      rw [if_neg c_1] at hu
      refine lv_aload_n hx hb dX7_best_47 rfl (lv_at hl 0 rfl) ?_
      refine lv_iload_n hx hb dX7_best_48 rfl (lv_at hl 1 rfl) ?_
      refine lv_iload_n hx hb dX7_best_49 rfl (lv_at hl 2 rfl) ?_
      refine lv_iload hx hb dX7_best_50 (lv_at hl 6 rfl) ?_
      obtain ⟨u_3_0, u_3_1, u_3_2, u_3_3, u_3_4, u_3_5, u_3_6, u_3_7, u_3_8, u_3_9, u_3_10, u_3_11, u_3_12, u_3_13, u_3_14, u_3_15, u_3_16, u_3_17, u_3_18, u_3_19, u_3_20, u_3_21, u_3_22, hr_3⟩ := bEx23 (s_swingWithPause_1 nv nl0 nl1 nl2 nl3 nl4 nl5 nl6 nl7 nl8 nl9 nl10 nl11 nlb nr0 nr1 nr2 nr3 nr4 nr5 nr6 nr7 nr8 nr9 nr10 nr11 nrb r0 r1 r2 r3 r4 w_ (nI j))
      rw [hr_3] at hu
      dsimp only at hu
      refine bVI (As := [.int 1, .int w_, .int (nI j)]) (rest := []) (wc := [(qM, .inr (7, [.ref qT, .ref qQ, .ref qR, .ref qD, .ref qN, .ref q1, .ref q2, .ref q3, .ref q4, .int ud])), (qN, .inr (5, [.ref qNp, .ref qNs, .ref qNz, .int nk])), (qNp, .inr (2, [.ref qNpl, .ref qNpr, .int nv])), (qNpl, .inr (0, [.int nl0, .int nl1, .int nl2, .int nl3, .int nl4, .int nl5, .int nl6, .int nl7, .int nl8, .int nl9, .int nl10, .int nl11, .int (bB nlb)])), (qNpr, .inr (0, [.int nr0, .int nr1, .int nr2, .int nr3, .int nr4, .int nr5, .int nr6, .int nr7, .int nr8, .int nr9, .int nr10, .int nr11, .int (bB nrb)])), (qR, .inr (1, [.int r0, .int r1, .int r2, .int r3, .int r4, .ref qRl, .ref qRr])), (qQ, .inr (2, [.ref qQl, .ref qQr, .int nv])), (qQl, .inr (0, [.int wl0, .int wl1, .int wl2, .int nl3, .int wl4, .int wl5, .int wl6, .int nl7, .int wl8, .int wl9, .int wl10, .int wl11, .int (bB wlb)])), (qQr, .inr (0, [.int wr0, .int wr1, .int wr2, .int nr3, .int wr4, .int wr5, .int wr6, .int nr7, .int wr8, .int wr9, .int wr10, .int wr11, .int (bB wrb)]))]) (w1 := [(qM, .inr (7, [.ref qT, .ref qQ, .ref qR, .ref qD, .ref qN, .ref q1, .ref q2, .ref q3, .ref q4, .int ud])), (qN, .inr (5, [.ref qNp, .ref qNs, .ref qNz, .int nk])), (qNp, .inr (2, [.ref qNpl, .ref qNpr, .int nv])), (qNpl, .inr (0, [.int nl0, .int nl1, .int nl2, .int nl3, .int nl4, .int nl5, .int nl6, .int nl7, .int nl8, .int nl9, .int nl10, .int nl11, .int (bB nlb)])), (qNpr, .inr (0, [.int nr0, .int nr1, .int nr2, .int nr3, .int nr4, .int nr5, .int nr6, .int nr7, .int nr8, .int nr9, .int nr10, .int nr11, .int (bB nrb)])), (qR, .inr (1, [.int r0, .int r1, .int r2, .int r3, .int r4, .ref qRl, .ref qRr])), (qQ, .inr (2, [.ref qQl, .ref qQr, .int nv])), (qQl, .inr (0, [.int u_3_1, .int u_3_2, .int u_3_3, .int nl3, .int u_3_4, .int u_3_5, .int u_3_6, .int nl7, .int u_3_7, .int u_3_8, .int u_3_9, .int u_3_10, .int (bB u_3_11)])), (qQr, .inr (0, [.int u_3_12, .int u_3_13, .int u_3_14, .int nr3, .int u_3_15, .int u_3_16, .int u_3_17, .int nr7, .int u_3_18, .int u_3_19, .int u_3_20, .int u_3_21, .int (bB u_3_22)]))]) (ws' := [(qM, .inr (7, [.ref qT, .ref qQ, .ref qR, .ref qD, .ref qN, .ref q1, .ref q2, .ref q3, .ref q4, .int ud])), (qN, .inr (5, [.ref qNp, .ref qNs, .ref qNz, .int nk])), (qNp, .inr (2, [.ref qNpl, .ref qNpr, .int nv])), (qNpl, .inr (0, [.int nl0, .int nl1, .int nl2, .int nl3, .int nl4, .int nl5, .int nl6, .int nl7, .int nl8, .int nl9, .int nl10, .int nl11, .int (bB nlb)])), (qNpr, .inr (0, [.int nr0, .int nr1, .int nr2, .int nr3, .int nr4, .int nr5, .int nr6, .int nr7, .int nr8, .int nr9, .int nr10, .int nr11, .int (bB nrb)])), (qR, .inr (1, [.int r0, .int r1, .int r2, .int r3, .int r4, .ref qRl, .ref qRr])), (qQ, .inr (2, [.ref qQl, .ref qQr, .int nv])), (qQl, .inr (0, [.int u_3_1, .int u_3_2, .int u_3_3, .int nl3, .int u_3_4, .int u_3_5, .int u_3_6, .int nl7, .int u_3_7, .int u_3_8, .int u_3_9, .int u_3_10, .int (bB u_3_11)])), (qQr, .inr (0, [.int u_3_12, .int u_3_13, .int u_3_14, .int nr3, .int u_3_15, .int u_3_16, .int u_3_17, .int nr7, .int u_3_18, .int u_3_19, .int u_3_20, .int u_3_21, .int (bB u_3_22)]))]) (ad := [qM, qN, qNp, qNpl, qNpr, qR, qQ, qQl, qQr]) (wr := []) (nn := 9) (ci := 7) (q0 := 0) X Y (c_swingWithPause_1 l D cyC cyI qM qT qQ qR qD qN q1 q2 q3 q4 ud nk qNp nv qNpl nl0 nl1 nl2 nl3 nl4 nl5 nl6 nl7 nl8 nl9 nl10 nl11 nlb qNpr nr0 nr1 nr2 nr3 nr4 nr5 nr6 nr7 nr8 nr9 nr10 nr11 nrb qNs qNz qRl qRr r0 r1 r2 r3 r4 nv qQl wl0 wl1 wl2 nl3 wl4 wl5 wl6 nl7 wl8 wl9 wl10 wl11 wlb qQr wr0 wr1 wr2 nr3 wr4 wr5 wr6 nr7 wr8 wr9 wr10 wr11 wrb w_ (nI j) u_3_0 u_3_1 u_3_2 u_3_3 u_3_4 u_3_5 u_3_6 u_3_7 u_3_8 u_3_9 u_3_10 u_3_11 u_3_12 u_3_13 u_3_14 u_3_15 u_3_16 u_3_17 u_3_18 u_3_19 u_3_20 u_3_21 u_3_22 hr_3) gX7_best_X7_swingWithPause rfl ⟨rfl, rfl⟩ hd_X7_swingWithPause ⟨(Nat.le_of_ble_eq_true rfl), (Nat.le_of_ble_eq_true rfl)⟩ rfl rfl rfl [0, 1, 2, 3, 4, 5, 6, 7, 8] [] rfl rfl rfl rfl rfl rfl rfl rfl (by decide) rfl rfl hl.1 (Nat.le_of_ble_eq_true rfl) ⟨Nat.zero_le _, Nat.zero_le _⟩ dX7_best_52 (fun H locs Y => ?_)
      refine lv_istore (lv' := [(7, .int u_3_0), (0, .ref qM), (1, .int 1), (2, .int w_), (3, .int what), (4, .int bp), (5, .int lst), (6, .int (nI j))]) hx hb dX7_best_55 hl (by decide) rfl (fun ls hl => ?_)
      refine lv_iload hx hb dX7_best_57 (lv_at hl 0 rfl) ?_
      refine lv_iload hx hb dX7_best_59 (lv_at hl 6 rfl) ?_
      refine lv_icmp_ge (tgt := 72) hx hb dX7_best_61 (by decide) (fun c_4 => ?_) (fun c_4 => ?_)
      · have c_4 : lst ≤ u_3_0 := c_4
        rw [if_pos c_4] at hu
        refine lv_iinc (v := nI (j + 1)) (lv' := [(6, .int (nI (j + 1))), (7, .int u_3_0), (0, .ref qM), (1, .int 1), (2, .int w_), (3, .int what), (4, .int bp), (5, .int lst)]) hx hb dX7_best_72 hl (k := 7) rfl (nI_inc _) (by decide) rfl (fun ls hl => ?_)
        refine lv_goto (tgt := 40) hx hb dX7_best_75 (by decide) ?_
        exact ih (j + 1) bp lst u_3_1 u_3_2 u_3_3 u_3_4 u_3_5 u_3_6 u_3_7 u_3_8 u_3_9 u_3_10 u_3_11 u_3_12 u_3_13 u_3_14 u_3_15 u_3_16 u_3_17 u_3_18 u_3_19 u_3_20 u_3_21 u_3_22 (by omega) (by have h9 := bNlt (k := 20) rfl (by omega) (by decide) c_1; omega) hu _ _ _ (lv_sub hl [2, 3, 4, 5, 6, 7, 0] rfl) Y
      · have c_4 : ¬ (lst ≤ u_3_0) := c_4
        rw [if_neg c_4] at hu
        refine lv_iload hx hb dX7_best_64 (lv_at hl 0 rfl) ?_
        refine lv_istore (lv' := [(5, .int u_3_0), (7, .int u_3_0), (0, .ref qM), (1, .int 1), (2, .int w_), (3, .int what), (4, .int bp), (6, .int (nI j))]) hx hb dX7_best_66 hl (by decide) rfl (fun ls hl => ?_)
        refine lv_iload hx hb dX7_best_68 (lv_at hl 7 rfl) ?_
        refine lv_istore (lv' := [(4, .int (nI j)), (5, .int u_3_0), (7, .int u_3_0), (0, .ref qM), (1, .int 1), (2, .int w_), (3, .int what), (6, .int (nI j))]) hx hb dX7_best_70 hl (by decide) rfl (fun ls hl => ?_)
        refine lv_iinc (v := nI (j + 1)) (lv' := [(6, .int (nI (j + 1))), (4, .int (nI j)), (5, .int u_3_0), (7, .int u_3_0), (0, .ref qM), (1, .int 1), (2, .int w_), (3, .int what)]) hx hb dX7_best_72 hl (k := 7) rfl (nI_inc _) (by decide) rfl (fun ls hl => ?_)
        refine lv_goto (tgt := 40) hx hb dX7_best_75 (by decide) ?_
        exact ih (j + 1) (nI j) u_3_0 u_3_1 u_3_2 u_3_3 u_3_4 u_3_5 u_3_6 u_3_7 u_3_8 u_3_9 u_3_10 u_3_11 u_3_12 u_3_13 u_3_14 u_3_15 u_3_16 u_3_17 u_3_18 u_3_19 u_3_20 u_3_21 u_3_22 (by omega) (by have h9 := bNlt (k := 20) rfl (by omega) (by decide) c_1; omega) hu _ _ _ (lv_sub hl [4, 5, 6, 7, 1, 2, 0] rfl) Y
set_option maxHeartbeats 4000000 in
set_option maxRecDepth 100000 in
theorem c_best_1 (l : Launch) (D : va_G) (cyC cyI : ClassId) (qM : Nat) (qT : Nat) (qQ : Nat) (qR : Nat) (qD : Nat) (qN : Nat) (q1 : Nat) (q2 : Nat) (q3 : Nat) (q4 : Nat) (ud : Int32) (nk : Int32) (qNp : Nat) (nv : Int32) (qNpl : Nat) (nl0 : Int32) (nl1 : Int32) (nl2 : Int32) (nl3 : Int32) (nl4 : Int32) (nl5 : Int32) (nl6 : Int32) (nl7 : Int32) (nl8 : Int32) (nl9 : Int32) (nl10 : Int32) (nl11 : Int32) (nlb : Bool) (qNpr : Nat) (nr0 : Int32) (nr1 : Int32) (nr2 : Int32) (nr3 : Int32) (nr4 : Int32) (nr5 : Int32) (nr6 : Int32) (nr7 : Int32) (nr8 : Int32) (nr9 : Int32) (nr10 : Int32) (nr11 : Int32) (nrb : Bool) (qNs : Nat) (qNz : Nat) (qRl : Nat) (qRr : Nat) (r0 : Int32) (r1 : Int32) (r2 : Int32) (r3 : Int32) (r4 : Int32) (tv : Int32) (qQl : Nat) (tl0 : Int32) (tl1 : Int32) (tl2 : Int32) (tl3 : Int32) (tl4 : Int32) (tl5 : Int32) (tl6 : Int32) (tl7 : Int32) (tl8 : Int32) (tl9 : Int32) (tl10 : Int32) (tl11 : Int32) (tlb : Bool) (qQr : Nat) (tr0 : Int32) (tr1 : Int32) (tr2 : Int32) (tr3 : Int32) (tr4 : Int32) (tr5 : Int32) (tr6 : Int32) (tr7 : Int32) (tr8 : Int32) (tr9 : Int32) (tr10 : Int32) (tr11 : Int32) (trb : Bool) (w_ : Int32) (what : Int32) (o0 : Int32) (o1 : Int32) (o2 : Int32) (o3 : Int32) (o4 : Int32) (o5 : Int32) (o6 : Int32) (o7 : Int32) (o8 : Int32) (o9 : Int32) (o10 : Int32) (o11 : Int32) (o12 : Int32) (o13 : Int32) (o14 : Bool) (o15 : Int32) (o16 : Int32) (o17 : Int32) (o18 : Int32) (o19 : Int32) (o20 : Int32) (o21 : Int32) (o22 : Int32) (o23 : Int32) (o24 : Int32) (o25 : Int32) (o26 : Int32) (o27 : Bool) (hu : s_best_1 nv nl0 nl1 nl2 nl3 nl4 nl5 nl6 nl7 nl8 nl9 nl10 nl11 nlb nr0 nr1 nr2 nr3 nr4 nr5 nr6 nr7 nr8 nr9 nr10 nr11 nrb r0 r1 r2 r3 r4 tv tl0 tl1 tl2 tl3 tl4 tl5 tl6 tl7 tl8 tl9 tl10 tl11 tlb tr0 tr1 tr2 tr3 tr4 tr5 tr6 tr7 tr8 tr9 tr10 tr11 trb w_ what = (o0, o1, o2, o3, o4, o5, o6, o7, o8, o9, o10, o11, o12, o13, o14, o15, o16, o17, o18, o19, o20, o21, o22, o23, o24, o25, o26, o27)) : CI l yX7_best wsX7_best { frames := 6, cells := 0, slots := 0, locals := 134 } D cyC cyI [.ref qM, .int 1, .int w_, .int what] [(qM, .inr (7, [.ref qT, .ref qQ, .ref qR, .ref qD, .ref qN, .ref q1, .ref q2, .ref q3, .ref q4, .int ud])), (qN, .inr (5, [.ref qNp, .ref qNs, .ref qNz, .int nk])), (qNp, .inr (2, [.ref qNpl, .ref qNpr, .int nv])), (qNpl, .inr (0, [.int nl0, .int nl1, .int nl2, .int nl3, .int nl4, .int nl5, .int nl6, .int nl7, .int nl8, .int nl9, .int nl10, .int nl11, .int (bB nlb)])), (qNpr, .inr (0, [.int nr0, .int nr1, .int nr2, .int nr3, .int nr4, .int nr5, .int nr6, .int nr7, .int nr8, .int nr9, .int nr10, .int nr11, .int (bB nrb)])), (qR, .inr (1, [.int r0, .int r1, .int r2, .int r3, .int r4, .ref qRl, .ref qRr])), (qQ, .inr (2, [.ref qQl, .ref qQr, .int tv])), (qQl, .inr (0, [.int tl0, .int tl1, .int tl2, .int tl3, .int tl4, .int tl5, .int tl6, .int tl7, .int tl8, .int tl9, .int tl10, .int tl11, .int (bB tlb)])), (qQr, .inr (0, [.int tr0, .int tr1, .int tr2, .int tr3, .int tr4, .int tr5, .int tr6, .int tr7, .int tr8, .int tr9, .int tr10, .int tr11, .int (bB trb)]))] o0 [(qM, .inr (7, [.ref qT, .ref qQ, .ref qR, .ref qD, .ref qN, .ref q1, .ref q2, .ref q3, .ref q4, .int ud])), (qN, .inr (5, [.ref qNp, .ref qNs, .ref qNz, .int nk])), (qNp, .inr (2, [.ref qNpl, .ref qNpr, .int nv])), (qNpl, .inr (0, [.int nl0, .int nl1, .int nl2, .int nl3, .int nl4, .int nl5, .int nl6, .int nl7, .int nl8, .int nl9, .int nl10, .int nl11, .int (bB nlb)])), (qNpr, .inr (0, [.int nr0, .int nr1, .int nr2, .int nr3, .int nr4, .int nr5, .int nr6, .int nr7, .int nr8, .int nr9, .int nr10, .int nr11, .int (bB nrb)])), (qR, .inr (1, [.int r0, .int r1, .int r2, .int r3, .int r4, .ref qRl, .ref qRr])), (qQ, .inr (2, [.ref qQl, .ref qQr, .int o1])), (qQl, .inr (0, [.int o2, .int o3, .int o4, .int o5, .int o6, .int o7, .int o8, .int o9, .int o10, .int o11, .int o12, .int o13, .int (bB o14)])), (qQr, .inr (0, [.int o15, .int o16, .int o17, .int o18, .int o19, .int o20, .int o21, .int o22, .int o23, .int o24, .int o25, .int o26, .int (bB o27)]))] := by
  refine CI.of (cc := cX7_best) (n := 8) (ret := (some .int)) (by decide +kernel) rfl (Nat.le_of_ble_eq_true rfl) ?_
  intro p_ e_ s_ m_ bl_ me_ cd_ A_ ls X Y hr hlk hl
  have hx := X.1.1
  have hb := X.1.2.1
  have hl : lv_has ls 8 [(0, .ref qM), (1, .int 1), (2, .int w_), (3, .int what)] := hl
  unfold s_best_1 at hu
  refine lv_iload_n hx hb dX7_best_0 rfl (lv_at hl 1 rfl) ?_
  refine bSI (As := [.int 1]) (rest := []) X Y (c_isCrane l D cyC cyI 1 (s_isCrane 1) rfl) gX7_best_X7_isCrane rfl ⟨rfl, rfl⟩ hd_X7_isCrane.2 ⟨(Nat.le_of_ble_eq_true rfl), (Nat.le_of_ble_eq_true rfl)⟩ rfl rfl hl.1 (Nat.le_of_ble_eq_true rfl) ⟨Nat.zero_le _, Nat.zero_le _⟩ dX7_best_1 (fun H locs Y => ?_)
  refine lv_if_eq (tgt := 23) hx hb dX7_best_4 (by decide) (fun c_1 => ?_) (fun c_1 => ?_)
  · have c_1 := bB_f c_1
    rw [if_neg c_1] at hu
    refine lv_iconst (v := (-1)) hx hb dX7_best_23 (by decide) ?_
    have h9 := (Prod.mk.inj hu).1; replace hu := (Prod.mk.inj hu).2; subst h9
    have h9 := (Prod.mk.inj hu).1; replace hu := (Prod.mk.inj hu).2; subst h9
    have h9 := (Prod.mk.inj hu).1; replace hu := (Prod.mk.inj hu).2; subst h9
    have h9 := (Prod.mk.inj hu).1; replace hu := (Prod.mk.inj hu).2; subst h9
    have h9 := (Prod.mk.inj hu).1; replace hu := (Prod.mk.inj hu).2; subst h9
    have h9 := (Prod.mk.inj hu).1; replace hu := (Prod.mk.inj hu).2; subst h9
    have h9 := (Prod.mk.inj hu).1; replace hu := (Prod.mk.inj hu).2; subst h9
    have h9 := (Prod.mk.inj hu).1; replace hu := (Prod.mk.inj hu).2; subst h9
    have h9 := (Prod.mk.inj hu).1; replace hu := (Prod.mk.inj hu).2; subst h9
    have h9 := (Prod.mk.inj hu).1; replace hu := (Prod.mk.inj hu).2; subst h9
    have h9 := (Prod.mk.inj hu).1; replace hu := (Prod.mk.inj hu).2; subst h9
    have h9 := (Prod.mk.inj hu).1; replace hu := (Prod.mk.inj hu).2; subst h9
    have h9 := (Prod.mk.inj hu).1; replace hu := (Prod.mk.inj hu).2; subst h9
    have h9 := (Prod.mk.inj hu).1; replace hu := (Prod.mk.inj hu).2; subst h9
    have h9 := (Prod.mk.inj hu).1; replace hu := (Prod.mk.inj hu).2; subst h9
    have h9 := (Prod.mk.inj hu).1; replace hu := (Prod.mk.inj hu).2; subst h9
    have h9 := (Prod.mk.inj hu).1; replace hu := (Prod.mk.inj hu).2; subst h9
    have h9 := (Prod.mk.inj hu).1; replace hu := (Prod.mk.inj hu).2; subst h9
    have h9 := (Prod.mk.inj hu).1; replace hu := (Prod.mk.inj hu).2; subst h9
    have h9 := (Prod.mk.inj hu).1; replace hu := (Prod.mk.inj hu).2; subst h9
    have h9 := (Prod.mk.inj hu).1; replace hu := (Prod.mk.inj hu).2; subst h9
    have h9 := (Prod.mk.inj hu).1; replace hu := (Prod.mk.inj hu).2; subst h9
    have h9 := (Prod.mk.inj hu).1; replace hu := (Prod.mk.inj hu).2; subst h9
    have h9 := (Prod.mk.inj hu).1; replace hu := (Prod.mk.inj hu).2; subst h9
    have h9 := (Prod.mk.inj hu).1; replace hu := (Prod.mk.inj hu).2; subst h9
    have h9 := (Prod.mk.inj hu).1; replace hu := (Prod.mk.inj hu).2; subst h9
    have h9 := (Prod.mk.inj hu).1; replace hu := (Prod.mk.inj hu).2; subst h9
    subst hu
    exact bEndI X Y hr hlk dX7_best_24 rfl rfl
  · have c_1 := bB_t c_1
    rw [if_pos c_1] at hu
    refine lv_iload_n hx hb dX7_best_7 rfl (lv_at hl 2 rfl) ?_
    refine bSI (As := [.int w_]) (rest := []) X Y (c_isSpeed l D cyC cyI w_ (s_isSpeed w_) rfl) gX7_best_X7_isSpeed rfl ⟨rfl, rfl⟩ hd_X7_isSpeed.2 ⟨(Nat.le_of_ble_eq_true rfl), (Nat.le_of_ble_eq_true rfl)⟩ rfl rfl hl.1 (Nat.le_of_ble_eq_true rfl) ⟨Nat.zero_le _, Nat.zero_le _⟩ dX7_best_8 (fun H locs Y => ?_)
    refine lv_if_eq (tgt := 23) hx hb dX7_best_11 (by decide) (fun c_2 => ?_) (fun c_2 => ?_)
    · have c_2 := bB_f c_2
      rw [if_neg c_2] at hu
      refine lv_iconst (v := (-1)) hx hb dX7_best_23 (by decide) ?_
      have h9 := (Prod.mk.inj hu).1; replace hu := (Prod.mk.inj hu).2; subst h9
      have h9 := (Prod.mk.inj hu).1; replace hu := (Prod.mk.inj hu).2; subst h9
      have h9 := (Prod.mk.inj hu).1; replace hu := (Prod.mk.inj hu).2; subst h9
      have h9 := (Prod.mk.inj hu).1; replace hu := (Prod.mk.inj hu).2; subst h9
      have h9 := (Prod.mk.inj hu).1; replace hu := (Prod.mk.inj hu).2; subst h9
      have h9 := (Prod.mk.inj hu).1; replace hu := (Prod.mk.inj hu).2; subst h9
      have h9 := (Prod.mk.inj hu).1; replace hu := (Prod.mk.inj hu).2; subst h9
      have h9 := (Prod.mk.inj hu).1; replace hu := (Prod.mk.inj hu).2; subst h9
      have h9 := (Prod.mk.inj hu).1; replace hu := (Prod.mk.inj hu).2; subst h9
      have h9 := (Prod.mk.inj hu).1; replace hu := (Prod.mk.inj hu).2; subst h9
      have h9 := (Prod.mk.inj hu).1; replace hu := (Prod.mk.inj hu).2; subst h9
      have h9 := (Prod.mk.inj hu).1; replace hu := (Prod.mk.inj hu).2; subst h9
      have h9 := (Prod.mk.inj hu).1; replace hu := (Prod.mk.inj hu).2; subst h9
      have h9 := (Prod.mk.inj hu).1; replace hu := (Prod.mk.inj hu).2; subst h9
      have h9 := (Prod.mk.inj hu).1; replace hu := (Prod.mk.inj hu).2; subst h9
      have h9 := (Prod.mk.inj hu).1; replace hu := (Prod.mk.inj hu).2; subst h9
      have h9 := (Prod.mk.inj hu).1; replace hu := (Prod.mk.inj hu).2; subst h9
      have h9 := (Prod.mk.inj hu).1; replace hu := (Prod.mk.inj hu).2; subst h9
      have h9 := (Prod.mk.inj hu).1; replace hu := (Prod.mk.inj hu).2; subst h9
      have h9 := (Prod.mk.inj hu).1; replace hu := (Prod.mk.inj hu).2; subst h9
      have h9 := (Prod.mk.inj hu).1; replace hu := (Prod.mk.inj hu).2; subst h9
      have h9 := (Prod.mk.inj hu).1; replace hu := (Prod.mk.inj hu).2; subst h9
      have h9 := (Prod.mk.inj hu).1; replace hu := (Prod.mk.inj hu).2; subst h9
      have h9 := (Prod.mk.inj hu).1; replace hu := (Prod.mk.inj hu).2; subst h9
      have h9 := (Prod.mk.inj hu).1; replace hu := (Prod.mk.inj hu).2; subst h9
      have h9 := (Prod.mk.inj hu).1; replace hu := (Prod.mk.inj hu).2; subst h9
      have h9 := (Prod.mk.inj hu).1; replace hu := (Prod.mk.inj hu).2; subst h9
      subst hu
      exact bEndI X Y hr hlk dX7_best_24 rfl rfl
    · have c_2 := bB_t c_2
      rw [if_pos c_2] at hu
      refine lv_iload_n hx hb dX7_best_14 rfl (lv_at hl 3 rfl) ?_
      refine lv_iconst (v := 0) hx hb dX7_best_15 (by decide) ?_
      refine lv_iconst (v := 1) hx hb dX7_best_16 (by decide) ?_
      refine bSI (As := [.int what, .int 0, .int 1]) (rest := []) X Y (c_isWithin l D cyC cyI what 0 1 (s_isWithin what 0 1) rfl) gX7_best_X7_isWithin rfl ⟨rfl, rfl⟩ hd_X7_isWithin.2 ⟨(Nat.le_of_ble_eq_true rfl), (Nat.le_of_ble_eq_true rfl)⟩ rfl rfl hl.1 (Nat.le_of_ble_eq_true rfl) ⟨Nat.zero_le _, Nat.zero_le _⟩ dX7_best_17 (fun H locs Y => ?_)
      refine lv_if_ne (tgt := 25) hx hb dX7_best_20 (by decide) (fun c_3 => ?_) (fun c_3 => ?_)
      · have c_3 := bB_t c_3
        rw [if_pos c_3] at hu
        refine lv_iconst (v := 0) hx hb dX7_best_25 (by decide) ?_
        refine lv_istore (lv' := [(4, .int 0), (0, .ref qM), (1, .int 1), (2, .int w_), (3, .int what)]) hx hb dX7_best_26 hl (by decide) rfl (fun ls hl => ?_)
        refine lv_aload_n hx hb dX7_best_28 rfl (lv_at hl 1 rfl) ?_
        refine lv_iload_n hx hb dX7_best_29 rfl (lv_at hl 2 rfl) ?_
        refine lv_iload_n hx hb dX7_best_30 rfl (lv_at hl 3 rfl) ?_
        refine lv_iconst (v := 0) hx hb dX7_best_31 (by decide) ?_
        obtain ⟨u_4_0, u_4_1, u_4_2, u_4_3, u_4_4, u_4_5, u_4_6, u_4_7, u_4_8, u_4_9, u_4_10, u_4_11, u_4_12, u_4_13, u_4_14, u_4_15, u_4_16, u_4_17, u_4_18, u_4_19, u_4_20, u_4_21, u_4_22, hr_4⟩ := bEx23 (s_swingWithPause_1 nv nl0 nl1 nl2 nl3 nl4 nl5 nl6 nl7 nl8 nl9 nl10 nl11 nlb nr0 nr1 nr2 nr3 nr4 nr5 nr6 nr7 nr8 nr9 nr10 nr11 nrb r0 r1 r2 r3 r4 w_ 0)
        rw [hr_4] at hu
        dsimp only at hu
        refine bVI (As := [.int 1, .int w_, .int 0]) (rest := []) (wc := [(qM, .inr (7, [.ref qT, .ref qQ, .ref qR, .ref qD, .ref qN, .ref q1, .ref q2, .ref q3, .ref q4, .int ud])), (qN, .inr (5, [.ref qNp, .ref qNs, .ref qNz, .int nk])), (qNp, .inr (2, [.ref qNpl, .ref qNpr, .int nv])), (qNpl, .inr (0, [.int nl0, .int nl1, .int nl2, .int nl3, .int nl4, .int nl5, .int nl6, .int nl7, .int nl8, .int nl9, .int nl10, .int nl11, .int (bB nlb)])), (qNpr, .inr (0, [.int nr0, .int nr1, .int nr2, .int nr3, .int nr4, .int nr5, .int nr6, .int nr7, .int nr8, .int nr9, .int nr10, .int nr11, .int (bB nrb)])), (qR, .inr (1, [.int r0, .int r1, .int r2, .int r3, .int r4, .ref qRl, .ref qRr])), (qQ, .inr (2, [.ref qQl, .ref qQr, .int tv])), (qQl, .inr (0, [.int tl0, .int tl1, .int tl2, .int tl3, .int tl4, .int tl5, .int tl6, .int tl7, .int tl8, .int tl9, .int tl10, .int tl11, .int (bB tlb)])), (qQr, .inr (0, [.int tr0, .int tr1, .int tr2, .int tr3, .int tr4, .int tr5, .int tr6, .int tr7, .int tr8, .int tr9, .int tr10, .int tr11, .int (bB trb)]))]) (w1 := [(qM, .inr (7, [.ref qT, .ref qQ, .ref qR, .ref qD, .ref qN, .ref q1, .ref q2, .ref q3, .ref q4, .int ud])), (qN, .inr (5, [.ref qNp, .ref qNs, .ref qNz, .int nk])), (qNp, .inr (2, [.ref qNpl, .ref qNpr, .int nv])), (qNpl, .inr (0, [.int nl0, .int nl1, .int nl2, .int nl3, .int nl4, .int nl5, .int nl6, .int nl7, .int nl8, .int nl9, .int nl10, .int nl11, .int (bB nlb)])), (qNpr, .inr (0, [.int nr0, .int nr1, .int nr2, .int nr3, .int nr4, .int nr5, .int nr6, .int nr7, .int nr8, .int nr9, .int nr10, .int nr11, .int (bB nrb)])), (qR, .inr (1, [.int r0, .int r1, .int r2, .int r3, .int r4, .ref qRl, .ref qRr])), (qQ, .inr (2, [.ref qQl, .ref qQr, .int nv])), (qQl, .inr (0, [.int u_4_1, .int u_4_2, .int u_4_3, .int nl3, .int u_4_4, .int u_4_5, .int u_4_6, .int nl7, .int u_4_7, .int u_4_8, .int u_4_9, .int u_4_10, .int (bB u_4_11)])), (qQr, .inr (0, [.int u_4_12, .int u_4_13, .int u_4_14, .int nr3, .int u_4_15, .int u_4_16, .int u_4_17, .int nr7, .int u_4_18, .int u_4_19, .int u_4_20, .int u_4_21, .int (bB u_4_22)]))]) (ws' := [(qM, .inr (7, [.ref qT, .ref qQ, .ref qR, .ref qD, .ref qN, .ref q1, .ref q2, .ref q3, .ref q4, .int ud])), (qN, .inr (5, [.ref qNp, .ref qNs, .ref qNz, .int nk])), (qNp, .inr (2, [.ref qNpl, .ref qNpr, .int nv])), (qNpl, .inr (0, [.int nl0, .int nl1, .int nl2, .int nl3, .int nl4, .int nl5, .int nl6, .int nl7, .int nl8, .int nl9, .int nl10, .int nl11, .int (bB nlb)])), (qNpr, .inr (0, [.int nr0, .int nr1, .int nr2, .int nr3, .int nr4, .int nr5, .int nr6, .int nr7, .int nr8, .int nr9, .int nr10, .int nr11, .int (bB nrb)])), (qR, .inr (1, [.int r0, .int r1, .int r2, .int r3, .int r4, .ref qRl, .ref qRr])), (qQ, .inr (2, [.ref qQl, .ref qQr, .int nv])), (qQl, .inr (0, [.int u_4_1, .int u_4_2, .int u_4_3, .int nl3, .int u_4_4, .int u_4_5, .int u_4_6, .int nl7, .int u_4_7, .int u_4_8, .int u_4_9, .int u_4_10, .int (bB u_4_11)])), (qQr, .inr (0, [.int u_4_12, .int u_4_13, .int u_4_14, .int nr3, .int u_4_15, .int u_4_16, .int u_4_17, .int nr7, .int u_4_18, .int u_4_19, .int u_4_20, .int u_4_21, .int (bB u_4_22)]))]) (ad := [qM, qN, qNp, qNpl, qNpr, qR, qQ, qQl, qQr]) (wr := []) (nn := 9) (ci := 7) (q0 := 0) X Y (c_swingWithPause_1 l D cyC cyI qM qT qQ qR qD qN q1 q2 q3 q4 ud nk qNp nv qNpl nl0 nl1 nl2 nl3 nl4 nl5 nl6 nl7 nl8 nl9 nl10 nl11 nlb qNpr nr0 nr1 nr2 nr3 nr4 nr5 nr6 nr7 nr8 nr9 nr10 nr11 nrb qNs qNz qRl qRr r0 r1 r2 r3 r4 tv qQl tl0 tl1 tl2 tl3 tl4 tl5 tl6 tl7 tl8 tl9 tl10 tl11 tlb qQr tr0 tr1 tr2 tr3 tr4 tr5 tr6 tr7 tr8 tr9 tr10 tr11 trb w_ 0 u_4_0 u_4_1 u_4_2 u_4_3 u_4_4 u_4_5 u_4_6 u_4_7 u_4_8 u_4_9 u_4_10 u_4_11 u_4_12 u_4_13 u_4_14 u_4_15 u_4_16 u_4_17 u_4_18 u_4_19 u_4_20 u_4_21 u_4_22 hr_4) gX7_best_X7_swingWithPause rfl ⟨rfl, rfl⟩ hd_X7_swingWithPause ⟨(Nat.le_of_ble_eq_true rfl), (Nat.le_of_ble_eq_true rfl)⟩ rfl rfl rfl [0, 1, 2, 3, 4, 5, 6, 7, 8] [] rfl rfl rfl rfl rfl rfl rfl rfl (by decide) rfl rfl hl.1 (Nat.le_of_ble_eq_true rfl) ⟨Nat.zero_le _, Nat.zero_le _⟩ dX7_best_32 (fun H locs Y => ?_)
        refine lv_istore (lv' := [(5, .int u_4_0), (4, .int 0), (0, .ref qM), (1, .int 1), (2, .int w_), (3, .int what)]) hx hb dX7_best_35 hl (by decide) rfl (fun ls hl => ?_)
        refine lv_iconst (v := 1) hx hb dX7_best_37 (by decide) ?_
        refine lv_istore (lv' := [(6, .int 1), (5, .int u_4_0), (4, .int 0), (0, .ref qM), (1, .int 1), (2, .int w_), (3, .int what)]) hx hb dX7_best_38 hl (by decide) rfl (fun ls hl => ?_)
        exact lp_best_1 l D cyC cyI qM qT qQ qR qD qN q1 q2 q3 q4 ud nk qNp nv qNpl nl0 nl1 nl2 nl3 nl4 nl5 nl6 nl7 nl8 nl9 nl10 nl11 nlb qNpr nr0 nr1 nr2 nr3 nr4 nr5 nr6 nr7 nr8 nr9 nr10 nr11 nrb qNs qNz qRl qRr r0 r1 r2 r3 r4 tv qQl tl0 tl1 tl2 tl3 tl4 tl5 tl6 tl7 tl8 tl9 tl10 tl11 tlb qQr tr0 tr1 tr2 tr3 tr4 tr5 tr6 tr7 tr8 tr9 tr10 tr11 trb w_ what o0 o1 o2 o3 o4 o5 o6 o7 o8 o9 o10 o11 o12 o13 o14 o15 o16 o17 o18 o19 o20 o21 o22 o23 o24 o25 o26 o27 X hr hlk (21) 1 0 u_4_0 u_4_1 u_4_2 u_4_3 u_4_4 u_4_5 u_4_6 u_4_7 u_4_8 u_4_9 u_4_10 u_4_11 u_4_12 u_4_13 u_4_14 u_4_15 u_4_16 u_4_17 u_4_18 u_4_19 u_4_20 u_4_21 u_4_22 (by omega) (by omega) hu _ _ _ (lv_sub hl [3, 4, 5, 6, 2, 1, 0] rfl) Y
      · have c_3 := bB_f c_3
        rw [if_neg c_3] at hu
        refine lv_iconst (v := (-1)) hx hb dX7_best_23 (by decide) ?_
        have h9 := (Prod.mk.inj hu).1; replace hu := (Prod.mk.inj hu).2; subst h9
        have h9 := (Prod.mk.inj hu).1; replace hu := (Prod.mk.inj hu).2; subst h9
        have h9 := (Prod.mk.inj hu).1; replace hu := (Prod.mk.inj hu).2; subst h9
        have h9 := (Prod.mk.inj hu).1; replace hu := (Prod.mk.inj hu).2; subst h9
        have h9 := (Prod.mk.inj hu).1; replace hu := (Prod.mk.inj hu).2; subst h9
        have h9 := (Prod.mk.inj hu).1; replace hu := (Prod.mk.inj hu).2; subst h9
        have h9 := (Prod.mk.inj hu).1; replace hu := (Prod.mk.inj hu).2; subst h9
        have h9 := (Prod.mk.inj hu).1; replace hu := (Prod.mk.inj hu).2; subst h9
        have h9 := (Prod.mk.inj hu).1; replace hu := (Prod.mk.inj hu).2; subst h9
        have h9 := (Prod.mk.inj hu).1; replace hu := (Prod.mk.inj hu).2; subst h9
        have h9 := (Prod.mk.inj hu).1; replace hu := (Prod.mk.inj hu).2; subst h9
        have h9 := (Prod.mk.inj hu).1; replace hu := (Prod.mk.inj hu).2; subst h9
        have h9 := (Prod.mk.inj hu).1; replace hu := (Prod.mk.inj hu).2; subst h9
        have h9 := (Prod.mk.inj hu).1; replace hu := (Prod.mk.inj hu).2; subst h9
        have h9 := (Prod.mk.inj hu).1; replace hu := (Prod.mk.inj hu).2; subst h9
        have h9 := (Prod.mk.inj hu).1; replace hu := (Prod.mk.inj hu).2; subst h9
        have h9 := (Prod.mk.inj hu).1; replace hu := (Prod.mk.inj hu).2; subst h9
        have h9 := (Prod.mk.inj hu).1; replace hu := (Prod.mk.inj hu).2; subst h9
        have h9 := (Prod.mk.inj hu).1; replace hu := (Prod.mk.inj hu).2; subst h9
        have h9 := (Prod.mk.inj hu).1; replace hu := (Prod.mk.inj hu).2; subst h9
        have h9 := (Prod.mk.inj hu).1; replace hu := (Prod.mk.inj hu).2; subst h9
        have h9 := (Prod.mk.inj hu).1; replace hu := (Prod.mk.inj hu).2; subst h9
        have h9 := (Prod.mk.inj hu).1; replace hu := (Prod.mk.inj hu).2; subst h9
        have h9 := (Prod.mk.inj hu).1; replace hu := (Prod.mk.inj hu).2; subst h9
        have h9 := (Prod.mk.inj hu).1; replace hu := (Prod.mk.inj hu).2; subst h9
        have h9 := (Prod.mk.inj hu).1; replace hu := (Prod.mk.inj hu).2; subst h9
        have h9 := (Prod.mk.inj hu).1; replace hu := (Prod.mk.inj hu).2; subst h9
        subst hu
        exact bEndI X Y hr hlk dX7_best_24 rfl rfl
def s_ahead_b (tn : Int32) : Int32 :=
  if (s_isWithin tn 1 60) = true then
    (-1)
  else
    (-1)
set_option maxHeartbeats 4000000 in
set_option maxRecDepth 100000 in
theorem c_ahead_b (l : Launch) (D : va_G) (cyC cyI : ClassId) (qM : Nat) (qT : Nat) (qQ : Nat) (qR : Nat) (qD : Nat) (qN : Nat) (q1 : Nat) (q2 : Nat) (q3 : Nat) (q4 : Nat) (ud : Int32) (tn : Int32) (c : Int32) (what : Int32) (o0 : Int32) (hu : s_ahead_b tn = o0) (hc0 : ¬ c = 0) (hc1 : ¬ c = 1) : CI l yX7_ahead wsX7_ahead { frames := 1, cells := 0, slots := 0, locals := 22 } D cyC cyI [.ref qM, .int tn, .int c, .int what] [(qM, .inr (7, [.ref qT, .ref qQ, .ref qR, .ref qD, .ref qN, .ref q1, .ref q2, .ref q3, .ref q4, .int ud]))] o0 [(qM, .inr (7, [.ref qT, .ref qQ, .ref qR, .ref qD, .ref qN, .ref q1, .ref q2, .ref q3, .ref q4, .int ud]))] := by
  refine CI.of (cc := cX7_ahead) (n := 8) (ret := (some .int)) (by decide +kernel) rfl (Nat.le_of_ble_eq_true rfl) ?_
  intro p_ e_ s_ m_ bl_ me_ cd_ A_ ls X Y hr hlk hl
  have hx := X.1.1
  have hb := X.1.2.1
  have hl : lv_has ls 8 [(0, .ref qM), (1, .int tn), (2, .int c), (3, .int what)] := hl
  unfold s_ahead_b at hu
  refine lv_iload_n hx hb dX7_ahead_0 rfl (lv_at hl 1 rfl) ?_
  refine lv_iconst (v := 1) hx hb dX7_ahead_1 (by decide) ?_
  refine lv_bipush (v := 60) hx hb dX7_ahead_2 (by decide) ?_
  refine bSI (As := [.int tn, .int 1, .int 60]) (rest := []) X Y (c_isWithin l D cyC cyI tn 1 60 (s_isWithin tn 1 60) rfl) gX7_ahead_X7_isWithin rfl ⟨rfl, rfl⟩ hd_X7_isWithin.2 ⟨(Nat.le_of_ble_eq_true rfl), (Nat.le_of_ble_eq_true rfl)⟩ rfl rfl hl.1 (Nat.le_of_ble_eq_true rfl) ⟨Nat.zero_le _, Nat.zero_le _⟩ dX7_ahead_4 (fun H locs Y => ?_)
  refine lv_if_eq (tgt := 26) hx hb dX7_ahead_7 (by decide) (fun c_1 => ?_) (fun c_1 => ?_)
  · have c_1 := bB_f c_1
    rw [if_neg c_1] at hu
    refine lv_iconst (v := (-1)) hx hb dX7_ahead_26 (by decide) ?_
    subst hu
    exact bEndI X Y hr hlk dX7_ahead_27 rfl rfl
  · have c_1 := bB_t c_1
    rw [if_pos c_1] at hu
    refine lv_iload_n hx hb dX7_ahead_10 rfl (lv_at hl 2 rfl) ?_
    refine bSI (As := [.int c]) (rest := []) X Y (c_isCrane l D cyC cyI c (s_isCrane c) rfl) gX7_ahead_X7_isCrane rfl ⟨rfl, rfl⟩ hd_X7_isCrane.2 ⟨(Nat.le_of_ble_eq_true rfl), (Nat.le_of_ble_eq_true rfl)⟩ rfl rfl hl.1 (Nat.le_of_ble_eq_true rfl) ⟨Nat.zero_le _, Nat.zero_le _⟩ dX7_ahead_11 (fun H locs Y => ?_)
    refine lv_if_eq (tgt := 26) hx hb dX7_ahead_14 (by decide) (fun c_2 => ?_) (fun c_2 => ?_)
    · have c_2 := bB_f c_2
      refine lv_iconst (v := (-1)) hx hb dX7_ahead_26 (by decide) ?_
      subst hu
      exact bEndI X Y hr hlk dX7_ahead_27 rfl rfl
    · have c_2 := bB_t c_2
      exact absurd c_2 (isCrane_no hc0 hc1)
def s_quiet_b : Int32 :=
  (-1)
set_option maxHeartbeats 4000000 in
set_option maxRecDepth 100000 in
theorem c_quiet_b (l : Launch) (D : va_G) (cyC cyI : ClassId) (qM : Nat) (qT : Nat) (qQ : Nat) (qR : Nat) (qD : Nat) (qN : Nat) (q1 : Nat) (q2 : Nat) (q3 : Nat) (q4 : Nat) (ud : Int32) (c : Int32) (o0 : Int32) (hu : s_quiet_b = o0) (hc0 : ¬ c = 0) (hc1 : ¬ c = 1) : CI l yX7_quiet wsX7_quiet { frames := 1, cells := 0, slots := 0, locals := 20 } D cyC cyI [.ref qM, .int c] [(qM, .inr (7, [.ref qT, .ref qQ, .ref qR, .ref qD, .ref qN, .ref q1, .ref q2, .ref q3, .ref q4, .int ud]))] o0 [(qM, .inr (7, [.ref qT, .ref qQ, .ref qR, .ref qD, .ref qN, .ref q1, .ref q2, .ref q3, .ref q4, .int ud]))] := by
  refine CI.of (cc := cX7_quiet) (n := 4) (ret := (some .int)) (by decide +kernel) rfl (Nat.le_of_ble_eq_true rfl) ?_
  intro p_ e_ s_ m_ bl_ me_ cd_ A_ ls X Y hr hlk hl
  have hx := X.1.1
  have hb := X.1.2.1
  have hl : lv_has ls 4 [(0, .ref qM), (1, .int c)] := hl
  unfold s_quiet_b at hu
  refine lv_iload_n hx hb dX7_quiet_0 rfl (lv_at hl 1 rfl) ?_
  refine bSI (As := [.int c]) (rest := []) X Y (c_isCrane l D cyC cyI c (s_isCrane c) rfl) gX7_quiet_X7_isCrane rfl ⟨rfl, rfl⟩ hd_X7_isCrane.2 ⟨(Nat.le_of_ble_eq_true rfl), (Nat.le_of_ble_eq_true rfl)⟩ rfl rfl hl.1 (Nat.le_of_ble_eq_true rfl) ⟨Nat.zero_le _, Nat.zero_le _⟩ dX7_quiet_1 (fun H locs Y => ?_)
  refine lv_if_ne (tgt := 9) hx hb dX7_quiet_4 (by decide) (fun c_1 => ?_) (fun c_1 => ?_)
  · have c_1 := bB_t c_1
    exact absurd c_1 (isCrane_no hc0 hc1)
  · have c_1 := bB_f c_1
    refine lv_iconst (v := (-1)) hx hb dX7_quiet_7 (by decide) ?_
    subst hu
    exact bEndI X Y hr hlk dX7_quiet_8 rfl rfl
def s_best_b : Int32 :=
  (-1)
set_option maxHeartbeats 4000000 in
set_option maxRecDepth 100000 in
theorem c_best_b (l : Launch) (D : va_G) (cyC cyI : ClassId) (qM : Nat) (qT : Nat) (qQ : Nat) (qR : Nat) (qD : Nat) (qN : Nat) (q1 : Nat) (q2 : Nat) (q3 : Nat) (q4 : Nat) (ud : Int32) (c : Int32) (w_ : Int32) (what : Int32) (o0 : Int32) (hu : s_best_b = o0) (hc0 : ¬ c = 0) (hc1 : ¬ c = 1) : CI l yX7_best wsX7_best { frames := 1, cells := 0, slots := 0, locals := 20 } D cyC cyI [.ref qM, .int c, .int w_, .int what] [(qM, .inr (7, [.ref qT, .ref qQ, .ref qR, .ref qD, .ref qN, .ref q1, .ref q2, .ref q3, .ref q4, .int ud]))] o0 [(qM, .inr (7, [.ref qT, .ref qQ, .ref qR, .ref qD, .ref qN, .ref q1, .ref q2, .ref q3, .ref q4, .int ud]))] := by
  refine CI.of (cc := cX7_best) (n := 8) (ret := (some .int)) (by decide +kernel) rfl (Nat.le_of_ble_eq_true rfl) ?_
  intro p_ e_ s_ m_ bl_ me_ cd_ A_ ls X Y hr hlk hl
  have hx := X.1.1
  have hb := X.1.2.1
  have hl : lv_has ls 8 [(0, .ref qM), (1, .int c), (2, .int w_), (3, .int what)] := hl
  unfold s_best_b at hu
  refine lv_iload_n hx hb dX7_best_0 rfl (lv_at hl 1 rfl) ?_
  refine bSI (As := [.int c]) (rest := []) X Y (c_isCrane l D cyC cyI c (s_isCrane c) rfl) gX7_best_X7_isCrane rfl ⟨rfl, rfl⟩ hd_X7_isCrane.2 ⟨(Nat.le_of_ble_eq_true rfl), (Nat.le_of_ble_eq_true rfl)⟩ rfl rfl hl.1 (Nat.le_of_ble_eq_true rfl) ⟨Nat.zero_le _, Nat.zero_le _⟩ dX7_best_1 (fun H locs Y => ?_)
  refine lv_if_eq (tgt := 23) hx hb dX7_best_4 (by decide) (fun c_1 => ?_) (fun c_1 => ?_)
  · have c_1 := bB_f c_1
    refine lv_iconst (v := (-1)) hx hb dX7_best_23 (by decide) ?_
    subst hu
    exact bEndI X Y hr hlk dX7_best_24 rfl rfl
  · have c_1 := bB_t c_1
    exact absurd c_1 (isCrane_no hc0 hc1)
theorem i_X7_count_X7 : ∀ w ∈ wsX70, w ∈ wsX7_count := by decide +kernel
theorem f_X7_count_26 : Cond.fieldLink RX7 26 "SwingCranes" "rules" "LSwingCranes$Layout;" ∈ wsX7_count := by decide +kernel
theorem i_X7_count_X1 : ∀ w ∈ wsX10, w ∈ wsX7_count := by decide +kernel
theorem f_X7_count_82 : Cond.fieldLink RX7 82 "SwingCranes$Layout" "end" "I" ∈ wsX7_count := by decide +kernel
theorem f_X7_count_224 : Cond.fieldLink RX7 224 "SwingCranes$Layout" "gap" "I" ∈ wsX7_count := by decide +kernel
theorem f_X7_count_164 : Cond.fieldLink RX7 164 "SwingCranes$Layout" "change" "I" ∈ wsX7_count := by decide +kernel
theorem f_X7_count_227 : Cond.fieldLink RX7 227 "SwingCranes$Layout" "top" "I" ∈ wsX7_count := by decide +kernel
theorem f_X7_count_230 : Cond.fieldLink RX7 230 "SwingCranes$Layout" "hoist" "I" ∈ wsX7_count := by decide +kernel
theorem f_X7_count_36 : Cond.fieldLink RX7 36 "SwingCranes" "now" "LSwingCranes$Story;" ∈ wsX7_count := by decide +kernel
theorem i_X7_count_X5 : ∀ w ∈ wsX50, w ∈ wsX7_count := by decide +kernel
theorem f_X7_count_95 : Cond.fieldLink RX7 95 "SwingCranes$Story" "pair" "LSwingCranes$Pair;" ∈ wsX7_count := by decide +kernel
theorem i_X7_count_X2 : ∀ w ∈ wsX20, w ∈ wsX7_count := by decide +kernel
theorem f_X7_count_129 : Cond.fieldLink RX7 129 "SwingCranes$Pair" "level" "I" ∈ wsX7_count := by decide +kernel
theorem f_X7_count_132 : Cond.fieldLink RX7 132 "SwingCranes$Story" "ticks" "I" ∈ wsX7_count := by decide +kernel
theorem f_X7_count_79 : Cond.fieldLink RX7 79 "SwingCranes" "undoable" "I" ∈ wsX7_count := by decide +kernel
theorem f_X7_count_10 : Cond.fieldLink RX7 10 "SwingCranes" "text" "LSwingCranes$Text;" ∈ wsX7_count := by decide +kernel
theorem i_X7_count_X6 : ∀ w ∈ wsX60, w ∈ wsX7_count := by decide +kernel
theorem f_X7_count_68 : Cond.fieldLink RX7 68 "SwingCranes$Text" "length" "I" ∈ wsX7_count := by decide +kernel
def s_count (ud : Int32) (nk : Int32) (nv : Int32) (nl0 : Int32) (nr0 : Int32) (r0 : Int32) (r1 : Int32) (r2 : Int32) (r3 : Int32) (r4 : Int32) (xn : Int32) (what : Int32) : Int32 :=
  if what = 0 then
    r0
  else
    if what = 1 then
      r1
    else
      if what = 2 then
        r2
      else
        if what = 3 then
          r3
        else
          if what = 4 then
            r4
          else
            if what = 5 then
              nv
            else
              if what = 6 then
                nk
              else
                if what = 7 then
                  ud
                else
                  if what = 8 then
                    xn
                  else
                    if what = 9 then
                      (s_freeBetween nl0 nr0 r1)
                    else
                      (-1)
set_option maxHeartbeats 4000000 in
set_option maxRecDepth 100000 in
theorem c_count (l : Launch) (D : va_G) (cyC cyI : ClassId) (qM : Nat) (qT : Nat) (qQ : Nat) (qR : Nat) (qD : Nat) (qN : Nat) (q1 : Nat) (q2 : Nat) (q3 : Nat) (q4 : Nat) (ud : Int32) (nk : Int32) (qNp : Nat) (nv : Int32) (qNpl : Nat) (nl0 : Int32) (nl1 : Int32) (nl2 : Int32) (nl3 : Int32) (nl4 : Int32) (nl5 : Int32) (nl6 : Int32) (nl7 : Int32) (nl8 : Int32) (nl9 : Int32) (nl10 : Int32) (nl11 : Int32) (nlb : Bool) (qNpr : Nat) (nr0 : Int32) (nr1 : Int32) (nr2 : Int32) (nr3 : Int32) (nr4 : Int32) (nr5 : Int32) (nr6 : Int32) (nr7 : Int32) (nr8 : Int32) (nr9 : Int32) (nr10 : Int32) (nr11 : Int32) (nrb : Bool) (qNs : Nat) (qNz : Nat) (qRl : Nat) (qRr : Nat) (r0 : Int32) (r1 : Int32) (r2 : Int32) (r3 : Int32) (r4 : Int32) (qTt : Nat) (xn : Int32) (xi : Int32) (xc : Nat → Int32) (what : Int32) (o0 : Int32) (hu : s_count ud nk nv nl0 nr0 r0 r1 r2 r3 r4 xn what = o0) : CI l yX7_count wsX7_count { frames := 1, cells := 0, slots := 0, locals := 21 } D cyC cyI [.ref qM, .int what] [(qM, .inr (7, [.ref qT, .ref qQ, .ref qR, .ref qD, .ref qN, .ref q1, .ref q2, .ref q3, .ref q4, .int ud])), (qN, .inr (5, [.ref qNp, .ref qNs, .ref qNz, .int nk])), (qNp, .inr (2, [.ref qNpl, .ref qNpr, .int nv])), (qNpl, .inr (0, [.int nl0, .int nl1, .int nl2, .int nl3, .int nl4, .int nl5, .int nl6, .int nl7, .int nl8, .int nl9, .int nl10, .int nl11, .int (bB nlb)])), (qNpr, .inr (0, [.int nr0, .int nr1, .int nr2, .int nr3, .int nr4, .int nr5, .int nr6, .int nr7, .int nr8, .int nr9, .int nr10, .int nr11, .int (bB nrb)])), (qR, .inr (1, [.int r0, .int r1, .int r2, .int r3, .int r4, .ref qRl, .ref qRr])), (qT, .inr (6, [.ref qTt, .int xn, .int xi])), (qTt, .inl (cyC, 200, .inl xc))] o0 [(qM, .inr (7, [.ref qT, .ref qQ, .ref qR, .ref qD, .ref qN, .ref q1, .ref q2, .ref q3, .ref q4, .int ud])), (qN, .inr (5, [.ref qNp, .ref qNs, .ref qNz, .int nk])), (qNp, .inr (2, [.ref qNpl, .ref qNpr, .int nv])), (qNpl, .inr (0, [.int nl0, .int nl1, .int nl2, .int nl3, .int nl4, .int nl5, .int nl6, .int nl7, .int nl8, .int nl9, .int nl10, .int nl11, .int (bB nlb)])), (qNpr, .inr (0, [.int nr0, .int nr1, .int nr2, .int nr3, .int nr4, .int nr5, .int nr6, .int nr7, .int nr8, .int nr9, .int nr10, .int nr11, .int (bB nrb)])), (qR, .inr (1, [.int r0, .int r1, .int r2, .int r3, .int r4, .ref qRl, .ref qRr])), (qT, .inr (6, [.ref qTt, .int xn, .int xi])), (qTt, .inl (cyC, 200, .inl xc))] := by
  refine CI.of (cc := cX7_count) (n := 2) (ret := (some .int)) (by decide +kernel) rfl (Nat.le_of_ble_eq_true rfl) ?_
  intro p_ e_ s_ m_ bl_ me_ cd_ A_ ls X Y hr hlk hl
  have hx := X.1.1
  have hb := X.1.2.1
  have hl : lv_has ls 2 [(0, .ref qM), (1, .int what)] := hl
  unfold s_count at hu
  refine lv_iload_n hx hb dX7_count_0 rfl (lv_at hl 1 rfl) ?_
  by_cases c_1 : what = 0
  · rw [if_pos c_1] at hu
    refine lv_tableIn (tgt := 56) (off := 55) hx hb dX7_count_1 (by rw [c_1]; decide) (by rw [c_1]; decide) (by rw [c_1]; decide +kernel) (by decide) ?_
    refine lv_aload_n hx hb dX7_count_56 rfl (lv_at hl 0 rfl) ?_
    refine bGet (v := .ref qR) (T := TX7) (N := 10) (ci := 7) X Y i_X7_count_X7 0 rfl rfl 2 (Nat.le_of_ble_eq_true rfl) f_X7_count_26 rfl rfl dX7_count_57 ?_
    refine bGet (v := .int r0) (T := TX1) (N := 7) (ci := 1) X Y i_X7_count_X1 5 rfl rfl 0 (Nat.le_of_ble_eq_true rfl) f_X7_count_82 rfl rfl dX7_count_60 ?_
    subst hu
    exact bEndI X Y hr hlk dX7_count_63 rfl rfl
  · skip
    rw [if_neg c_1] at hu
    by_cases c_2 : what = 1
    · rw [if_pos c_2] at hu
      refine lv_tableIn (tgt := 64) (off := 63) hx hb dX7_count_1 (by rw [c_2]; decide) (by rw [c_2]; decide) (by rw [c_2]; decide +kernel) (by decide) ?_
      refine lv_aload_n hx hb dX7_count_64 rfl (lv_at hl 0 rfl) ?_
      refine bGet (v := .ref qR) (T := TX7) (N := 10) (ci := 7) X Y i_X7_count_X7 0 rfl rfl 2 (Nat.le_of_ble_eq_true rfl) f_X7_count_26 rfl rfl dX7_count_65 ?_
      refine bGet (v := .int r1) (T := TX1) (N := 7) (ci := 1) X Y i_X7_count_X1 5 rfl rfl 1 (Nat.le_of_ble_eq_true rfl) f_X7_count_224 rfl rfl dX7_count_68 ?_
      subst hu
      exact bEndI X Y hr hlk dX7_count_71 rfl rfl
    · skip
      rw [if_neg c_2] at hu
      by_cases c_3 : what = 2
      · rw [if_pos c_3] at hu
        refine lv_tableIn (tgt := 72) (off := 71) hx hb dX7_count_1 (by rw [c_3]; decide) (by rw [c_3]; decide) (by rw [c_3]; decide +kernel) (by decide) ?_
        refine lv_aload_n hx hb dX7_count_72 rfl (lv_at hl 0 rfl) ?_
        refine bGet (v := .ref qR) (T := TX7) (N := 10) (ci := 7) X Y i_X7_count_X7 0 rfl rfl 2 (Nat.le_of_ble_eq_true rfl) f_X7_count_26 rfl rfl dX7_count_73 ?_
        refine bGet (v := .int r2) (T := TX1) (N := 7) (ci := 1) X Y i_X7_count_X1 5 rfl rfl 2 (Nat.le_of_ble_eq_true rfl) f_X7_count_164 rfl rfl dX7_count_76 ?_
        subst hu
        exact bEndI X Y hr hlk dX7_count_79 rfl rfl
      · skip
        rw [if_neg c_3] at hu
        by_cases c_4 : what = 3
        · rw [if_pos c_4] at hu
          refine lv_tableIn (tgt := 80) (off := 79) hx hb dX7_count_1 (by rw [c_4]; decide) (by rw [c_4]; decide) (by rw [c_4]; decide +kernel) (by decide) ?_
          refine lv_aload_n hx hb dX7_count_80 rfl (lv_at hl 0 rfl) ?_
          refine bGet (v := .ref qR) (T := TX7) (N := 10) (ci := 7) X Y i_X7_count_X7 0 rfl rfl 2 (Nat.le_of_ble_eq_true rfl) f_X7_count_26 rfl rfl dX7_count_81 ?_
          refine bGet (v := .int r3) (T := TX1) (N := 7) (ci := 1) X Y i_X7_count_X1 5 rfl rfl 3 (Nat.le_of_ble_eq_true rfl) f_X7_count_227 rfl rfl dX7_count_84 ?_
          subst hu
          exact bEndI X Y hr hlk dX7_count_87 rfl rfl
        · skip
          rw [if_neg c_4] at hu
          by_cases c_5 : what = 4
          · rw [if_pos c_5] at hu
            refine lv_tableIn (tgt := 88) (off := 87) hx hb dX7_count_1 (by rw [c_5]; decide) (by rw [c_5]; decide) (by rw [c_5]; decide +kernel) (by decide) ?_
            refine lv_aload_n hx hb dX7_count_88 rfl (lv_at hl 0 rfl) ?_
            refine bGet (v := .ref qR) (T := TX7) (N := 10) (ci := 7) X Y i_X7_count_X7 0 rfl rfl 2 (Nat.le_of_ble_eq_true rfl) f_X7_count_26 rfl rfl dX7_count_89 ?_
            refine bGet (v := .int r4) (T := TX1) (N := 7) (ci := 1) X Y i_X7_count_X1 5 rfl rfl 4 (Nat.le_of_ble_eq_true rfl) f_X7_count_230 rfl rfl dX7_count_92 ?_
            subst hu
            exact bEndI X Y hr hlk dX7_count_95 rfl rfl
          · skip
            rw [if_neg c_5] at hu
            by_cases c_6 : what = 5
            · rw [if_pos c_6] at hu
              refine lv_tableIn (tgt := 96) (off := 95) hx hb dX7_count_1 (by rw [c_6]; decide) (by rw [c_6]; decide) (by rw [c_6]; decide +kernel) (by decide) ?_
              refine lv_aload_n hx hb dX7_count_96 rfl (lv_at hl 0 rfl) ?_
              refine bGet (v := .ref qN) (T := TX7) (N := 10) (ci := 7) X Y i_X7_count_X7 0 rfl rfl 4 (Nat.le_of_ble_eq_true rfl) f_X7_count_36 rfl rfl dX7_count_97 ?_
              refine bGet (v := .ref qNp) (T := TX5) (N := 4) (ci := 5) X Y i_X7_count_X5 1 rfl rfl 0 (Nat.le_of_ble_eq_true rfl) f_X7_count_95 rfl rfl dX7_count_100 ?_
              refine bGet (v := .int nv) (T := TX2) (N := 3) (ci := 2) X Y i_X7_count_X2 2 rfl rfl 2 (Nat.le_of_ble_eq_true rfl) f_X7_count_129 rfl rfl dX7_count_103 ?_
              subst hu
              exact bEndI X Y hr hlk dX7_count_106 rfl rfl
            · skip
              rw [if_neg c_6] at hu
              by_cases c_7 : what = 6
              · rw [if_pos c_7] at hu
                refine lv_tableIn (tgt := 107) (off := 106) hx hb dX7_count_1 (by rw [c_7]; decide) (by rw [c_7]; decide) (by rw [c_7]; decide +kernel) (by decide) ?_
                refine lv_aload_n hx hb dX7_count_107 rfl (lv_at hl 0 rfl) ?_
                refine bGet (v := .ref qN) (T := TX7) (N := 10) (ci := 7) X Y i_X7_count_X7 0 rfl rfl 4 (Nat.le_of_ble_eq_true rfl) f_X7_count_36 rfl rfl dX7_count_108 ?_
                refine bGet (v := .int nk) (T := TX5) (N := 4) (ci := 5) X Y i_X7_count_X5 1 rfl rfl 3 (Nat.le_of_ble_eq_true rfl) f_X7_count_132 rfl rfl dX7_count_111 ?_
                subst hu
                exact bEndI X Y hr hlk dX7_count_114 rfl rfl
              · skip
                rw [if_neg c_7] at hu
                by_cases c_8 : what = 7
                · rw [if_pos c_8] at hu
                  refine lv_tableIn (tgt := 115) (off := 114) hx hb dX7_count_1 (by rw [c_8]; decide) (by rw [c_8]; decide) (by rw [c_8]; decide +kernel) (by decide) ?_
                  refine lv_aload_n hx hb dX7_count_115 rfl (lv_at hl 0 rfl) ?_
                  refine bGet (v := .int ud) (T := TX7) (N := 10) (ci := 7) X Y i_X7_count_X7 0 rfl rfl 9 (Nat.le_of_ble_eq_true rfl) f_X7_count_79 rfl rfl dX7_count_116 ?_
                  subst hu
                  exact bEndI X Y hr hlk dX7_count_119 rfl rfl
                · skip
                  rw [if_neg c_8] at hu
                  by_cases c_9 : what = 8
                  · rw [if_pos c_9] at hu
                    refine lv_tableIn (tgt := 120) (off := 119) hx hb dX7_count_1 (by rw [c_9]; decide) (by rw [c_9]; decide) (by rw [c_9]; decide +kernel) (by decide) ?_
                    refine lv_aload_n hx hb dX7_count_120 rfl (lv_at hl 0 rfl) ?_
                    refine bGet (v := .ref qT) (T := TX7) (N := 10) (ci := 7) X Y i_X7_count_X7 0 rfl rfl 0 (Nat.le_of_ble_eq_true rfl) f_X7_count_10 rfl rfl dX7_count_121 ?_
                    refine bGet (v := .int xn) (T := TX6) (N := 3) (ci := 6) X Y i_X7_count_X6 6 rfl rfl 1 (Nat.le_of_ble_eq_true rfl) f_X7_count_68 rfl rfl dX7_count_124 ?_
                    subst hu
                    exact bEndI X Y hr hlk dX7_count_127 rfl rfl
                  · skip
                    rw [if_neg c_9] at hu
                    by_cases c_10 : what = 9
                    · rw [if_pos c_10] at hu
                      refine lv_tableIn (tgt := 128) (off := 127) hx hb dX7_count_1 (by rw [c_10]; decide) (by rw [c_10]; decide) (by rw [c_10]; decide +kernel) (by decide) ?_
                      refine lv_aload_n hx hb dX7_count_128 rfl (lv_at hl 0 rfl) ?_
                      refine bGet (v := .ref qN) (T := TX7) (N := 10) (ci := 7) X Y i_X7_count_X7 0 rfl rfl 4 (Nat.le_of_ble_eq_true rfl) f_X7_count_36 rfl rfl dX7_count_129 ?_
                      refine bGet (v := .ref qNp) (T := TX5) (N := 4) (ci := 5) X Y i_X7_count_X5 1 rfl rfl 0 (Nat.le_of_ble_eq_true rfl) f_X7_count_95 rfl rfl dX7_count_132 ?_
                      refine lv_aload_n hx hb dX7_count_135 rfl (lv_at hl 0 rfl) ?_
                      refine bGet (v := .ref qR) (T := TX7) (N := 10) (ci := 7) X Y i_X7_count_X7 0 rfl rfl 2 (Nat.le_of_ble_eq_true rfl) f_X7_count_26 rfl rfl dX7_count_136 ?_
                      refine bVI0 (As := [.ref qR]) (rest := []) (wc := [(qNp, .inr (2, [.ref qNpl, .ref qNpr, .int nv])), (qNpl, .inr (0, [.int nl0, .int nl1, .int nl2, .int nl3, .int nl4, .int nl5, .int nl6, .int nl7, .int nl8, .int nl9, .int nl10, .int nl11, .int (bB nlb)])), (qNpr, .inr (0, [.int nr0, .int nr1, .int nr2, .int nr3, .int nr4, .int nr5, .int nr6, .int nr7, .int nr8, .int nr9, .int nr10, .int nr11, .int (bB nrb)])), (qR, .inr (1, [.int r0, .int r1, .int r2, .int r3, .int r4, .ref qRl, .ref qRr]))]) (ci := 2) (q0 := 2) X Y (c_freeBetween l D cyC cyI qNp nv qNpl nl0 nl1 nl2 nl3 nl4 nl5 nl6 nl7 nl8 nl9 nl10 nl11 nlb qNpr nr0 nr1 nr2 nr3 nr4 nr5 nr6 nr7 nr8 nr9 nr10 nr11 nrb qR qRl qRr r0 r1 r2 r3 r4 (s_freeBetween nl0 nr0 r1) rfl) gX7_count_X2_freeBetween rfl ⟨rfl, rfl⟩ hd_X2_freeBetween ⟨(Nat.le_of_ble_eq_true rfl), (Nat.le_of_ble_eq_true rfl)⟩ rfl rfl rfl [2, 3, 4, 5] rfl rfl rfl rfl hl.1 (Nat.le_of_ble_eq_true rfl) ⟨Nat.zero_le _, Nat.zero_le _⟩ dX7_count_139 (fun H locs Y => ?_)
                      subst hu
                      exact bEndI X Y hr hlk dX7_count_142 rfl rfl
                    · skip
                      rw [if_neg c_10] at hu
                      refine lv_tableOut (tgt := 143) hx hb dX7_count_1 (by have e0 := bNeI c_1 (show (0 : Int32).toInt = 0 by decide); have e1 := bNeI c_2 (show (1 : Int32).toInt = 1 by decide); have e2 := bNeI c_3 (show (2 : Int32).toInt = 2 by decide); have e3 := bNeI c_4 (show (3 : Int32).toInt = 3 by decide); have e4 := bNeI c_5 (show (4 : Int32).toInt = 4 by decide); have e5 := bNeI c_6 (show (5 : Int32).toInt = 5 by decide); have e6 := bNeI c_7 (show (6 : Int32).toInt = 6 by decide); have e7 := bNeI c_8 (show (7 : Int32).toInt = 7 by decide); have e8 := bNeI c_9 (show (8 : Int32).toInt = 8 by decide); have e9 := bNeI c_10 (show (9 : Int32).toInt = 9 by decide); omega) (by decide) ?_
                      refine lv_iconst (v := (-1)) hx hb dX7_count_143 (by decide) ?_
                      subst hu
                      exact bEndI X Y hr hlk dX7_count_144 rfl rfl
theorem i_X7_lay_X7 : ∀ w ∈ wsX70, w ∈ wsX7_lay := by decide +kernel
theorem f_X7_lay_10 : Cond.fieldLink RX7 10 "SwingCranes" "text" "LSwingCranes$Text;" ∈ wsX7_lay := by decide +kernel
theorem f_X7_lay_30 : Cond.fieldLink RX7 30 "SwingCranes" "draft" "LSwingCranes$Layout;" ∈ wsX7_lay := by decide +kernel
theorem hd_X1_holdsBoth : bD1 yX1_holdsBoth RX1 0 := by decide +kernel
def s_lay_no (xn : Int32) (xc : Nat → Int32) : Int32 × Int32 × Int32 × Int32 × Int32 × Int32 × Int32 × Int32 × Int32 × Int32 × Int32 × Int32 × Int32 :=
  match s_readInto xn xc with
  | (u_1_0, u_1_1, u_1_2, u_1_3, u_1_4, u_1_5, u_1_6, u_1_7, u_1_8, u_1_9, u_1_10, u_1_11, u_1_12) =>
    if u_1_0 = (-4) then
      ((-2), u_1_1, u_1_2, u_1_3, u_1_4, u_1_5, u_1_6, u_1_7, u_1_8, u_1_9, u_1_10, u_1_11, u_1_12)
    else
      ((-2), u_1_1, u_1_2, u_1_3, u_1_4, u_1_5, u_1_6, u_1_7, u_1_8, u_1_9, u_1_10, u_1_11, u_1_12)
set_option maxHeartbeats 4000000 in
set_option maxRecDepth 100000 in
theorem c_lay_no (l : Launch) (D : va_G) (cyC cyI : ClassId) (qM : Nat) (qT : Nat) (qQ : Nat) (qR : Nat) (qD : Nat) (qN : Nat) (q1 : Nat) (q2 : Nat) (q3 : Nat) (q4 : Nat) (ud : Int32) (qTt : Nat) (xn : Int32) (xi : Int32) (xc : Nat → Int32) (d0 : Int32) (d1 : Int32) (d2 : Int32) (d3 : Int32) (d4 : Int32) (qDl : Nat) (dx0 : Int32) (dx1 : Int32) (dx2 : Int32) (qDr : Nat) (dy0 : Int32) (dy1 : Int32) (dy2 : Int32) (o0 : Int32) (o1 : Int32) (o2 : Int32) (o3 : Int32) (o4 : Int32) (o5 : Int32) (o6 : Int32) (o7 : Int32) (o8 : Int32) (o9 : Int32) (o10 : Int32) (o11 : Int32) (o12 : Int32) (hu : s_lay_no xn xc = (o0, o1, o2, o3, o4, o5, o6, o7, o8, o9, o10, o11, o12)) (hno : ∀ u_1_0 u_1_1 u_1_2 u_1_3 u_1_4 u_1_5 u_1_6 u_1_7 u_1_8 u_1_9 u_1_10 u_1_11 u_1_12, s_readInto xn xc = (u_1_0, u_1_1, u_1_2, u_1_3, u_1_4, u_1_5, u_1_6, u_1_7, u_1_8, u_1_9, u_1_10, u_1_11, u_1_12) → u_1_0 = (-4) → ¬ ((s_holdsBoth u_1_2 u_1_3 u_1_7 u_1_10) = true)) : CI l yX7_lay wsX7_lay { frames := 5, cells := 0, slots := 0, locals := 114 } D cyC cyI [.ref qM] [(qM, .inr (7, [.ref qT, .ref qQ, .ref qR, .ref qD, .ref qN, .ref q1, .ref q2, .ref q3, .ref q4, .int ud])), (qT, .inr (6, [.ref qTt, .int xn, .int xi])), (qTt, .inl (cyC, 200, .inl xc)), (qD, .inr (1, [.int d0, .int d1, .int d2, .int d3, .int d4, .ref qDl, .ref qDr])), (qDl, .inr (4, [.int dx0, .int dx1, .int dx2])), (qDr, .inr (4, [.int dy0, .int dy1, .int dy2]))] o0 [(qM, .inr (7, [.ref qT, .ref qQ, .ref qR, .ref qD, .ref qN, .ref q1, .ref q2, .ref q3, .ref q4, .int ud])), (qT, .inr (6, [.ref qTt, .int xn, .int o1])), (qTt, .inl (cyC, 200, .inl xc)), (qD, .inr (1, [.int o2, .int o3, .int o4, .int o5, .int o6, .ref qDl, .ref qDr])), (qDl, .inr (4, [.int o7, .int o8, .int o9])), (qDr, .inr (4, [.int o10, .int o11, .int o12]))] := by
  refine CI.of (cc := cX7_lay) (n := 2) (ret := (some .int)) (by decide +kernel) rfl (Nat.le_of_ble_eq_true rfl) ?_
  intro p_ e_ s_ m_ bl_ me_ cd_ A_ ls X Y hr hlk hl
  have hx := X.1.1
  have hb := X.1.2.1
  have hl : lv_has ls 2 [(0, .ref qM)] := hl
  unfold s_lay_no at hu
  refine lv_aload_n hx hb dX7_lay_0 rfl (lv_at hl 0 rfl) ?_
  refine bGet (v := .ref qT) (T := TX7) (N := 10) (ci := 7) X Y i_X7_lay_X7 0 rfl rfl 0 (Nat.le_of_ble_eq_true rfl) f_X7_lay_10 rfl rfl dX7_lay_1 ?_
  refine lv_aload_n hx hb dX7_lay_4 rfl (lv_at hl 0 rfl) ?_
  refine bGet (v := .ref qD) (T := TX7) (N := 10) (ci := 7) X Y i_X7_lay_X7 0 rfl rfl 3 (Nat.le_of_ble_eq_true rfl) f_X7_lay_30 rfl rfl dX7_lay_5 ?_
  obtain ⟨u_1_0, u_1_1, u_1_2, u_1_3, u_1_4, u_1_5, u_1_6, u_1_7, u_1_8, u_1_9, u_1_10, u_1_11, u_1_12, hr_1⟩ := bEx13 (s_readInto xn xc)
  rw [hr_1] at hu
  dsimp only at hu
  refine bVI (As := [.ref qD]) (rest := []) (wc := [(qT, .inr (6, [.ref qTt, .int xn, .int xi])), (qTt, .inl (cyC, 200, .inl xc)), (qD, .inr (1, [.int d0, .int d1, .int d2, .int d3, .int d4, .ref qDl, .ref qDr])), (qDl, .inr (4, [.int dx0, .int dx1, .int dx2])), (qDr, .inr (4, [.int dy0, .int dy1, .int dy2]))]) (w1 := [(qT, .inr (6, [.ref qTt, .int xn, .int u_1_1])), (qTt, .inl (cyC, 200, .inl xc)), (qD, .inr (1, [.int u_1_2, .int u_1_3, .int u_1_4, .int u_1_5, .int u_1_6, .ref qDl, .ref qDr])), (qDl, .inr (4, [.int u_1_7, .int u_1_8, .int u_1_9])), (qDr, .inr (4, [.int u_1_10, .int u_1_11, .int u_1_12]))]) (ws' := [(qM, .inr (7, [.ref qT, .ref qQ, .ref qR, .ref qD, .ref qN, .ref q1, .ref q2, .ref q3, .ref q4, .int ud])), (qT, .inr (6, [.ref qTt, .int xn, .int u_1_1])), (qTt, .inl (cyC, 200, .inl xc)), (qD, .inr (1, [.int u_1_2, .int u_1_3, .int u_1_4, .int u_1_5, .int u_1_6, .ref qDl, .ref qDr])), (qDl, .inr (4, [.int u_1_7, .int u_1_8, .int u_1_9])), (qDr, .inr (4, [.int u_1_10, .int u_1_11, .int u_1_12]))]) (ad := [qT, qTt, qD, qDl, qDr]) (wr := [(qM, .inr (7, [.ref qT, .ref qQ, .ref qR, .ref qD, .ref qN, .ref q1, .ref q2, .ref q3, .ref q4, .int ud]))]) (nn := 6) (ci := 6) (q0 := 1) X Y (c_readInto l D cyC cyI qT qTt xn xi xc qD d0 d1 d2 d3 d4 qDl dx0 dx1 dx2 qDr dy0 dy1 dy2 u_1_0 u_1_1 u_1_2 u_1_3 u_1_4 u_1_5 u_1_6 u_1_7 u_1_8 u_1_9 u_1_10 u_1_11 u_1_12 hr_1) gX7_lay_X6_readInto rfl ⟨rfl, rfl⟩ hd_X6_readInto ⟨(Nat.le_of_ble_eq_true rfl), (Nat.le_of_ble_eq_true rfl)⟩ rfl rfl rfl [1, 2, 3, 4, 5] [0] rfl rfl rfl rfl rfl rfl rfl rfl (by decide) rfl rfl hl.1 (Nat.le_of_ble_eq_true rfl) ⟨Nat.zero_le _, Nat.zero_le _⟩ dX7_lay_8 (fun H locs Y => ?_)
  refine lv_bipush (v := (-4)) hx hb dX7_lay_11 (by decide) ?_
  refine lv_icmp_ne (tgt := 26) hx hb dX7_lay_13 (by decide) (fun c_2 => ?_) (fun c_2 => ?_)
  · have c_2 : ¬ (u_1_0 = (-4)) := c_2
    rw [if_neg c_2] at hu
    refine lv_bipush (v := (-2)) hx hb dX7_lay_26 (by decide) ?_
    have h9 := (Prod.mk.inj hu).1; replace hu := (Prod.mk.inj hu).2; subst h9
    have h9 := (Prod.mk.inj hu).1; replace hu := (Prod.mk.inj hu).2; subst h9
    have h9 := (Prod.mk.inj hu).1; replace hu := (Prod.mk.inj hu).2; subst h9
    have h9 := (Prod.mk.inj hu).1; replace hu := (Prod.mk.inj hu).2; subst h9
    have h9 := (Prod.mk.inj hu).1; replace hu := (Prod.mk.inj hu).2; subst h9
    have h9 := (Prod.mk.inj hu).1; replace hu := (Prod.mk.inj hu).2; subst h9
    have h9 := (Prod.mk.inj hu).1; replace hu := (Prod.mk.inj hu).2; subst h9
    have h9 := (Prod.mk.inj hu).1; replace hu := (Prod.mk.inj hu).2; subst h9
    have h9 := (Prod.mk.inj hu).1; replace hu := (Prod.mk.inj hu).2; subst h9
    have h9 := (Prod.mk.inj hu).1; replace hu := (Prod.mk.inj hu).2; subst h9
    have h9 := (Prod.mk.inj hu).1; replace hu := (Prod.mk.inj hu).2; subst h9
    have h9 := (Prod.mk.inj hu).1; replace hu := (Prod.mk.inj hu).2; subst h9
    subst hu
    exact bEndI X Y hr hlk dX7_lay_28 rfl rfl
  · have c_2 : u_1_0 = (-4) := c_2
    rw [if_pos c_2] at hu
    refine lv_aload_n hx hb dX7_lay_16 rfl (lv_at hl 0 rfl) ?_
    refine bGet (v := .ref qD) (T := TX7) (N := 10) (ci := 7) X Y i_X7_lay_X7 0 rfl rfl 3 (Nat.le_of_ble_eq_true rfl) f_X7_lay_30 rfl rfl dX7_lay_17 ?_
    refine bVI0 (As := []) (rest := []) (wc := [(qD, .inr (1, [.int u_1_2, .int u_1_3, .int u_1_4, .int u_1_5, .int u_1_6, .ref qDl, .ref qDr])), (qDl, .inr (4, [.int u_1_7, .int u_1_8, .int u_1_9])), (qDr, .inr (4, [.int u_1_10, .int u_1_11, .int u_1_12]))]) (ci := 1) (q0 := 3) X Y (c_holdsBoth l D cyC cyI qD u_1_2 u_1_3 u_1_4 u_1_5 u_1_6 qDl u_1_7 u_1_8 u_1_9 qDr u_1_10 u_1_11 u_1_12 (s_holdsBoth u_1_2 u_1_3 u_1_7 u_1_10) rfl) gX7_lay_X1_holdsBoth rfl ⟨rfl, rfl⟩ hd_X1_holdsBoth ⟨(Nat.le_of_ble_eq_true rfl), (Nat.le_of_ble_eq_true rfl)⟩ rfl rfl rfl [3, 4, 5] rfl rfl rfl rfl hl.1 (Nat.le_of_ble_eq_true rfl) ⟨Nat.zero_le _, Nat.zero_le _⟩ dX7_lay_20 (fun H locs Y => ?_)
    refine lv_if_ne (tgt := 29) hx hb dX7_lay_23 (by decide) (fun c_3 => ?_) (fun c_3 => ?_)
    · have c_3 := bB_t c_3
      exact absurd c_3 (hno _ _ _ _ _ _ _ _ _ _ _ _ _ hr_1 c_2)
    · have c_3 := bB_f c_3
      refine lv_bipush (v := (-2)) hx hb dX7_lay_26 (by decide) ?_
      have h9 := (Prod.mk.inj hu).1; replace hu := (Prod.mk.inj hu).2; subst h9
      have h9 := (Prod.mk.inj hu).1; replace hu := (Prod.mk.inj hu).2; subst h9
      have h9 := (Prod.mk.inj hu).1; replace hu := (Prod.mk.inj hu).2; subst h9
      have h9 := (Prod.mk.inj hu).1; replace hu := (Prod.mk.inj hu).2; subst h9
      have h9 := (Prod.mk.inj hu).1; replace hu := (Prod.mk.inj hu).2; subst h9
      have h9 := (Prod.mk.inj hu).1; replace hu := (Prod.mk.inj hu).2; subst h9
      have h9 := (Prod.mk.inj hu).1; replace hu := (Prod.mk.inj hu).2; subst h9
      have h9 := (Prod.mk.inj hu).1; replace hu := (Prod.mk.inj hu).2; subst h9
      have h9 := (Prod.mk.inj hu).1; replace hu := (Prod.mk.inj hu).2; subst h9
      have h9 := (Prod.mk.inj hu).1; replace hu := (Prod.mk.inj hu).2; subst h9
      have h9 := (Prod.mk.inj hu).1; replace hu := (Prod.mk.inj hu).2; subst h9
      have h9 := (Prod.mk.inj hu).1; replace hu := (Prod.mk.inj hu).2; subst h9
      subst hu
      exact bEndI X Y hr hlk dX7_lay_28 rfl rfl
theorem f_X7_lay_26 : Cond.fieldLink RX7 26 "SwingCranes" "rules" "LSwingCranes$Layout;" ∈ wsX7_lay := by decide +kernel
theorem f_X7_lay_36 : Cond.fieldLink RX7 36 "SwingCranes" "now" "LSwingCranes$Story;" ∈ wsX7_lay := by decide +kernel
theorem hd_X5_begin : bD1 yX5_begin RX5 1 := by decide +kernel
theorem f_X7_lay_79 : Cond.fieldLink RX7 79 "SwingCranes" "undoable" "I" ∈ wsX7_lay := by decide +kernel
theorem i_X7_lay_X1 : ∀ w ∈ wsX10, w ∈ wsX7_lay := by decide +kernel
theorem f_X7_lay_82 : Cond.fieldLink RX7 82 "SwingCranes$Layout" "end" "I" ∈ wsX7_lay := by decide +kernel
def s_lay_ok (xn : Int32) (xc : Nat → Int32) : Int32 × Int32 × Int32 × Int32 × Int32 × Int32 × Int32 × Int32 × Int32 × Int32 × Int32 × Int32 × Int32 × Int32 × Int32 × Int32 × Int32 × Int32 × Int32 × Int32 × Int32 :=
  match s_readInto xn xc with
  | (u_1_0, u_1_1, u_1_2, u_1_3, u_1_4, u_1_5, u_1_6, u_1_7, u_1_8, u_1_9, u_1_10, u_1_11, u_1_12) =>
    (u_1_2, u_1_1, u_1_2, u_1_3, u_1_4, u_1_5, u_1_6, u_1_7, u_1_8, u_1_9, u_1_10, u_1_11, u_1_12, u_1_7, u_1_8, u_1_9, u_1_8, u_1_10, u_1_11, u_1_12, u_1_11)
set_option maxHeartbeats 4000000 in
set_option maxRecDepth 100000 in
theorem c_lay_ok (l : Launch) (D : va_G) (cyC cyI : ClassId) (qM : Nat) (qT : Nat) (qQ : Nat) (qR : Nat) (qD : Nat) (qN : Nat) (q1 : Nat) (q2 : Nat) (q3 : Nat) (q4 : Nat) (ud : Int32) (qTt : Nat) (xn : Int32) (xi : Int32) (xc : Nat → Int32) (d0 : Int32) (d1 : Int32) (d2 : Int32) (d3 : Int32) (d4 : Int32) (qDl : Nat) (dx0 : Int32) (dx1 : Int32) (dx2 : Int32) (qDr : Nat) (dy0 : Int32) (dy1 : Int32) (dy2 : Int32) (qRl : Nat) (qRr : Nat) (r0 : Int32) (r1 : Int32) (r2 : Int32) (r3 : Int32) (r4 : Int32) (nk : Int32) (qNp : Nat) (nv : Int32) (qNpl : Nat) (nl0 : Int32) (nl1 : Int32) (nl2 : Int32) (nl3 : Int32) (nl4 : Int32) (nl5 : Int32) (nl6 : Int32) (nl7 : Int32) (nl8 : Int32) (nl9 : Int32) (nl10 : Int32) (nl11 : Int32) (nlb : Bool) (qNpr : Nat) (nr0 : Int32) (nr1 : Int32) (nr2 : Int32) (nr3 : Int32) (nr4 : Int32) (nr5 : Int32) (nr6 : Int32) (nr7 : Int32) (nr8 : Int32) (nr9 : Int32) (nr10 : Int32) (nr11 : Int32) (nrb : Bool) (qNs : Nat) (qNsn : Nat) (qNst : Nat) (nsm : Int32) (nsf : Nat → Int32) (nsg : Nat → Int32) (qNz : Nat) (qNzn : Nat) (qNzt : Nat) (nzm : Int32) (nzf : Nat → Int32) (nzg : Nat → Int32) (o0 : Int32) (o1 : Int32) (o2 : Int32) (o3 : Int32) (o4 : Int32) (o5 : Int32) (o6 : Int32) (o7 : Int32) (o8 : Int32) (o9 : Int32) (o10 : Int32) (o11 : Int32) (o12 : Int32) (o13 : Int32) (o14 : Int32) (o15 : Int32) (o16 : Int32) (o17 : Int32) (o18 : Int32) (o19 : Int32) (o20 : Int32) (hu : s_lay_ok xn xc = (o0, o1, o2, o3, o4, o5, o6, o7, o8, o9, o10, o11, o12, o13, o14, o15, o16, o17, o18, o19, o20)) (hok : ∀ u_1_0 u_1_1 u_1_2 u_1_3 u_1_4 u_1_5 u_1_6 u_1_7 u_1_8 u_1_9 u_1_10 u_1_11 u_1_12, s_readInto xn xc = (u_1_0, u_1_1, u_1_2, u_1_3, u_1_4, u_1_5, u_1_6, u_1_7, u_1_8, u_1_9, u_1_10, u_1_11, u_1_12) → u_1_0 = (-4) ∧ ((s_holdsBoth u_1_2 u_1_3 u_1_7 u_1_10) = true)) : CI l yX7_lay wsX7_lay { frames := 5, cells := 0, slots := 0, locals := 114 } D cyC cyI [.ref qM] [(qM, .inr (7, [.ref qT, .ref qQ, .ref qR, .ref qD, .ref qN, .ref q1, .ref q2, .ref q3, .ref q4, .int ud])), (qT, .inr (6, [.ref qTt, .int xn, .int xi])), (qTt, .inl (cyC, 200, .inl xc)), (qD, .inr (1, [.int d0, .int d1, .int d2, .int d3, .int d4, .ref qDl, .ref qDr])), (qDl, .inr (4, [.int dx0, .int dx1, .int dx2])), (qDr, .inr (4, [.int dy0, .int dy1, .int dy2])), (qR, .inr (1, [.int r0, .int r1, .int r2, .int r3, .int r4, .ref qRl, .ref qRr])), (qN, .inr (5, [.ref qNp, .ref qNs, .ref qNz, .int nk])), (qNp, .inr (2, [.ref qNpl, .ref qNpr, .int nv])), (qNpl, .inr (0, [.int nl0, .int nl1, .int nl2, .int nl3, .int nl4, .int nl5, .int nl6, .int nl7, .int nl8, .int nl9, .int nl10, .int nl11, .int (bB nlb)])), (qNpr, .inr (0, [.int nr0, .int nr1, .int nr2, .int nr3, .int nr4, .int nr5, .int nr6, .int nr7, .int nr8, .int nr9, .int nr10, .int nr11, .int (bB nrb)])), (qNs, .inr (3, [.ref qNsn, .ref qNst, .int nsm])), (qNsn, .inl (cyI, 120, .inl nsf)), (qNst, .inl (cyI, 120, .inl nsg)), (qNz, .inr (3, [.ref qNzn, .ref qNzt, .int nzm])), (qNzn, .inl (cyI, 120, .inl nzf)), (qNzt, .inl (cyI, 120, .inl nzg))] o0 [(qM, .inr (7, [.ref qT, .ref qQ, .ref qD, .ref qR, .ref qN, .ref q1, .ref q2, .ref q3, .ref q4, .int 0])), (qT, .inr (6, [.ref qTt, .int xn, .int o1])), (qTt, .inl (cyC, 200, .inl xc)), (qD, .inr (1, [.int o2, .int o3, .int o4, .int o5, .int o6, .ref qDl, .ref qDr])), (qDl, .inr (4, [.int o7, .int o8, .int o9])), (qDr, .inr (4, [.int o10, .int o11, .int o12])), (qR, .inr (1, [.int r0, .int r1, .int r2, .int r3, .int r4, .ref qRl, .ref qRr])), (qN, .inr (5, [.ref qNp, .ref qNs, .ref qNz, .int 0])), (qNp, .inr (2, [.ref qNpl, .ref qNpr, .int (-4)])), (qNpl, .inr (0, [.int o13, .int 0, .int o14, .int o15, .int 0, .int 0, .int 0, .int o16, .int 1, .int 0, .int (1 + 0), .int 0, .int (bB false)])), (qNpr, .inr (0, [.int o17, .int 0, .int o18, .int o19, .int 0, .int 0, .int 0, .int o20, .int 1, .int 0, .int (1 + 0), .int 0, .int (bB false)])), (qNs, .inr (3, [.ref qNsn, .ref qNst, .int 0])), (qNsn, .inl (cyI, 120, .inl nsf)), (qNst, .inl (cyI, 120, .inl nsg)), (qNz, .inr (3, [.ref qNzn, .ref qNzt, .int 0])), (qNzn, .inl (cyI, 120, .inl nzf)), (qNzt, .inl (cyI, 120, .inl nzg))] := by
  refine CI.of (cc := cX7_lay) (n := 2) (ret := (some .int)) (by decide +kernel) rfl (Nat.le_of_ble_eq_true rfl) ?_
  intro p_ e_ s_ m_ bl_ me_ cd_ A_ ls X Y hr hlk hl
  have hx := X.1.1
  have hb := X.1.2.1
  have hl : lv_has ls 2 [(0, .ref qM)] := hl
  unfold s_lay_ok at hu
  refine lv_aload_n hx hb dX7_lay_0 rfl (lv_at hl 0 rfl) ?_
  refine bGet (v := .ref qT) (T := TX7) (N := 10) (ci := 7) X Y i_X7_lay_X7 0 rfl rfl 0 (Nat.le_of_ble_eq_true rfl) f_X7_lay_10 rfl rfl dX7_lay_1 ?_
  refine lv_aload_n hx hb dX7_lay_4 rfl (lv_at hl 0 rfl) ?_
  refine bGet (v := .ref qD) (T := TX7) (N := 10) (ci := 7) X Y i_X7_lay_X7 0 rfl rfl 3 (Nat.le_of_ble_eq_true rfl) f_X7_lay_30 rfl rfl dX7_lay_5 ?_
  obtain ⟨u_1_0, u_1_1, u_1_2, u_1_3, u_1_4, u_1_5, u_1_6, u_1_7, u_1_8, u_1_9, u_1_10, u_1_11, u_1_12, hr_1⟩ := bEx13 (s_readInto xn xc)
  rw [hr_1] at hu
  dsimp only at hu
  refine bVI (As := [.ref qD]) (rest := []) (wc := [(qT, .inr (6, [.ref qTt, .int xn, .int xi])), (qTt, .inl (cyC, 200, .inl xc)), (qD, .inr (1, [.int d0, .int d1, .int d2, .int d3, .int d4, .ref qDl, .ref qDr])), (qDl, .inr (4, [.int dx0, .int dx1, .int dx2])), (qDr, .inr (4, [.int dy0, .int dy1, .int dy2]))]) (w1 := [(qT, .inr (6, [.ref qTt, .int xn, .int u_1_1])), (qTt, .inl (cyC, 200, .inl xc)), (qD, .inr (1, [.int u_1_2, .int u_1_3, .int u_1_4, .int u_1_5, .int u_1_6, .ref qDl, .ref qDr])), (qDl, .inr (4, [.int u_1_7, .int u_1_8, .int u_1_9])), (qDr, .inr (4, [.int u_1_10, .int u_1_11, .int u_1_12]))]) (ws' := [(qM, .inr (7, [.ref qT, .ref qQ, .ref qR, .ref qD, .ref qN, .ref q1, .ref q2, .ref q3, .ref q4, .int ud])), (qT, .inr (6, [.ref qTt, .int xn, .int u_1_1])), (qTt, .inl (cyC, 200, .inl xc)), (qD, .inr (1, [.int u_1_2, .int u_1_3, .int u_1_4, .int u_1_5, .int u_1_6, .ref qDl, .ref qDr])), (qDl, .inr (4, [.int u_1_7, .int u_1_8, .int u_1_9])), (qDr, .inr (4, [.int u_1_10, .int u_1_11, .int u_1_12])), (qR, .inr (1, [.int r0, .int r1, .int r2, .int r3, .int r4, .ref qRl, .ref qRr])), (qN, .inr (5, [.ref qNp, .ref qNs, .ref qNz, .int nk])), (qNp, .inr (2, [.ref qNpl, .ref qNpr, .int nv])), (qNpl, .inr (0, [.int nl0, .int nl1, .int nl2, .int nl3, .int nl4, .int nl5, .int nl6, .int nl7, .int nl8, .int nl9, .int nl10, .int nl11, .int (bB nlb)])), (qNpr, .inr (0, [.int nr0, .int nr1, .int nr2, .int nr3, .int nr4, .int nr5, .int nr6, .int nr7, .int nr8, .int nr9, .int nr10, .int nr11, .int (bB nrb)])), (qNs, .inr (3, [.ref qNsn, .ref qNst, .int nsm])), (qNsn, .inl (cyI, 120, .inl nsf)), (qNst, .inl (cyI, 120, .inl nsg)), (qNz, .inr (3, [.ref qNzn, .ref qNzt, .int nzm])), (qNzn, .inl (cyI, 120, .inl nzf)), (qNzt, .inl (cyI, 120, .inl nzg))]) (ad := [qT, qTt, qD, qDl, qDr]) (wr := [(qM, .inr (7, [.ref qT, .ref qQ, .ref qR, .ref qD, .ref qN, .ref q1, .ref q2, .ref q3, .ref q4, .int ud])), (qR, .inr (1, [.int r0, .int r1, .int r2, .int r3, .int r4, .ref qRl, .ref qRr])), (qN, .inr (5, [.ref qNp, .ref qNs, .ref qNz, .int nk])), (qNp, .inr (2, [.ref qNpl, .ref qNpr, .int nv])), (qNpl, .inr (0, [.int nl0, .int nl1, .int nl2, .int nl3, .int nl4, .int nl5, .int nl6, .int nl7, .int nl8, .int nl9, .int nl10, .int nl11, .int (bB nlb)])), (qNpr, .inr (0, [.int nr0, .int nr1, .int nr2, .int nr3, .int nr4, .int nr5, .int nr6, .int nr7, .int nr8, .int nr9, .int nr10, .int nr11, .int (bB nrb)])), (qNs, .inr (3, [.ref qNsn, .ref qNst, .int nsm])), (qNsn, .inl (cyI, 120, .inl nsf)), (qNst, .inl (cyI, 120, .inl nsg)), (qNz, .inr (3, [.ref qNzn, .ref qNzt, .int nzm])), (qNzn, .inl (cyI, 120, .inl nzf)), (qNzt, .inl (cyI, 120, .inl nzg))]) (nn := 17) (ci := 6) (q0 := 1) X Y (c_readInto l D cyC cyI qT qTt xn xi xc qD d0 d1 d2 d3 d4 qDl dx0 dx1 dx2 qDr dy0 dy1 dy2 u_1_0 u_1_1 u_1_2 u_1_3 u_1_4 u_1_5 u_1_6 u_1_7 u_1_8 u_1_9 u_1_10 u_1_11 u_1_12 hr_1) gX7_lay_X6_readInto rfl ⟨rfl, rfl⟩ hd_X6_readInto ⟨(Nat.le_of_ble_eq_true rfl), (Nat.le_of_ble_eq_true rfl)⟩ rfl rfl rfl [1, 2, 3, 4, 5] [0, 6, 7, 8, 9, 10, 11, 12, 13, 14, 15, 16] rfl rfl rfl rfl rfl rfl rfl rfl (by decide) rfl rfl hl.1 (Nat.le_of_ble_eq_true rfl) ⟨Nat.zero_le _, Nat.zero_le _⟩ dX7_lay_8 (fun H locs Y => ?_)
  refine lv_bipush (v := (-4)) hx hb dX7_lay_11 (by decide) ?_
  refine lv_icmp_ne (tgt := 26) hx hb dX7_lay_13 (by decide) (fun c_2 => ?_) (fun c_2 => ?_)
  · have c_2 : ¬ (u_1_0 = (-4)) := c_2
    exact absurd (hok _ _ _ _ _ _ _ _ _ _ _ _ _ hr_1).1 c_2
  · have c_2 : u_1_0 = (-4) := c_2
    refine lv_aload_n hx hb dX7_lay_16 rfl (lv_at hl 0 rfl) ?_
    refine bGet (v := .ref qD) (T := TX7) (N := 10) (ci := 7) X Y i_X7_lay_X7 0 rfl rfl 3 (Nat.le_of_ble_eq_true rfl) f_X7_lay_30 rfl rfl dX7_lay_17 ?_
    refine bVI0 (As := []) (rest := []) (wc := [(qD, .inr (1, [.int u_1_2, .int u_1_3, .int u_1_4, .int u_1_5, .int u_1_6, .ref qDl, .ref qDr])), (qDl, .inr (4, [.int u_1_7, .int u_1_8, .int u_1_9])), (qDr, .inr (4, [.int u_1_10, .int u_1_11, .int u_1_12]))]) (ci := 1) (q0 := 3) X Y (c_holdsBoth l D cyC cyI qD u_1_2 u_1_3 u_1_4 u_1_5 u_1_6 qDl u_1_7 u_1_8 u_1_9 qDr u_1_10 u_1_11 u_1_12 (s_holdsBoth u_1_2 u_1_3 u_1_7 u_1_10) rfl) gX7_lay_X1_holdsBoth rfl ⟨rfl, rfl⟩ hd_X1_holdsBoth ⟨(Nat.le_of_ble_eq_true rfl), (Nat.le_of_ble_eq_true rfl)⟩ rfl rfl rfl [3, 4, 5] rfl rfl rfl rfl hl.1 (Nat.le_of_ble_eq_true rfl) ⟨Nat.zero_le _, Nat.zero_le _⟩ dX7_lay_20 (fun H locs Y => ?_)
    refine lv_if_ne (tgt := 29) hx hb dX7_lay_23 (by decide) (fun c_3 => ?_) (fun c_3 => ?_)
    · have c_3 := bB_t c_3
      refine lv_aload_n hx hb dX7_lay_29 rfl (lv_at hl 0 rfl) ?_
      refine bGet (v := .ref qD) (T := TX7) (N := 10) (ci := 7) X Y i_X7_lay_X7 0 rfl rfl 3 (Nat.le_of_ble_eq_true rfl) f_X7_lay_30 rfl rfl dX7_lay_30 ?_
      refine lv_astore_n (lv' := [(1, .ref qD), (0, .ref qM)]) hx hb dX7_lay_33 rfl hl (by decide) rfl (fun ls hl => ?_)
      refine lv_aload_n hx hb dX7_lay_34 rfl (lv_at hl 1 rfl) ?_
      refine lv_aload_n hx hb dX7_lay_35 rfl (lv_at hl 1 rfl) ?_
      refine bGet (v := .ref qR) (T := TX7) (N := 10) (ci := 7) X Y i_X7_lay_X7 0 rfl rfl 2 (Nat.le_of_ble_eq_true rfl) f_X7_lay_26 rfl rfl dX7_lay_36 ?_
      refine bPut (T := TX7) (N := 10) (ci := 7) (ws' := [(qM, .inr (7, [.ref qT, .ref qQ, .ref qR, .ref qR, .ref qN, .ref q1, .ref q2, .ref q3, .ref q4, .int ud])), (qT, .inr (6, [.ref qTt, .int xn, .int u_1_1])), (qTt, .inl (cyC, 200, .inl xc)), (qD, .inr (1, [.int u_1_2, .int u_1_3, .int u_1_4, .int u_1_5, .int u_1_6, .ref qDl, .ref qDr])), (qDl, .inr (4, [.int u_1_7, .int u_1_8, .int u_1_9])), (qDr, .inr (4, [.int u_1_10, .int u_1_11, .int u_1_12])), (qR, .inr (1, [.int r0, .int r1, .int r2, .int r3, .int r4, .ref qRl, .ref qRr])), (qN, .inr (5, [.ref qNp, .ref qNs, .ref qNz, .int nk])), (qNp, .inr (2, [.ref qNpl, .ref qNpr, .int nv])), (qNpl, .inr (0, [.int nl0, .int nl1, .int nl2, .int nl3, .int nl4, .int nl5, .int nl6, .int nl7, .int nl8, .int nl9, .int nl10, .int nl11, .int (bB nlb)])), (qNpr, .inr (0, [.int nr0, .int nr1, .int nr2, .int nr3, .int nr4, .int nr5, .int nr6, .int nr7, .int nr8, .int nr9, .int nr10, .int nr11, .int (bB nrb)])), (qNs, .inr (3, [.ref qNsn, .ref qNst, .int nsm])), (qNsn, .inl (cyI, 120, .inl nsf)), (qNst, .inl (cyI, 120, .inl nsg)), (qNz, .inr (3, [.ref qNzn, .ref qNzt, .int nzm])), (qNzn, .inl (cyI, 120, .inl nzf)), (qNzt, .inl (cyI, 120, .inl nzg))]) X Y i_X7_lay_X7 tyX7 tyX7_ok nmX7 0 rfl rfl 3 (Nat.le_of_ble_eq_true rfl) f_X7_lay_30 rfl rfl rfl rfl (Nat.le_of_ble_eq_true rfl) rfl dX7_lay_39 (fun H locs Y => ?_)
      refine lv_aload_n hx hb dX7_lay_42 rfl (lv_at hl 1 rfl) ?_
      refine lv_aload_n hx hb dX7_lay_43 rfl (lv_at hl 0 rfl) ?_
      refine bPut (T := TX7) (N := 10) (ci := 7) (ws' := [(qM, .inr (7, [.ref qT, .ref qQ, .ref qD, .ref qR, .ref qN, .ref q1, .ref q2, .ref q3, .ref q4, .int ud])), (qT, .inr (6, [.ref qTt, .int xn, .int u_1_1])), (qTt, .inl (cyC, 200, .inl xc)), (qD, .inr (1, [.int u_1_2, .int u_1_3, .int u_1_4, .int u_1_5, .int u_1_6, .ref qDl, .ref qDr])), (qDl, .inr (4, [.int u_1_7, .int u_1_8, .int u_1_9])), (qDr, .inr (4, [.int u_1_10, .int u_1_11, .int u_1_12])), (qR, .inr (1, [.int r0, .int r1, .int r2, .int r3, .int r4, .ref qRl, .ref qRr])), (qN, .inr (5, [.ref qNp, .ref qNs, .ref qNz, .int nk])), (qNp, .inr (2, [.ref qNpl, .ref qNpr, .int nv])), (qNpl, .inr (0, [.int nl0, .int nl1, .int nl2, .int nl3, .int nl4, .int nl5, .int nl6, .int nl7, .int nl8, .int nl9, .int nl10, .int nl11, .int (bB nlb)])), (qNpr, .inr (0, [.int nr0, .int nr1, .int nr2, .int nr3, .int nr4, .int nr5, .int nr6, .int nr7, .int nr8, .int nr9, .int nr10, .int nr11, .int (bB nrb)])), (qNs, .inr (3, [.ref qNsn, .ref qNst, .int nsm])), (qNsn, .inl (cyI, 120, .inl nsf)), (qNst, .inl (cyI, 120, .inl nsg)), (qNz, .inr (3, [.ref qNzn, .ref qNzt, .int nzm])), (qNzn, .inl (cyI, 120, .inl nzf)), (qNzt, .inl (cyI, 120, .inl nzg))]) X Y i_X7_lay_X7 tyX7 tyX7_ok nmX7 0 rfl rfl 2 (Nat.le_of_ble_eq_true rfl) f_X7_lay_26 rfl rfl rfl rfl (Nat.le_of_ble_eq_true rfl) rfl dX7_lay_44 (fun H locs Y => ?_)
      refine lv_aload_n hx hb dX7_lay_47 rfl (lv_at hl 1 rfl) ?_
      refine bGet (v := .ref qN) (T := TX7) (N := 10) (ci := 7) X Y i_X7_lay_X7 0 rfl rfl 4 (Nat.le_of_ble_eq_true rfl) f_X7_lay_36 rfl rfl dX7_lay_48 ?_
      refine lv_aload_n hx hb dX7_lay_51 rfl (lv_at hl 1 rfl) ?_
      refine bGet (v := .ref qD) (T := TX7) (N := 10) (ci := 7) X Y i_X7_lay_X7 0 rfl rfl 2 (Nat.le_of_ble_eq_true rfl) f_X7_lay_26 rfl rfl dX7_lay_52 ?_
      refine bVV (As := [.ref qD]) (rest := []) (wc := [(qN, .inr (5, [.ref qNp, .ref qNs, .ref qNz, .int nk])), (qNp, .inr (2, [.ref qNpl, .ref qNpr, .int nv])), (qNpl, .inr (0, [.int nl0, .int nl1, .int nl2, .int nl3, .int nl4, .int nl5, .int nl6, .int nl7, .int nl8, .int nl9, .int nl10, .int nl11, .int (bB nlb)])), (qNpr, .inr (0, [.int nr0, .int nr1, .int nr2, .int nr3, .int nr4, .int nr5, .int nr6, .int nr7, .int nr8, .int nr9, .int nr10, .int nr11, .int (bB nrb)])), (qNs, .inr (3, [.ref qNsn, .ref qNst, .int nsm])), (qNsn, .inl (cyI, 120, .inl nsf)), (qNst, .inl (cyI, 120, .inl nsg)), (qNz, .inr (3, [.ref qNzn, .ref qNzt, .int nzm])), (qNzn, .inl (cyI, 120, .inl nzf)), (qNzt, .inl (cyI, 120, .inl nzg)), (qD, .inr (1, [.int u_1_2, .int u_1_3, .int u_1_4, .int u_1_5, .int u_1_6, .ref qDl, .ref qDr])), (qDl, .inr (4, [.int u_1_7, .int u_1_8, .int u_1_9])), (qDr, .inr (4, [.int u_1_10, .int u_1_11, .int u_1_12]))]) (w1 := [(qN, .inr (5, [.ref qNp, .ref qNs, .ref qNz, .int 0])), (qNp, .inr (2, [.ref qNpl, .ref qNpr, .int (-4)])), (qNpl, .inr (0, [.int u_1_7, .int 0, .int u_1_8, .int u_1_9, .int 0, .int 0, .int 0, .int u_1_8, .int 1, .int 0, .int (1 + 0), .int 0, .int (bB false)])), (qNpr, .inr (0, [.int u_1_10, .int 0, .int u_1_11, .int u_1_12, .int 0, .int 0, .int 0, .int u_1_11, .int 1, .int 0, .int (1 + 0), .int 0, .int (bB false)])), (qNs, .inr (3, [.ref qNsn, .ref qNst, .int 0])), (qNsn, .inl (cyI, 120, .inl nsf)), (qNst, .inl (cyI, 120, .inl nsg)), (qNz, .inr (3, [.ref qNzn, .ref qNzt, .int 0])), (qNzn, .inl (cyI, 120, .inl nzf)), (qNzt, .inl (cyI, 120, .inl nzg)), (qD, .inr (1, [.int u_1_2, .int u_1_3, .int u_1_4, .int u_1_5, .int u_1_6, .ref qDl, .ref qDr])), (qDl, .inr (4, [.int u_1_7, .int u_1_8, .int u_1_9])), (qDr, .inr (4, [.int u_1_10, .int u_1_11, .int u_1_12]))]) (ws' := [(qM, .inr (7, [.ref qT, .ref qQ, .ref qD, .ref qR, .ref qN, .ref q1, .ref q2, .ref q3, .ref q4, .int ud])), (qT, .inr (6, [.ref qTt, .int xn, .int u_1_1])), (qTt, .inl (cyC, 200, .inl xc)), (qD, .inr (1, [.int u_1_2, .int u_1_3, .int u_1_4, .int u_1_5, .int u_1_6, .ref qDl, .ref qDr])), (qDl, .inr (4, [.int u_1_7, .int u_1_8, .int u_1_9])), (qDr, .inr (4, [.int u_1_10, .int u_1_11, .int u_1_12])), (qR, .inr (1, [.int r0, .int r1, .int r2, .int r3, .int r4, .ref qRl, .ref qRr])), (qN, .inr (5, [.ref qNp, .ref qNs, .ref qNz, .int 0])), (qNp, .inr (2, [.ref qNpl, .ref qNpr, .int (-4)])), (qNpl, .inr (0, [.int u_1_7, .int 0, .int u_1_8, .int u_1_9, .int 0, .int 0, .int 0, .int u_1_8, .int 1, .int 0, .int (1 + 0), .int 0, .int (bB false)])), (qNpr, .inr (0, [.int u_1_10, .int 0, .int u_1_11, .int u_1_12, .int 0, .int 0, .int 0, .int u_1_11, .int 1, .int 0, .int (1 + 0), .int 0, .int (bB false)])), (qNs, .inr (3, [.ref qNsn, .ref qNst, .int 0])), (qNsn, .inl (cyI, 120, .inl nsf)), (qNst, .inl (cyI, 120, .inl nsg)), (qNz, .inr (3, [.ref qNzn, .ref qNzt, .int 0])), (qNzn, .inl (cyI, 120, .inl nzf)), (qNzt, .inl (cyI, 120, .inl nzg))]) (ad := [qN, qNp, qNpl, qNpr, qNs, qNsn, qNst, qNz, qNzn, qNzt, qD, qDl, qDr]) (wr := [(qM, .inr (7, [.ref qT, .ref qQ, .ref qD, .ref qR, .ref qN, .ref q1, .ref q2, .ref q3, .ref q4, .int ud])), (qT, .inr (6, [.ref qTt, .int xn, .int u_1_1])), (qTt, .inl (cyC, 200, .inl xc)), (qR, .inr (1, [.int r0, .int r1, .int r2, .int r3, .int r4, .ref qRl, .ref qRr]))]) (nn := 17) (ci := 5) (q0 := 7) X Y (c_storyBegin l D cyC cyI qN nk qNp nv qNpl nl0 nl1 nl2 nl3 nl4 nl5 nl6 nl7 nl8 nl9 nl10 nl11 nlb qNpr nr0 nr1 nr2 nr3 nr4 nr5 nr6 nr7 nr8 nr9 nr10 nr11 nrb qNs qNsn qNst nsm nsf nsg qNz qNzn qNzt nzm nzf nzg qD u_1_2 u_1_3 u_1_4 u_1_5 u_1_6 qDl u_1_7 u_1_8 u_1_9 qDr u_1_10 u_1_11 u_1_12) gX7_lay_X5_begin rfl ⟨rfl, rfl⟩ hd_X5_begin ⟨(Nat.le_of_ble_eq_true rfl), (Nat.le_of_ble_eq_true rfl)⟩ rfl rfl rfl [7, 8, 9, 10, 11, 12, 13, 14, 15, 16, 3, 4, 5] [0, 1, 2, 6] rfl rfl rfl rfl rfl rfl rfl rfl (by decide) rfl rfl hl.1 (Nat.le_of_ble_eq_true rfl) ⟨Nat.zero_le _, Nat.zero_le _⟩ dX7_lay_55 (fun H locs Y => ?_)
      refine lv_aload_n hx hb dX7_lay_58 rfl (lv_at hl 1 rfl) ?_
      refine lv_iconst (v := 0) hx hb dX7_lay_59 (by decide) ?_
      refine bPut (T := TX7) (N := 10) (ci := 7) (ws' := [(qM, .inr (7, [.ref qT, .ref qQ, .ref qD, .ref qR, .ref qN, .ref q1, .ref q2, .ref q3, .ref q4, .int 0])), (qT, .inr (6, [.ref qTt, .int xn, .int u_1_1])), (qTt, .inl (cyC, 200, .inl xc)), (qD, .inr (1, [.int u_1_2, .int u_1_3, .int u_1_4, .int u_1_5, .int u_1_6, .ref qDl, .ref qDr])), (qDl, .inr (4, [.int u_1_7, .int u_1_8, .int u_1_9])), (qDr, .inr (4, [.int u_1_10, .int u_1_11, .int u_1_12])), (qR, .inr (1, [.int r0, .int r1, .int r2, .int r3, .int r4, .ref qRl, .ref qRr])), (qN, .inr (5, [.ref qNp, .ref qNs, .ref qNz, .int 0])), (qNp, .inr (2, [.ref qNpl, .ref qNpr, .int (-4)])), (qNpl, .inr (0, [.int u_1_7, .int 0, .int u_1_8, .int u_1_9, .int 0, .int 0, .int 0, .int u_1_8, .int 1, .int 0, .int (1 + 0), .int 0, .int (bB false)])), (qNpr, .inr (0, [.int u_1_10, .int 0, .int u_1_11, .int u_1_12, .int 0, .int 0, .int 0, .int u_1_11, .int 1, .int 0, .int (1 + 0), .int 0, .int (bB false)])), (qNs, .inr (3, [.ref qNsn, .ref qNst, .int 0])), (qNsn, .inl (cyI, 120, .inl nsf)), (qNst, .inl (cyI, 120, .inl nsg)), (qNz, .inr (3, [.ref qNzn, .ref qNzt, .int 0])), (qNzn, .inl (cyI, 120, .inl nzf)), (qNzt, .inl (cyI, 120, .inl nzg))]) X Y i_X7_lay_X7 tyX7 tyX7_ok nmX7 0 rfl rfl 9 (Nat.le_of_ble_eq_true rfl) f_X7_lay_79 rfl rfl rfl rfl (Nat.le_of_ble_eq_true rfl) rfl dX7_lay_60 (fun H locs Y => ?_)
      refine lv_aload_n hx hb dX7_lay_63 rfl (lv_at hl 1 rfl) ?_
      refine bGet (v := .ref qD) (T := TX7) (N := 10) (ci := 7) X Y i_X7_lay_X7 0 rfl rfl 2 (Nat.le_of_ble_eq_true rfl) f_X7_lay_26 rfl rfl dX7_lay_64 ?_
      refine bGet (v := .int u_1_2) (T := TX1) (N := 7) (ci := 1) X Y i_X7_lay_X1 3 rfl rfl 0 (Nat.le_of_ble_eq_true rfl) f_X7_lay_82 rfl rfl dX7_lay_67 ?_
      have h9 := (Prod.mk.inj hu).1; replace hu := (Prod.mk.inj hu).2; subst h9
      have h9 := (Prod.mk.inj hu).1; replace hu := (Prod.mk.inj hu).2; subst h9
      have h9 := (Prod.mk.inj hu).1; replace hu := (Prod.mk.inj hu).2; subst h9
      have h9 := (Prod.mk.inj hu).1; replace hu := (Prod.mk.inj hu).2; subst h9
      have h9 := (Prod.mk.inj hu).1; replace hu := (Prod.mk.inj hu).2; subst h9
      have h9 := (Prod.mk.inj hu).1; replace hu := (Prod.mk.inj hu).2; subst h9
      have h9 := (Prod.mk.inj hu).1; replace hu := (Prod.mk.inj hu).2; subst h9
      have h9 := (Prod.mk.inj hu).1; replace hu := (Prod.mk.inj hu).2; subst h9
      have h9 := (Prod.mk.inj hu).1; replace hu := (Prod.mk.inj hu).2; subst h9
      have h9 := (Prod.mk.inj hu).1; replace hu := (Prod.mk.inj hu).2; subst h9
      have h9 := (Prod.mk.inj hu).1; replace hu := (Prod.mk.inj hu).2; subst h9
      have h9 := (Prod.mk.inj hu).1; replace hu := (Prod.mk.inj hu).2; subst h9
      have h9 := (Prod.mk.inj hu).1; replace hu := (Prod.mk.inj hu).2; subst h9
      have h9 := (Prod.mk.inj hu).1; replace hu := (Prod.mk.inj hu).2; subst h9
      have h9 := (Prod.mk.inj hu).1; replace hu := (Prod.mk.inj hu).2; subst h9
      have h9 := (Prod.mk.inj hu).1; replace hu := (Prod.mk.inj hu).2; subst h9
      have h9 := (Prod.mk.inj hu).1; replace hu := (Prod.mk.inj hu).2; subst h9
      have h9 := (Prod.mk.inj hu).1; replace hu := (Prod.mk.inj hu).2; subst h9
      have h9 := (Prod.mk.inj hu).1; replace hu := (Prod.mk.inj hu).2; subst h9
      have h9 := (Prod.mk.inj hu).1; replace hu := (Prod.mk.inj hu).2; subst h9
      subst hu
      exact bEndI X Y hr hlk dX7_lay_70 rfl rfl
    · have c_3 := bB_f c_3
      exact absurd (hok _ _ _ _ _ _ _ _ _ _ _ _ _ hr_1).2 c_3
