def s_isWithin (n : Int32) (lo : Int32) (hi : Int32) : Bool :=
  if n < lo then
    false
  else
    if hi < n then
      false
    else
      true
set_option maxHeartbeats 4000000 in
set_option maxRecDepth 100000 in
theorem c_isWithin (l : Launch) (D : va_G) (cyC cyI : ClassId) (n : Int32) (lo : Int32) (hi : Int32) (o0 : Bool) (hu : s_isWithin n lo hi = o0) : CI l yX7_isWithin wsX7_isWithin { frames := 0, cells := 0, slots := 0, locals := 0 } D cyC cyI [.int n, .int lo, .int hi] [] (bB o0) [] := by
  refine CI.of (cc := cX7_isWithin) (n := 3) (ret := (some .boolean)) (by decide +kernel) rfl (Nat.le_of_ble_eq_true rfl) ?_
  intro p_ e_ s_ m_ bl_ me_ cd_ A_ ls X Y hr hlk hl
  have hx := X.1.1
  have hb := X.1.2.1
  have hl : lv_has ls 3 [(0, .int n), (1, .int lo), (2, .int hi)] := hl
  unfold s_isWithin at hu
  refine lv_iload_n hx hb dX7_isWithin_0 rfl (lv_at hl 0 rfl) ?_
  refine lv_iload_n hx hb dX7_isWithin_1 rfl (lv_at hl 1 rfl) ?_
  refine lv_icmp_lt (tgt := 14) hx hb dX7_isWithin_2 (by decide) (fun c_1 => ?_) (fun c_1 => ?_)
  · have c_1 : n < lo := c_1
    rw [if_pos c_1] at hu
    refine lv_iconst (v := 0) hx hb dX7_isWithin_14 (by decide) ?_
    subst hu
    exact bEndZ X Y hr hlk dX7_isWithin_15 rfl rfl rfl
  · have c_1 : ¬ (n < lo) := c_1
    rw [if_neg c_1] at hu
    refine lv_iload_n hx hb dX7_isWithin_5 rfl (lv_at hl 0 rfl) ?_
    refine lv_iload_n hx hb dX7_isWithin_6 rfl (lv_at hl 2 rfl) ?_
    refine lv_icmp_gt (tgt := 14) hx hb dX7_isWithin_7 (by decide) (fun c_2 => ?_) (fun c_2 => ?_)
    · have c_2 : hi < n := c_2
      rw [if_pos c_2] at hu
      refine lv_iconst (v := 0) hx hb dX7_isWithin_14 (by decide) ?_
      subst hu
      exact bEndZ X Y hr hlk dX7_isWithin_15 rfl rfl rfl
    · have c_2 : ¬ (hi < n) := c_2
      rw [if_neg c_2] at hu
      refine lv_iconst (v := 1) hx hb dX7_isWithin_10 (by decide) ?_
      refine lv_goto (tgt := 15) hx hb dX7_isWithin_11 (by decide) ?_
      subst hu
      exact bEndZ X Y hr hlk dX7_isWithin_15 rfl rfl rfl
def s_isCrane (c : Int32) : Bool :=
  if c = 0 then
    true
  else
    if c = 1 then
      true
    else
      false
set_option maxHeartbeats 4000000 in
set_option maxRecDepth 100000 in
theorem c_isCrane (l : Launch) (D : va_G) (cyC cyI : ClassId) (c : Int32) (o0 : Bool) (hu : s_isCrane c = o0) : CI l yX7_isCrane wsX7_isCrane { frames := 0, cells := 0, slots := 0, locals := 0 } D cyC cyI [.int c] [] (bB o0) [] := by
  refine CI.of (cc := cX7_isCrane) (n := 1) (ret := (some .boolean)) (by decide +kernel) rfl (Nat.le_of_ble_eq_true rfl) ?_
  intro p_ e_ s_ m_ bl_ me_ cd_ A_ ls X Y hr hlk hl
  have hx := X.1.1
  have hb := X.1.2.1
  have hl : lv_has ls 1 [(0, .int c)] := hl
  unfold s_isCrane at hu
  refine lv_iload_n hx hb dX7_isCrane_0 rfl (lv_at hl 0 rfl) ?_
  refine lv_if_eq (tgt := 9) hx hb dX7_isCrane_1 (by decide) (fun c_1 => ?_) (fun c_1 => ?_)
  · have c_1 : c = 0 := c_1
    rw [if_pos c_1] at hu
    refine lv_iconst (v := 1) hx hb dX7_isCrane_9 (by decide) ?_
    refine lv_goto (tgt := 14) hx hb dX7_isCrane_10 (by decide) ?_
    subst hu
    exact bEndZ X Y hr hlk dX7_isCrane_14 rfl rfl rfl
  · have c_1 : ¬ (c = 0) := c_1
    rw [if_neg c_1] at hu
    refine lv_iload_n hx hb dX7_isCrane_4 rfl (lv_at hl 0 rfl) ?_
    refine lv_iconst (v := 1) hx hb dX7_isCrane_5 (by decide) ?_
    refine lv_icmp_ne (tgt := 13) hx hb dX7_isCrane_6 (by decide) (fun c_2 => ?_) (fun c_2 => ?_)
    · have c_2 : ¬ (c = 1) := c_2
      rw [if_neg c_2] at hu
      refine lv_iconst (v := 0) hx hb dX7_isCrane_13 (by decide) ?_
      subst hu
      exact bEndZ X Y hr hlk dX7_isCrane_14 rfl rfl rfl
    · have c_2 : c = 1 := c_2
      rw [if_pos c_2] at hu
      refine lv_iconst (v := 1) hx hb dX7_isCrane_9 (by decide) ?_
      refine lv_goto (tgt := 14) hx hb dX7_isCrane_10 (by decide) ?_
      subst hu
      exact bEndZ X Y hr hlk dX7_isCrane_14 rfl rfl rfl
theorem hd_X7_isWithin : bD1 yX7_isWithin RX7 3 := by decide +kernel
def s_isSpeed (v : Int32) : Bool :=
  (s_isWithin v (-40) 40)
set_option maxHeartbeats 4000000 in
set_option maxRecDepth 100000 in
theorem c_isSpeed (l : Launch) (D : va_G) (cyC cyI : ClassId) (v : Int32) (o0 : Bool) (hu : s_isSpeed v = o0) : CI l yX7_isSpeed wsX7_isSpeed { frames := 1, cells := 0, slots := 0, locals := 22 } D cyC cyI [.int v] [] (bB o0) [] := by
  refine CI.of (cc := cX7_isSpeed) (n := 1) (ret := (some .boolean)) (by decide +kernel) rfl (Nat.le_of_ble_eq_true rfl) ?_
  intro p_ e_ s_ m_ bl_ me_ cd_ A_ ls X Y hr hlk hl
  have hx := X.1.1
  have hb := X.1.2.1
  have hl : lv_has ls 1 [(0, .int v)] := hl
  unfold s_isSpeed at hu
  refine lv_iload_n hx hb dX7_isSpeed_0 rfl (lv_at hl 0 rfl) ?_
  refine lv_bipush (v := (-40)) hx hb dX7_isSpeed_1 (by decide) ?_
  refine lv_bipush (v := 40) hx hb dX7_isSpeed_3 (by decide) ?_
  refine bSI (As := [.int v, .int (-40), .int 40]) (rest := []) X Y (c_isWithin l D cyC cyI v (-40) 40 (s_isWithin v (-40) 40) rfl) gX7_isSpeed_X7_isWithin rfl ⟨rfl, rfl⟩ hd_X7_isWithin.2 ⟨(Nat.le_of_ble_eq_true rfl), (Nat.le_of_ble_eq_true rfl)⟩ rfl rfl hl.1 (Nat.le_of_ble_eq_true rfl) ⟨Nat.zero_le _, Nat.zero_le _⟩ dX7_isSpeed_5 (fun H locs Y => ?_)
  subst hu
  exact bEndZ X Y hr hlk dX7_isSpeed_8 (bB_nar _) rfl rfl
def s_isRope (v : Int32) : Bool :=
  (s_isWithin v 10 60)
set_option maxHeartbeats 4000000 in
set_option maxRecDepth 100000 in
theorem c_isRope (l : Launch) (D : va_G) (cyC cyI : ClassId) (v : Int32) (o0 : Bool) (hu : s_isRope v = o0) : CI l yX7_isRope wsX7_isRope { frames := 1, cells := 0, slots := 0, locals := 22 } D cyC cyI [.int v] [] (bB o0) [] := by
  refine CI.of (cc := cX7_isRope) (n := 1) (ret := (some .boolean)) (by decide +kernel) rfl (Nat.le_of_ble_eq_true rfl) ?_
  intro p_ e_ s_ m_ bl_ me_ cd_ A_ ls X Y hr hlk hl
  have hx := X.1.1
  have hb := X.1.2.1
  have hl : lv_has ls 1 [(0, .int v)] := hl
  unfold s_isRope at hu
  refine lv_iload_n hx hb dX7_isRope_0 rfl (lv_at hl 0 rfl) ?_
  refine lv_bipush (v := 10) hx hb dX7_isRope_1 (by decide) ?_
  refine lv_bipush (v := 60) hx hb dX7_isRope_3 (by decide) ?_
  refine bSI (As := [.int v, .int 10, .int 60]) (rest := []) X Y (c_isWithin l D cyC cyI v 10 60 (s_isWithin v 10 60) rfl) gX7_isRope_X7_isWithin rfl ⟨rfl, rfl⟩ hd_X7_isWithin.2 ⟨(Nat.le_of_ble_eq_true rfl), (Nat.le_of_ble_eq_true rfl)⟩ rfl rfl hl.1 (Nat.le_of_ble_eq_true rfl) ⟨Nat.zero_le _, Nat.zero_le _⟩ dX7_isRope_5 (fun H locs Y => ?_)
  subst hu
  exact bEndZ X Y hr hlk dX7_isRope_8 (bB_nar _) rfl rfl
theorem m_X7_keptWithin_239 : Cond.methodLink RX7 239 Lib.Math.min.name ∈ wsX7_keptWithin := by decide +kernel
theorem ms_X7_keptWithin_min : Cond.static Lib.Math.min.name ∈ wsX7_keptWithin := by decide +kernel
theorem mi_X7_keptWithin : Cond.initialized "java/lang/Math" ∈ wsX7_keptWithin := by decide +kernel
theorem mc_X7_keptWithin_min : Cond.code Lib.Math.min.name Lib.Math.min.code 2 (some .int) ∈ wsX7_keptWithin := by decide +kernel
theorem m_X7_keptWithin_214 : Cond.methodLink RX7 214 Lib.Math.max.name ∈ wsX7_keptWithin := by decide +kernel
theorem ms_X7_keptWithin_max : Cond.static Lib.Math.max.name ∈ wsX7_keptWithin := by decide +kernel
theorem mc_X7_keptWithin_max : Cond.code Lib.Math.max.name Lib.Math.max.code 2 (some .int) ∈ wsX7_keptWithin := by decide +kernel
def s_keptWithin (n : Int32) (mo : Int32) : Int32 :=
  (if (-mo) < (if mo < n then mo else n) then (if mo < n then mo else n) else (-mo))
set_option maxHeartbeats 4000000 in
set_option maxRecDepth 100000 in
theorem c_keptWithin (l : Launch) (D : va_G) (cyC cyI : ClassId) (n : Int32) (mo : Int32) (o0 : Int32) (hu : s_keptWithin n mo = o0) : CI l yX7_keptWithin wsX7_keptWithin { frames := 1, cells := 0, slots := 0, locals := 14 } D cyC cyI [.int n, .int mo] [] o0 [] := by
  refine CI.of (cc := cX7_keptWithin) (n := 2) (ret := (some .int)) (by decide +kernel) rfl (Nat.le_of_ble_eq_true rfl) ?_
  intro p_ e_ s_ m_ bl_ me_ cd_ A_ ls X Y hr hlk hl
  have hx := X.1.1
  have hb := X.1.2.1
  have hl : lv_has ls 2 [(0, .int n), (1, .int mo)] := hl
  unfold s_keptWithin at hu
  refine lv_iload_n hx hb dX7_keptWithin_0 rfl (lv_at hl 1 rfl) ?_
  refine bNeg (v := -mo) X dX7_keptWithin_1 rfl ?_
  refine lv_iload_n hx hb dX7_keptWithin_2 rfl (lv_at hl 0 rfl) ?_
  refine lv_iload_n hx hb dX7_keptWithin_3 rfl (lv_at hl 1 rfl) ?_
  refine bMin (v := (if mo < n then mo else n)) X hl.1 m_X7_keptWithin_239 ms_X7_keptWithin_min mi_X7_keptWithin mc_X7_keptWithin_min (Nat.le_of_ble_eq_true rfl) (Nat.le_of_ble_eq_true rfl) ⟨Nat.zero_le _, Nat.zero_le _⟩ dX7_keptWithin_4 rfl ?_
  refine bMax (v := (if (-mo) < (if mo < n then mo else n) then (if mo < n then mo else n) else (-mo))) X hl.1 m_X7_keptWithin_214 ms_X7_keptWithin_max mi_X7_keptWithin mc_X7_keptWithin_max (Nat.le_of_ble_eq_true rfl) (Nat.le_of_ble_eq_true rfl) ⟨Nat.zero_le _, Nat.zero_le _⟩ dX7_keptWithin_7 rfl ?_
  subst hu
  exact bEndI X Y hr hlk dX7_keptWithin_10 rfl rfl
theorem m_X7_wayToStop_209 : Cond.methodLink RX7 209 Lib.Math.abs.name ∈ wsX7_wayToStop := by decide +kernel
theorem ms_X7_wayToStop_abs : Cond.static Lib.Math.abs.name ∈ wsX7_wayToStop := by decide +kernel
theorem mi_X7_wayToStop : Cond.initialized "java/lang/Math" ∈ wsX7_wayToStop := by decide +kernel
theorem mc_X7_wayToStop_abs : Cond.code Lib.Math.abs.name Lib.Math.abs.code 1 (some .int) ∈ wsX7_wayToStop := by decide +kernel
def s_wayToStop (v : Int32) (ch : Int32) : Int32 :=
  if 1 ≤ ch then
    (((((if 0 ≤ v then v else 0 - v) + ch) - 1) / ch) * (if 0 ≤ v then v else 0 - v)) - (((ch * ((((if 0 ≤ v then v else 0 - v) + ch) - 1) / ch)) * (((((if 0 ≤ v then v else 0 - v) + ch) - 1) / ch) - 1)) / 2)
  else
    0
set_option maxHeartbeats 4000000 in
set_option maxRecDepth 100000 in
theorem c_wayToStop (l : Launch) (D : va_G) (cyC cyI : ClassId) (v : Int32) (ch : Int32) (o0 : Int32) (hu : s_wayToStop v ch = o0) : CI l yX7_wayToStop wsX7_wayToStop { frames := 1, cells := 0, slots := 0, locals := 13 } D cyC cyI [.int v, .int ch] [] o0 [] := by
  refine CI.of (cc := cX7_wayToStop) (n := 4) (ret := (some .int)) (by decide +kernel) rfl (Nat.le_of_ble_eq_true rfl) ?_
  intro p_ e_ s_ m_ bl_ me_ cd_ A_ ls X Y hr hlk hl
  have hx := X.1.1
  have hb := X.1.2.1
  have hl : lv_has ls 4 [(0, .int v), (1, .int ch)] := hl
  unfold s_wayToStop at hu
  refine lv_iload_n hx hb dX7_wayToStop_0 rfl (lv_at hl 1 rfl) ?_
  refine lv_iconst (v := 1) hx hb dX7_wayToStop_1 (by decide) ?_
  refine lv_icmp_ge (tgt := 7) hx hb dX7_wayToStop_2 (by decide) (fun c_1 => ?_) (fun c_1 => ?_)
  · have c_1 : 1 ≤ ch := c_1
    rw [if_pos c_1] at hu
    refine lv_iload_n hx hb dX7_wayToStop_7 rfl (lv_at hl 0 rfl) ?_
    refine bAbs (v := (if 0 ≤ v then v else 0 - v)) X hl.1 m_X7_wayToStop_209 ms_X7_wayToStop_abs mi_X7_wayToStop mc_X7_wayToStop_abs (Nat.le_of_ble_eq_true rfl) (Nat.le_of_ble_eq_true rfl) ⟨Nat.zero_le _, Nat.zero_le _⟩ dX7_wayToStop_8 rfl ?_
    refine lv_istore_n (lv' := [(2, .int (if 0 ≤ v then v else 0 - v)), (0, .int v), (1, .int ch)]) hx hb dX7_wayToStop_11 rfl hl (by decide) rfl (fun ls hl => ?_)
    refine lv_iload_n hx hb dX7_wayToStop_12 rfl (lv_at hl 0 rfl) ?_
    refine lv_iload_n hx hb dX7_wayToStop_13 rfl (lv_at hl 2 rfl) ?_
    refine bAdd (v := (if 0 ≤ v then v else 0 - v) + ch) X dX7_wayToStop_14 rfl ?_
    refine lv_iconst (v := 1) hx hb dX7_wayToStop_15 (by decide) ?_
    refine bSub (v := ((if 0 ≤ v then v else 0 - v) + ch) - 1) X dX7_wayToStop_16 rfl ?_
    refine lv_iload_n hx hb dX7_wayToStop_17 rfl (lv_at hl 2 rfl) ?_
    refine bDiv (v := (((if 0 ≤ v then v else 0 - v) + ch) - 1) / ch) X dX7_wayToStop_18 (by first | assumption | exact bNz (by assumption) | exact bNz1 (by assumption) | exact bNz2 (by assumption) | exact bNz3 (by assumption)) rfl ?_
    refine lv_istore_n (lv' := [(3, .int ((((if 0 ≤ v then v else 0 - v) + ch) - 1) / ch)), (2, .int (if 0 ≤ v then v else 0 - v)), (0, .int v), (1, .int ch)]) hx hb dX7_wayToStop_19 rfl hl (by decide) rfl (fun ls hl => ?_)
    refine lv_iload_n hx hb dX7_wayToStop_20 rfl (lv_at hl 0 rfl) ?_
    refine lv_iload_n hx hb dX7_wayToStop_21 rfl (lv_at hl 1 rfl) ?_
    refine bMul (v := ((((if 0 ≤ v then v else 0 - v) + ch) - 1) / ch) * (if 0 ≤ v then v else 0 - v)) X dX7_wayToStop_22 rfl ?_
    refine lv_iload_n hx hb dX7_wayToStop_23 rfl (lv_at hl 3 rfl) ?_
    refine lv_iload_n hx hb dX7_wayToStop_24 rfl (lv_at hl 0 rfl) ?_
    refine bMul (v := ch * ((((if 0 ≤ v then v else 0 - v) + ch) - 1) / ch)) X dX7_wayToStop_25 rfl ?_
    refine lv_iload_n hx hb dX7_wayToStop_26 rfl (lv_at hl 0 rfl) ?_
    refine lv_iconst (v := 1) hx hb dX7_wayToStop_27 (by decide) ?_
    refine bSub (v := ((((if 0 ≤ v then v else 0 - v) + ch) - 1) / ch) - 1) X dX7_wayToStop_28 rfl ?_
    refine bMul (v := (ch * ((((if 0 ≤ v then v else 0 - v) + ch) - 1) / ch)) * (((((if 0 ≤ v then v else 0 - v) + ch) - 1) / ch) - 1)) X dX7_wayToStop_29 rfl ?_
    refine lv_iconst (v := 2) hx hb dX7_wayToStop_30 (by decide) ?_
    refine bDiv (v := ((ch * ((((if 0 ≤ v then v else 0 - v) + ch) - 1) / ch)) * (((((if 0 ≤ v then v else 0 - v) + ch) - 1) / ch) - 1)) / 2) X dX7_wayToStop_31 (by decide) rfl ?_
    refine bSub (v := (((((if 0 ≤ v then v else 0 - v) + ch) - 1) / ch) * (if 0 ≤ v then v else 0 - v)) - (((ch * ((((if 0 ≤ v then v else 0 - v) + ch) - 1) / ch)) * (((((if 0 ≤ v then v else 0 - v) + ch) - 1) / ch) - 1)) / 2)) X dX7_wayToStop_32 rfl ?_
    subst hu
    exact bEndI X Y hr hlk dX7_wayToStop_33 rfl rfl
  · have c_1 : ¬ (1 ≤ ch) := c_1
    rw [if_neg c_1] at hu
    refine lv_iconst (v := 0) hx hb dX7_wayToStop_5 (by decide) ?_
    subst hu
    exact bEndI X Y hr hlk dX7_wayToStop_6 rfl rfl
def g_halfSwing (rp : Int32) : Nat → Nat → Nat
  | 0, _ => 0
  | n_ + 1, j =>
    if 60 ≤ nI j then
      j
    else
      if (5 * rp) ≤ (8 * (nI j)) * (nI j) then
        j
      else
        g_halfSwing rp n_ (j + 1)
def s_halfSwing (rp : Int32) : Nat :=
  g_halfSwing rp (61) 1
set_option maxHeartbeats 4000000 in
set_option maxRecDepth 100000 in
theorem lp_halfSwing {p_ : Program} {e_ : Env} {s_ : State} {m_ : MethodId} {bl_ : List Frame} {me_ : Method} {cd_ : Code} {A_ : Nat → Prop} (l : Launch) (D : va_G) (cyC cyI : ClassId) (rp : Int32) (o0 : Nat) (X : bX p_ s_ m_ ([.int rp] : List Value).toArray cd_ cX7_halfSwing 2 wsX7_halfSwing yX7_halfSwing.cls D cyC cyI) (hr : me_.sig.returnType = (some .int)) (hlk : me_.locks = false) : ∀ (n_ : Nat) (j : Nat) (hN : 61 ≤ j + n_) (hJ : j ≤ 60) (hu : g_halfSwing rp n_ j = o0) (ls : Array Slot) (H : Heap) (locs : List Loc), lv_has ls 2 [(0, .int rp), (1, .int (nI j))] → bY D A_ s_.heap [] H locs → W p_ l e_ ({ frames := 0, cells := 0, slots := 0, locals := 0 } : Room) s_ m_ ([.int rp] : List Value).toArray bl_ me_ cd_ H locs 0 0 (bQI bl_ ([.int rp] : List Value).toArray s_ D [] (nI o0) A_) (F0 m_ 2 ls []) := by
  intro n_
  induction n_ with
  | zero =>
    intro j hN hJ hu ls H locs hl Y
    exfalso; omega
  | succ n_ ih =>
    intro j hN hJ hu ls H locs hl Y
    have hx := X.1.1
    have hb := X.1.2.1
    rw [g_halfSwing] at hu
    refine lv_iload_n hx hb dX7_halfSwing_2 rfl (lv_at hl 1 rfl) ?_
    refine lv_bipush (v := 60) hx hb dX7_halfSwing_3 (by decide) ?_
    refine lv_icmp_ge (tgt := 26) hx hb dX7_halfSwing_5 (by decide) (fun c_1 => ?_) (fun c_1 => ?_)
    · have c_1 : 60 ≤ nI j := c_1
      rw [if_pos c_1] at hu
      refine lv_iload_n hx hb dX7_halfSwing_26 rfl (lv_at hl 1 rfl) ?_
      subst hu
      exact bEndI X Y hr hlk dX7_halfSwing_27 rfl rfl
    · have c_1 : ¬ (60 ≤ nI j) := c_1
      rw [if_neg c_1] at hu
      refine lv_bipush (v := 8) hx hb dX7_halfSwing_8 (by decide) ?_
      refine lv_iload_n hx hb dX7_halfSwing_10 rfl (lv_at hl 1 rfl) ?_
      refine bMul (v := 8 * (nI j)) X dX7_halfSwing_11 rfl ?_
      refine lv_iload_n hx hb dX7_halfSwing_12 rfl (lv_at hl 1 rfl) ?_
      refine bMul (v := (8 * (nI j)) * (nI j)) X dX7_halfSwing_13 rfl ?_
      refine lv_iconst (v := 5) hx hb dX7_halfSwing_14 (by decide) ?_
      refine lv_iload_n hx hb dX7_halfSwing_15 rfl (lv_at hl 0 rfl) ?_
      refine bMul (v := 5 * rp) X dX7_halfSwing_16 rfl ?_
      refine lv_icmp_ge (tgt := 26) hx hb dX7_halfSwing_17 (by decide) (fun c_2 => ?_) (fun c_2 => ?_)
      · have c_2 : (5 * rp) ≤ (8 * (nI j)) * (nI j) := c_2
        rw [if_pos c_2] at hu
        refine lv_iload_n hx hb dX7_halfSwing_26 rfl (lv_at hl 1 rfl) ?_
        subst hu
        exact bEndI X Y hr hlk dX7_halfSwing_27 rfl rfl
      · have c_2 : ¬ ((5 * rp) ≤ (8 * (nI j)) * (nI j)) := c_2
        rw [if_neg c_2] at hu
        refine lv_iinc (v := nI (j + 1)) (lv' := [(1, .int (nI (j + 1))), (0, .int rp)]) hx hb dX7_halfSwing_20 hl (k := 1) rfl (nI_inc _) (by decide) rfl (fun ls hl => ?_)
        refine lv_goto (tgt := 2) hx hb dX7_halfSwing_23 (by decide) ?_
        exact ih (j + 1) (by omega) (by have := bNle (k := 60) rfl (by omega) (by decide) c_1; omega) hu _ _ _ (lv_sub hl [1, 0] rfl) Y
set_option maxHeartbeats 4000000 in
set_option maxRecDepth 100000 in
theorem c_halfSwing (l : Launch) (D : va_G) (cyC cyI : ClassId) (rp : Int32) (o0 : Nat) (hu : s_halfSwing rp = o0) : CI l yX7_halfSwing wsX7_halfSwing { frames := 0, cells := 0, slots := 0, locals := 0 } D cyC cyI [.int rp] [] (nI o0) [] := by
  refine CI.of (cc := cX7_halfSwing) (n := 2) (ret := (some .int)) (by decide +kernel) rfl (Nat.le_of_ble_eq_true rfl) ?_
  intro p_ e_ s_ m_ bl_ me_ cd_ A_ ls X Y hr hlk hl
  have hx := X.1.1
  have hb := X.1.2.1
  have hl : lv_has ls 2 [(0, .int rp)] := hl
  unfold s_halfSwing at hu
  refine lv_iconst (v := 1) hx hb dX7_halfSwing_0 (by decide) ?_
  refine lv_istore_n (lv' := [(1, .int 1), (0, .int rp)]) hx hb dX7_halfSwing_1 rfl hl (by decide) rfl (fun ls hl => ?_)
  exact lp_halfSwing l D cyC cyI rp o0 X hr hlk (61) 1 (by omega) (by omega) hu _ _ _ (lv_sub hl [1, 0] rfl) Y
