def s_in8 (n : Int32) (lo : Int32) (hi : Int32) : Bool :=
  if n < lo then
    false
  else
    if hi < n then
      false
    else
      true
set_option maxHeartbeats 4000000 in
set_option maxRecDepth 100000 in
theorem c_in8 (l : Launch) (D : va_G) (cyC cyI : ClassId) (n : Int32) (lo : Int32) (hi : Int32) (o0 : Bool) (hu : s_in8 n lo hi = o0) : CI l yX8_in wsX8_in { frames := 0, cells := 0, slots := 0, locals := 0 } D cyC cyI [.int n, .int lo, .int hi] [] (bB o0) [] := by
  refine CI.of (cc := cX8_in) (n := 3) (ret := (some .boolean)) (by decide +kernel) rfl (Nat.le_of_ble_eq_true rfl) ?_
  intro p_ e_ s_ m_ bl_ me_ cd_ A_ ls X Y hr hlk hl
  have hx := X.1.1
  have hb := X.1.2.1
  have hl : lv_has ls 3 [(0, .int n), (1, .int lo), (2, .int hi)] := hl
  unfold s_in8 at hu
  refine lv_iload_n hx hb dX8_in_0 rfl (lv_at hl 0 rfl) ?_
  refine lv_iload_n hx hb dX8_in_1 rfl (lv_at hl 1 rfl) ?_
  refine lv_icmp_lt (tgt := 14) hx hb dX8_in_2 (by decide) (fun c_1 => ?_) (fun c_1 => ?_)
  · have c_1 : n < lo := c_1
    rw [if_pos c_1] at hu
    refine lv_iconst (v := 0) hx hb dX8_in_14 (by decide) ?_
    subst hu
    exact bEndZ X Y hr hlk dX8_in_15 rfl rfl rfl
  · have c_1 : ¬ (n < lo) := c_1
    rw [if_neg c_1] at hu
    refine lv_iload_n hx hb dX8_in_5 rfl (lv_at hl 0 rfl) ?_
    refine lv_iload_n hx hb dX8_in_6 rfl (lv_at hl 2 rfl) ?_
    refine lv_icmp_gt (tgt := 14) hx hb dX8_in_7 (by decide) (fun c_2 => ?_) (fun c_2 => ?_)
    · have c_2 : hi < n := c_2
      rw [if_pos c_2] at hu
      refine lv_iconst (v := 0) hx hb dX8_in_14 (by decide) ?_
      subst hu
      exact bEndZ X Y hr hlk dX8_in_15 rfl rfl rfl
    · have c_2 : ¬ (hi < n) := c_2
      rw [if_neg c_2] at hu
      refine lv_iconst (v := 1) hx hb dX8_in_10 (by decide) ?_
      refine lv_goto (tgt := 15) hx hb dX8_in_11 (by decide) ?_
      subst hu
      exact bEndZ X Y hr hlk dX8_in_15 rfl rfl rfl
def s_size8 (v : Int32) : Int32 :=
  if 0 ≤ v then
    v
  else
    -v
set_option maxHeartbeats 4000000 in
set_option maxRecDepth 100000 in
theorem c_size8 (l : Launch) (D : va_G) (cyC cyI : ClassId) (v : Int32) (o0 : Int32) (hu : s_size8 v = o0) : CI l yX8_size wsX8_size { frames := 0, cells := 0, slots := 0, locals := 0 } D cyC cyI [.int v] [] o0 [] := by
  refine CI.of (cc := cX8_size) (n := 1) (ret := (some .int)) (by decide +kernel) rfl (Nat.le_of_ble_eq_true rfl) ?_
  intro p_ e_ s_ m_ bl_ me_ cd_ A_ ls X Y hr hlk hl
  have hx := X.1.1
  have hb := X.1.2.1
  have hl : lv_has ls 1 [(0, .int v)] := hl
  unfold s_size8 at hu
  refine lv_iload_n hx hb dX8_size_0 rfl (lv_at hl 0 rfl) ?_
  refine lv_if_ge (tgt := 9) hx hb dX8_size_1 (by decide) (fun c_1 => ?_) (fun c_1 => ?_)
  · have c_1 : 0 ≤ v := c_1
    rw [if_pos c_1] at hu
    refine lv_iload_n hx hb dX8_size_9 rfl (lv_at hl 0 rfl) ?_
    subst hu
    exact bEndI X Y hr hlk dX8_size_10 rfl rfl
  · have c_1 : ¬ (0 ≤ v) := c_1
    rw [if_neg c_1] at hu
    refine lv_iload_n hx hb dX8_size_4 rfl (lv_at hl 0 rfl) ?_
    refine bNeg (v := -v) X dX8_size_5 rfl ?_
    refine lv_goto (tgt := 10) hx hb dX8_size_6 (by decide) ?_
    subst hu
    exact bEndI X Y hr hlk dX8_size_10 rfl rfl
def s_kept8 (v : Int32) : Int32 :=
  if v ≤ 9999 then
    if (-9999) ≤ v then
      v
    else
      (-9999)
  else
    9999
set_option maxHeartbeats 4000000 in
set_option maxRecDepth 100000 in
theorem c_kept8 (l : Launch) (D : va_G) (cyC cyI : ClassId) (v : Int32) (o0 : Int32) (hu : s_kept8 v = o0) : CI l yX8_kept wsX8_kept { frames := 0, cells := 0, slots := 0, locals := 0 } D cyC cyI [.int v] [] o0 [] := by
  refine CI.of (cc := cX8_kept) (n := 1) (ret := (some .int)) (by decide +kernel) rfl (Nat.le_of_ble_eq_true rfl) ?_
  intro p_ e_ s_ m_ bl_ me_ cd_ A_ ls X Y hr hlk hl
  have hx := X.1.1
  have hb := X.1.2.1
  have hl : lv_has ls 1 [(0, .int v)] := hl
  unfold s_kept8 at hu
  refine lv_iload_n hx hb dX8_kept_0 rfl (lv_at hl 0 rfl) ?_
  refine lv_sipush (v := 9999) hx hb dX8_kept_1 (by decide) ?_
  refine lv_icmp_le (tgt := 13) hx hb dX8_kept_4 (by decide) (fun c_1 => ?_) (fun c_1 => ?_)
  · have c_1 : v ≤ 9999 := c_1
    rw [if_pos c_1] at hu
    refine lv_iload_n hx hb dX8_kept_13 rfl (lv_at hl 0 rfl) ?_
    refine lv_sipush (v := (-9999)) hx hb dX8_kept_14 (by decide) ?_
    refine lv_icmp_ge (tgt := 26) hx hb dX8_kept_17 (by decide) (fun c_2 => ?_) (fun c_2 => ?_)
    · have c_2 : (-9999) ≤ v := c_2
      rw [if_pos c_2] at hu
      refine lv_iload_n hx hb dX8_kept_26 rfl (lv_at hl 0 rfl) ?_
      subst hu
      exact bEndI X Y hr hlk dX8_kept_27 rfl rfl
    · have c_2 : ¬ ((-9999) ≤ v) := c_2
      rw [if_neg c_2] at hu
      refine lv_sipush (v := (-9999)) hx hb dX8_kept_20 (by decide) ?_
      refine lv_goto (tgt := 27) hx hb dX8_kept_23 (by decide) ?_
      subst hu
      exact bEndI X Y hr hlk dX8_kept_27 rfl rfl
  · have c_1 : ¬ (v ≤ 9999) := c_1
    rw [if_neg c_1] at hu
    refine lv_sipush (v := 9999) hx hb dX8_kept_7 (by decide) ?_
    refine lv_goto (tgt := 27) hx hb dX8_kept_10 (by decide) ?_
    subst hu
    exact bEndI X Y hr hlk dX8_kept_27 rfl rfl
def s_isCrane8 (c : Int32) : Bool :=
  if c = 0 then
    true
  else
    if c = 1 then
      true
    else
      false
set_option maxHeartbeats 4000000 in
set_option maxRecDepth 100000 in
theorem c_isCrane8 (l : Launch) (D : va_G) (cyC cyI : ClassId) (c : Int32) (o0 : Bool) (hu : s_isCrane8 c = o0) : CI l yX8_isCrane wsX8_isCrane { frames := 0, cells := 0, slots := 0, locals := 0 } D cyC cyI [.int c] [] (bB o0) [] := by
  refine CI.of (cc := cX8_isCrane) (n := 1) (ret := (some .boolean)) (by decide +kernel) rfl (Nat.le_of_ble_eq_true rfl) ?_
  intro p_ e_ s_ m_ bl_ me_ cd_ A_ ls X Y hr hlk hl
  have hx := X.1.1
  have hb := X.1.2.1
  have hl : lv_has ls 1 [(0, .int c)] := hl
  unfold s_isCrane8 at hu
  refine lv_iload_n hx hb dX8_isCrane_0 rfl (lv_at hl 0 rfl) ?_
  refine lv_if_eq (tgt := 9) hx hb dX8_isCrane_1 (by decide) (fun c_1 => ?_) (fun c_1 => ?_)
  · have c_1 : c = 0 := c_1
    rw [if_pos c_1] at hu
    refine lv_iconst (v := 1) hx hb dX8_isCrane_9 (by decide) ?_
    refine lv_goto (tgt := 14) hx hb dX8_isCrane_10 (by decide) ?_
    subst hu
    exact bEndZ X Y hr hlk dX8_isCrane_14 rfl rfl rfl
  · have c_1 : ¬ (c = 0) := c_1
    rw [if_neg c_1] at hu
    refine lv_iload_n hx hb dX8_isCrane_4 rfl (lv_at hl 0 rfl) ?_
    refine lv_iconst (v := 1) hx hb dX8_isCrane_5 (by decide) ?_
    refine lv_icmp_ne (tgt := 13) hx hb dX8_isCrane_6 (by decide) (fun c_2 => ?_) (fun c_2 => ?_)
    · have c_2 : ¬ (c = 1) := c_2
      rw [if_neg c_2] at hu
      refine lv_iconst (v := 0) hx hb dX8_isCrane_13 (by decide) ?_
      subst hu
      exact bEndZ X Y hr hlk dX8_isCrane_14 rfl rfl rfl
    · have c_2 : c = 1 := c_2
      rw [if_pos c_2] at hu
      refine lv_iconst (v := 1) hx hb dX8_isCrane_9 (by decide) ?_
      refine lv_goto (tgt := 14) hx hb dX8_isCrane_10 (by decide) ?_
      subst hu
      exact bEndZ X Y hr hlk dX8_isCrane_14 rfl rfl rfl
def s_spotPlace8 (c : Int32) : Int32 :=
  33 + (241 * c)
set_option maxHeartbeats 4000000 in
set_option maxRecDepth 100000 in
theorem c_spotPlace8 (l : Launch) (D : va_G) (cyC cyI : ClassId) (c : Int32) (o0 : Int32) (hu : s_spotPlace8 c = o0) : CI l yX8_spotPlace wsX8_spotPlace { frames := 0, cells := 0, slots := 0, locals := 0 } D cyC cyI [.int c] [] o0 [] := by
  refine CI.of (cc := cX8_spotPlace) (n := 1) (ret := (some .int)) (by decide +kernel) rfl (Nat.le_of_ble_eq_true rfl) ?_
  intro p_ e_ s_ m_ bl_ me_ cd_ A_ ls X Y hr hlk hl
  have hx := X.1.1
  have hb := X.1.2.1
  have hl : lv_has ls 1 [(0, .int c)] := hl
  unfold s_spotPlace8 at hu
  refine lv_bipush (v := 33) hx hb dX8_spotPlace_0 (by decide) ?_
  refine lv_sipush (v := 241) hx hb dX8_spotPlace_2 (by decide) ?_
  refine lv_iload_n hx hb dX8_spotPlace_5 rfl (lv_at hl 0 rfl) ?_
  refine bMul (v := 241 * c) X dX8_spotPlace_6 rfl ?_
  refine bAdd (v := 33 + (241 * c)) X dX8_spotPlace_7 rfl ?_
  subst hu
  exact bEndI X Y hr hlk dX8_spotPlace_8 rfl rfl
def g_halfOf8 (rp : Int32) : Nat → Nat → Nat
  | 0, _ => 0
  | n_ + 1, j =>
    if (5 * rp) ≤ (8 * (nI j)) * (nI j) then
      j
    else
      g_halfOf8 rp n_ (j + 1)
def s_halfOf8 (rp : Int32) : Nat :=
  g_halfOf8 rp (8) 1
set_option maxHeartbeats 4000000 in
set_option maxRecDepth 100000 in
theorem lp_halfOf8 {p_ : Program} {e_ : Env} {s_ : State} {m_ : MethodId} {bl_ : List Frame} {me_ : Method} {cd_ : Code} {A_ : Nat → Prop} (l : Launch) (D : va_G) (cyC cyI : ClassId) (rp : Int32) (o0 : Nat) (X : bX p_ s_ m_ ([.int rp] : List Value).toArray cd_ cX8_halfOf 2 wsX8_halfOf yX8_halfOf.cls D cyC cyI) (hr : me_.sig.returnType = (some .int)) (hlk : me_.locks = false) (hr0 : 0 ≤ rp) (hr6 : rp ≤ 60) : ∀ (n_ : Nat) (j : Nat) (hN : 8 ≤ j + n_) (hJ : j ≤ 7) (hu : g_halfOf8 rp n_ j = o0) (ls : Array Slot) (H : Heap) (locs : List Loc), lv_has ls 2 [(0, .int rp), (1, .int (nI j))] → bY D A_ s_.heap [] H locs → W p_ l e_ ({ frames := 0, cells := 0, slots := 0, locals := 0 } : Room) s_ m_ ([.int rp] : List Value).toArray bl_ me_ cd_ H locs 0 0 (bQI bl_ ([.int rp] : List Value).toArray s_ D [] (nI o0) A_) (F0 m_ 2 ls []) := by
  intro n_
  induction n_ with
  | zero =>
    intro j hN hJ hu ls H locs hl Y
    exfalso; omega
  | succ n_ ih =>
    intro j hN hJ hu ls H locs hl Y
    have hx := X.1.1
    have hb := X.1.2.1
    rw [g_halfOf8] at hu
    refine lv_bipush (v := 8) hx hb dX8_halfOf_2 (by decide) ?_
    refine lv_iload_n hx hb dX8_halfOf_4 rfl (lv_at hl 1 rfl) ?_
    refine bMul (v := 8 * (nI j)) X dX8_halfOf_5 rfl ?_
    refine lv_iload_n hx hb dX8_halfOf_6 rfl (lv_at hl 1 rfl) ?_
    refine bMul (v := (8 * (nI j)) * (nI j)) X dX8_halfOf_7 rfl ?_
    refine lv_iconst (v := 5) hx hb dX8_halfOf_8 (by decide) ?_
    refine lv_iload_n hx hb dX8_halfOf_9 rfl (lv_at hl 0 rfl) ?_
    refine bMul (v := 5 * rp) X dX8_halfOf_10 rfl ?_
    refine lv_icmp_ge (tgt := 20) hx hb dX8_halfOf_11 (by decide) (fun c_1 => ?_) (fun c_1 => ?_)
    · have c_1 : (5 * rp) ≤ (8 * (nI j)) * (nI j) := c_1
      rw [if_pos c_1] at hu
      refine lv_iload_n hx hb dX8_halfOf_20 rfl (lv_at hl 1 rfl) ?_
      subst hu
      exact bEndI X Y hr hlk dX8_halfOf_21 rfl rfl
    · have c_1 : ¬ ((5 * rp) ≤ (8 * (nI j)) * (nI j)) := c_1
      rw [if_neg c_1] at hu
      refine lv_iinc (v := nI (j + 1)) (lv' := [(1, .int (nI (j + 1))), (0, .int rp)]) hx hb dX8_halfOf_14 hl (k := 1) rfl (nI_inc _) (by decide) rfl (fun ls hl => ?_)
      refine lv_goto (tgt := 2) hx hb dX8_halfOf_17 (by decide) ?_
      exact ih (j + 1) (by omega) (by have := bHalf hr0 hr6 hJ c_1; omega) hu _ _ _ (lv_sub hl [1, 0] rfl) Y
set_option maxHeartbeats 4000000 in
set_option maxRecDepth 100000 in
theorem c_halfOf8 (l : Launch) (D : va_G) (cyC cyI : ClassId) (rp : Int32) (o0 : Nat) (hu : s_halfOf8 rp = o0) (hr0 : 0 ≤ rp) (hr6 : rp ≤ 60) : CI l yX8_halfOf wsX8_halfOf { frames := 0, cells := 0, slots := 0, locals := 0 } D cyC cyI [.int rp] [] (nI o0) [] := by
  refine CI.of (cc := cX8_halfOf) (n := 2) (ret := (some .int)) (by decide +kernel) rfl (Nat.le_of_ble_eq_true rfl) ?_
  intro p_ e_ s_ m_ bl_ me_ cd_ A_ ls X Y hr hlk hl
  have hx := X.1.1
  have hb := X.1.2.1
  have hl : lv_has ls 2 [(0, .int rp)] := hl
  unfold s_halfOf8 at hu
  refine lv_iconst (v := 1) hx hb dX8_halfOf_0 (by decide) ?_
  refine lv_istore_n (lv' := [(1, .int 1), (0, .int rp)]) hx hb dX8_halfOf_1 rfl hl (by decide) rfl (fun ls hl => ?_)
  exact lp_halfOf8 l D cyC cyI rp o0 X hr hlk hr0 hr6 (8) 1 (by omega) (by omega) hu _ _ _ (lv_sub hl [1, 0] rfl) Y
theorem i_X8_of_X8 : ∀ w ∈ wsX80, w ∈ wsX8_of := by decide +kernel
theorem f_X8_of_7 : Cond.fieldLink RX8 7 "SwingCranesModel" "now" "[I" ∈ wsX8_of := by decide +kernel
def s_of8 (nw : Nat → Int32) (c : Int32) (w : Int32) : Int32 :=
  nw ((7 + (13 * c)) + w).toNatClampNeg
set_option maxHeartbeats 4000000 in
set_option maxRecDepth 100000 in
theorem c_of8 (l : Launch) (D : va_G) (cyC cyI : ClassId) (mM : Nat) (mN : Nat) (mR : Nat) (mA : Nat) (mP : Nat) (mT : Nat) (mD : Nat) (ch : Int32) (le : Int32) (sp : Int32) (nw : Nat → Int32) (c : Int32) (w : Int32) (o0 : Int32) (hu : s_of8 nw c w = o0) (hi : vp_in ((7 + (13 * c)) + w) 515) : CI l yX8_of wsX8_of { frames := 0, cells := 0, slots := 0, locals := 0 } D cyC cyI [.ref mM, .int c, .int w] [(mM, .inr (8, [.ref mN, .ref mR, .ref mA, .ref mP, .int ch, .ref mT, .int le, .int sp, .ref mD])), (mN, .inl (cyI, 515, .inl nw))] o0 [(mM, .inr (8, [.ref mN, .ref mR, .ref mA, .ref mP, .int ch, .ref mT, .int le, .int sp, .ref mD])), (mN, .inl (cyI, 515, .inl nw))] := by
  refine CI.of (cc := cX8_of) (n := 3) (ret := (some .int)) (by decide +kernel) rfl (Nat.le_of_ble_eq_true rfl) ?_
  intro p_ e_ s_ m_ bl_ me_ cd_ A_ ls X Y hr hlk hl
  have hx := X.1.1
  have hb := X.1.2.1
  have hl : lv_has ls 3 [(0, .ref mM), (1, .int c), (2, .int w)] := hl
  unfold s_of8 at hu
  refine lv_aload_n hx hb dX8_of_0 rfl (lv_at hl 0 rfl) ?_
  refine bGet (v := .ref mN) (T := TX8) (N := 9) (ci := 8) X Y i_X8_of_X8 0 rfl rfl 0 (Nat.le_of_ble_eq_true rfl) f_X8_of_7 rfl rfl dX8_of_1 ?_
  refine lv_bipush (v := 7) hx hb dX8_of_4 (by decide) ?_
  refine lv_bipush (v := 13) hx hb dX8_of_6 (by decide) ?_
  refine lv_iload_n hx hb dX8_of_8 rfl (lv_at hl 1 rfl) ?_
  refine bMul (v := 13 * c) X dX8_of_9 rfl ?_
  refine bAdd (v := 7 + (13 * c)) X dX8_of_10 rfl ?_
  refine lv_iload_n hx hb dX8_of_11 rfl (lv_at hl 2 rfl) ?_
  refine bAdd (v := (7 + (13 * c)) + w) X dX8_of_12 rfl ?_
  refine bIald (v := nw ((7 + (13 * c)) + w).toNatClampNeg) X Y 1 rfl (by assumption) dX8_of_13 rfl ?_
  subst hu
  exact bEndI X Y hr hlk dX8_of_14 rfl rfl
theorem bOf {f : Nat → Int32} {c w v : Int32} {i : Nat} (hi : ((7 + (13 * c)) + w).toNatClampNeg = i) (hv : f i = v) : s_of8 f c w = v := by
  unfold s_of8
  rw [hi]
  exact hv
theorem i_X8_tells_X8 : ∀ w ∈ wsX80, w ∈ wsX8_tells := by decide +kernel
theorem f_X8_tells_7 : Cond.fieldLink RX8 7 "SwingCranesModel" "now" "[I" ∈ wsX8_tells := by decide +kernel
def s_tells8 (nw : Nat → Int32) (c : Int32) (w : Int32) (v : Int32) : (Nat → Int32) × Unit :=
  (upd nw ((7 + (13 * c)) + w).toNatClampNeg v, ())
set_option maxHeartbeats 4000000 in
set_option maxRecDepth 100000 in
theorem c_tells8 (l : Launch) (D : va_G) (cyC cyI : ClassId) (mM : Nat) (mN : Nat) (mR : Nat) (mA : Nat) (mP : Nat) (mT : Nat) (mD : Nat) (ch : Int32) (le : Int32) (sp : Int32) (nw : Nat → Int32) (c : Int32) (w : Int32) (v : Int32) (o0 : Nat → Int32) (hu : s_tells8 nw c w v = (o0, ())) (hi : vp_in ((7 + (13 * c)) + w) 515) : CV l yX8_tells wsX8_tells { frames := 0, cells := 0, slots := 0, locals := 0 } D cyC cyI [.ref mM, .int c, .int w, .int v] [(mM, .inr (8, [.ref mN, .ref mR, .ref mA, .ref mP, .int ch, .ref mT, .int le, .int sp, .ref mD])), (mN, .inl (cyI, 515, .inl nw))] [(mM, .inr (8, [.ref mN, .ref mR, .ref mA, .ref mP, .int ch, .ref mT, .int le, .int sp, .ref mD])), (mN, .inl (cyI, 515, .inl o0))] := by
  refine CV.of (cc := cX8_tells) (n := 4) (ret := none) (by decide +kernel) rfl (Nat.le_of_ble_eq_true rfl) ?_
  intro p_ e_ s_ m_ bl_ me_ cd_ A_ ls X Y hr hlk hl
  have hx := X.1.1
  have hb := X.1.2.1
  have hl : lv_has ls 4 [(0, .ref mM), (1, .int c), (2, .int w), (3, .int v)] := hl
  unfold s_tells8 at hu
  refine lv_aload_n hx hb dX8_tells_0 rfl (lv_at hl 0 rfl) ?_
  refine bGet (v := .ref mN) (T := TX8) (N := 9) (ci := 8) X Y i_X8_tells_X8 0 rfl rfl 0 (Nat.le_of_ble_eq_true rfl) f_X8_tells_7 rfl rfl dX8_tells_1 ?_
  refine lv_bipush (v := 7) hx hb dX8_tells_4 (by decide) ?_
  refine lv_bipush (v := 13) hx hb dX8_tells_6 (by decide) ?_
  refine lv_iload_n hx hb dX8_tells_8 rfl (lv_at hl 1 rfl) ?_
  refine bMul (v := 13 * c) X dX8_tells_9 rfl ?_
  refine bAdd (v := 7 + (13 * c)) X dX8_tells_10 rfl ?_
  refine lv_iload_n hx hb dX8_tells_11 rfl (lv_at hl 2 rfl) ?_
  refine bAdd (v := (7 + (13 * c)) + w) X dX8_tells_12 rfl ?_
  refine lv_iload_n hx hb dX8_tells_13 rfl (lv_at hl 3 rfl) ?_
  refine bIast (f' := upd nw ((7 + (13 * c)) + w).toNatClampNeg v) (ws' := [(mM, .inr (8, [.ref mN, .ref mR, .ref mA, .ref mP, .int ch, .ref mT, .int le, .int sp, .ref mD])), (mN, .inl (cyI, 515, .inl (upd nw ((7 + (13 * c)) + w).toNatClampNeg v)))]) X Y 1 rfl (by assumption) rfl rfl dX8_tells_14 (fun H locs Y => ?_)
  have h9 := (Prod.mk.inj hu).1
  subst h9
  exact bEndV X Y hr hlk dX8_tells_15 rfl
theorem bTells {f f2 : Nat → Int32} {c w v : Int32} {i : Nat} (hi : ((7 + (13 * c)) + w).toNatClampNeg = i) (hf : upd f i v = f2) : s_tells8 f c w v = (f2, ()) := by
  unfold s_tells8
  rw [hi, hf]
