theorem i_X8_limitOf_X8 : ∀ w ∈ wsX80, w ∈ wsX8_limitOf := by decide +kernel
theorem f_X8_limitOf_7 : Cond.fieldLink RX8 7 "SwingCranesModel" "now" "[I" ∈ wsX8_limitOf := by decide +kernel
theorem hd_X8_of : bD1 yX8_of RX8 2 := by decide +kernel
def s_limitOf8_0 (nw : Nat → Int32) : Int32 :=
  if 1 ≤ (nw 3) - ((nw 10) / 10) then
    (nw 3) - ((nw 10) / 10)
  else
    1
set_option maxHeartbeats 4000000 in
set_option maxRecDepth 100000 in
theorem c_limitOf8_0 (l : Launch) (D : va_G) (cyC cyI : ClassId) (mM : Nat) (mN : Nat) (mR : Nat) (mA : Nat) (mP : Nat) (mT : Nat) (mD : Nat) (ch : Int32) (le : Int32) (sp : Int32) (nw : Nat → Int32) (o0 : Int32) (hu : s_limitOf8_0 nw = o0) : CI l yX8_limitOf wsX8_limitOf { frames := 1, cells := 0, slots := 0, locals := 22 } D cyC cyI [.ref mM, .int 0] [(mM, .inr (8, [.ref mN, .ref mR, .ref mA, .ref mP, .int ch, .ref mT, .int le, .int sp, .ref mD])), (mN, .inl (cyI, 515, .inl nw))] o0 [(mM, .inr (8, [.ref mN, .ref mR, .ref mA, .ref mP, .int ch, .ref mT, .int le, .int sp, .ref mD])), (mN, .inl (cyI, 515, .inl nw))] := by
  refine CI.of (cc := cX8_limitOf) (n := 3) (ret := (some .int)) (by decide +kernel) rfl (Nat.le_of_ble_eq_true rfl) ?_
  intro p_ e_ s_ m_ bl_ me_ cd_ A_ ls X Y hr hlk hl
  have hx := X.1.1
  have hb := X.1.2.1
  have hl : lv_has ls 3 [(0, .ref mM), (1, .int 0)] := hl
  unfold s_limitOf8_0 at hu
  refine lv_aload_n hx hb dX8_limitOf_0 rfl (lv_at hl 0 rfl) ?_
  refine bGet (v := .ref mN) (T := TX8) (N := 9) (ci := 8) X Y i_X8_limitOf_X8 0 rfl rfl 0 (Nat.le_of_ble_eq_true rfl) f_X8_limitOf_7 rfl rfl dX8_limitOf_1 ?_
  refine lv_iconst (v := 3) hx hb dX8_limitOf_4 (by decide) ?_
  refine bIald (v := nw 3) X Y 1 rfl (bInD (by decide)) dX8_limitOf_5 rfl ?_
  refine lv_aload_n hx hb dX8_limitOf_6 rfl (lv_at hl 0 rfl) ?_
  refine lv_iload_n hx hb dX8_limitOf_7 rfl (lv_at hl 1 rfl) ?_
  refine lv_iconst (v := 3) hx hb dX8_limitOf_8 (by decide) ?_
  refine bVI0 (As := [.int 0, .int 3]) (rest := [.int (nw 3)]) (wc := [(mM, .inr (8, [.ref mN, .ref mR, .ref mA, .ref mP, .int ch, .ref mT, .int le, .int sp, .ref mD])), (mN, .inl (cyI, 515, .inl nw))]) (ci := 8) (q0 := 0) X Y (c_of8 l D cyC cyI mM mN mR mA mP mT mD ch le sp nw 0 3 (nw 10) (bOf (i := 10) (by decide) rfl) (bInD (by decide))) gX8_limitOf_X8_of rfl ⟨rfl, rfl⟩ hd_X8_of ⟨(Nat.le_of_ble_eq_true rfl), (Nat.le_of_ble_eq_true rfl)⟩ rfl rfl rfl [0, 1] rfl rfl rfl rfl hl.1 (Nat.le_of_ble_eq_true rfl) ⟨Nat.zero_le _, Nat.zero_le _⟩ dX8_limitOf_9 (fun H locs Y => ?_)
  refine lv_bipush (v := 10) hx hb dX8_limitOf_12 (by decide) ?_
  refine bDiv (v := (nw 10) / 10) X dX8_limitOf_14 (by decide) rfl ?_
  refine bSub (v := (nw 3) - ((nw 10) / 10)) X dX8_limitOf_15 rfl ?_
  refine lv_istore_n (lv' := [(2, .int ((nw 3) - ((nw 10) / 10))), (0, .ref mM), (1, .int 0)]) hx hb dX8_limitOf_16 rfl hl (by decide) rfl (fun ls hl => ?_)
  refine lv_iload_n hx hb dX8_limitOf_17 rfl (lv_at hl 0 rfl) ?_
  refine lv_iconst (v := 1) hx hb dX8_limitOf_18 (by decide) ?_
  refine lv_icmp_ge (tgt := 26) hx hb dX8_limitOf_19 (by decide) (fun c_1 => ?_) (fun c_1 => ?_)
  · have c_1 : 1 ≤ (nw 3) - ((nw 10) / 10) := c_1
    rw [if_pos c_1] at hu
    refine lv_iload_n hx hb dX8_limitOf_26 rfl (lv_at hl 0 rfl) ?_
    subst hu
    exact bEndI X Y hr hlk dX8_limitOf_27 rfl rfl
  · have c_1 : ¬ (1 ≤ (nw 3) - ((nw 10) / 10)) := c_1
    rw [if_neg c_1] at hu
    refine lv_iconst (v := 1) hx hb dX8_limitOf_22 (by decide) ?_
    refine lv_goto (tgt := 27) hx hb dX8_limitOf_23 (by decide) ?_
    subst hu
    exact bEndI X Y hr hlk dX8_limitOf_27 rfl rfl
def s_limitOf8_1 (nw : Nat → Int32) : Int32 :=
  if 1 ≤ (nw 3) - ((nw 23) / 10) then
    (nw 3) - ((nw 23) / 10)
  else
    1
set_option maxHeartbeats 4000000 in
set_option maxRecDepth 100000 in
theorem c_limitOf8_1 (l : Launch) (D : va_G) (cyC cyI : ClassId) (mM : Nat) (mN : Nat) (mR : Nat) (mA : Nat) (mP : Nat) (mT : Nat) (mD : Nat) (ch : Int32) (le : Int32) (sp : Int32) (nw : Nat → Int32) (o0 : Int32) (hu : s_limitOf8_1 nw = o0) : CI l yX8_limitOf wsX8_limitOf { frames := 1, cells := 0, slots := 0, locals := 22 } D cyC cyI [.ref mM, .int 1] [(mM, .inr (8, [.ref mN, .ref mR, .ref mA, .ref mP, .int ch, .ref mT, .int le, .int sp, .ref mD])), (mN, .inl (cyI, 515, .inl nw))] o0 [(mM, .inr (8, [.ref mN, .ref mR, .ref mA, .ref mP, .int ch, .ref mT, .int le, .int sp, .ref mD])), (mN, .inl (cyI, 515, .inl nw))] := by
  refine CI.of (cc := cX8_limitOf) (n := 3) (ret := (some .int)) (by decide +kernel) rfl (Nat.le_of_ble_eq_true rfl) ?_
  intro p_ e_ s_ m_ bl_ me_ cd_ A_ ls X Y hr hlk hl
  have hx := X.1.1
  have hb := X.1.2.1
  have hl : lv_has ls 3 [(0, .ref mM), (1, .int 1)] := hl
  unfold s_limitOf8_1 at hu
  refine lv_aload_n hx hb dX8_limitOf_0 rfl (lv_at hl 0 rfl) ?_
  refine bGet (v := .ref mN) (T := TX8) (N := 9) (ci := 8) X Y i_X8_limitOf_X8 0 rfl rfl 0 (Nat.le_of_ble_eq_true rfl) f_X8_limitOf_7 rfl rfl dX8_limitOf_1 ?_
  refine lv_iconst (v := 3) hx hb dX8_limitOf_4 (by decide) ?_
  refine bIald (v := nw 3) X Y 1 rfl (bInD (by decide)) dX8_limitOf_5 rfl ?_
  refine lv_aload_n hx hb dX8_limitOf_6 rfl (lv_at hl 0 rfl) ?_
  refine lv_iload_n hx hb dX8_limitOf_7 rfl (lv_at hl 1 rfl) ?_
  refine lv_iconst (v := 3) hx hb dX8_limitOf_8 (by decide) ?_
  refine bVI0 (As := [.int 1, .int 3]) (rest := [.int (nw 3)]) (wc := [(mM, .inr (8, [.ref mN, .ref mR, .ref mA, .ref mP, .int ch, .ref mT, .int le, .int sp, .ref mD])), (mN, .inl (cyI, 515, .inl nw))]) (ci := 8) (q0 := 0) X Y (c_of8 l D cyC cyI mM mN mR mA mP mT mD ch le sp nw 1 3 (nw 23) (bOf (i := 23) (by decide) rfl) (bInD (by decide))) gX8_limitOf_X8_of rfl ⟨rfl, rfl⟩ hd_X8_of ⟨(Nat.le_of_ble_eq_true rfl), (Nat.le_of_ble_eq_true rfl)⟩ rfl rfl rfl [0, 1] rfl rfl rfl rfl hl.1 (Nat.le_of_ble_eq_true rfl) ⟨Nat.zero_le _, Nat.zero_le _⟩ dX8_limitOf_9 (fun H locs Y => ?_)
  refine lv_bipush (v := 10) hx hb dX8_limitOf_12 (by decide) ?_
  refine bDiv (v := (nw 23) / 10) X dX8_limitOf_14 (by decide) rfl ?_
  refine bSub (v := (nw 3) - ((nw 23) / 10)) X dX8_limitOf_15 rfl ?_
  refine lv_istore_n (lv' := [(2, .int ((nw 3) - ((nw 23) / 10))), (0, .ref mM), (1, .int 1)]) hx hb dX8_limitOf_16 rfl hl (by decide) rfl (fun ls hl => ?_)
  refine lv_iload_n hx hb dX8_limitOf_17 rfl (lv_at hl 0 rfl) ?_
  refine lv_iconst (v := 1) hx hb dX8_limitOf_18 (by decide) ?_
  refine lv_icmp_ge (tgt := 26) hx hb dX8_limitOf_19 (by decide) (fun c_1 => ?_) (fun c_1 => ?_)
  · have c_1 : 1 ≤ (nw 3) - ((nw 23) / 10) := c_1
    rw [if_pos c_1] at hu
    refine lv_iload_n hx hb dX8_limitOf_26 rfl (lv_at hl 0 rfl) ?_
    subst hu
    exact bEndI X Y hr hlk dX8_limitOf_27 rfl rfl
  · have c_1 : ¬ (1 ≤ (nw 3) - ((nw 23) / 10)) := c_1
    rw [if_neg c_1] at hu
    refine lv_iconst (v := 1) hx hb dX8_limitOf_22 (by decide) ?_
    refine lv_goto (tgt := 27) hx hb dX8_limitOf_23 (by decide) ?_
    subst hu
    exact bEndI X Y hr hlk dX8_limitOf_27 rfl rfl
theorem hd_X8_size : bD1 yX8_size RX8 1 := by decide +kernel
theorem i_X8_stopBy_X8 : ∀ w ∈ wsX80, w ∈ wsX8_stopBy := by decide +kernel
theorem f_X8_stopBy_7 : Cond.fieldLink RX8 7 "SwingCranesModel" "now" "[I" ∈ wsX8_stopBy := by decide +kernel
def g_stopBy8 (nw : Nat → Int32) : Nat → Int32 → Int32 → Int32
  | 0, _, _ => 0
  | n_ + 1, su, k =>
    if k ≤ 0 then
      su
    else
      g_stopBy8 nw n_ (su + k) (k - (nw 2))
def s_stopBy8 (nw : Nat → Int32) (v : Int32) : Int32 :=
  g_stopBy8 nw ((s_size8 v).toInt.toNat + 1) 0 (s_size8 v)
set_option maxHeartbeats 4000000 in
set_option maxRecDepth 100000 in
theorem lp_stopBy8 {p_ : Program} {e_ : Env} {s_ : State} {m_ : MethodId} {bl_ : List Frame} {me_ : Method} {cd_ : Code} {A_ : Nat → Prop} (l : Launch) (D : va_G) (cyC cyI : ClassId) (mM : Nat) (mN : Nat) (mR : Nat) (mA : Nat) (mP : Nat) (mT : Nat) (mD : Nat) (ch : Int32) (le : Int32) (sp : Int32) (nw : Nat → Int32) (v : Int32) (o0 : Int32) (X : bX p_ s_ m_ ([.ref mM, .int v] : List Value).toArray cd_ cX8_stopBy 4 wsX8_stopBy yX8_stopBy.cls D cyC cyI) (hr : me_.sig.returnType = (some .int)) (hlk : me_.locks = false) (hc1 : 1 ≤ nw 2) : ∀ (n_ : Nat) (su : Int32) (k : Int32) (hN : k.toInt.toNat < n_) (hu : g_stopBy8 nw n_ su k = o0) (ls : Array Slot) (H : Heap) (locs : List Loc), lv_has ls 4 [(0, .ref mM), (1, .int v), (2, .int su), (3, .int k)] → bY D A_ s_.heap [(mM, .inr (8, [.ref mN, .ref mR, .ref mA, .ref mP, .int ch, .ref mT, .int le, .int sp, .ref mD])), (mN, .inl (cyI, 515, .inl nw))] H locs → W p_ l e_ ({ frames := 1, cells := 0, slots := 0, locals := 20 } : Room) s_ m_ ([.ref mM, .int v] : List Value).toArray bl_ me_ cd_ H locs 0 0 (bQI bl_ ([.ref mM, .int v] : List Value).toArray s_ D [(mM, .inr (8, [.ref mN, .ref mR, .ref mA, .ref mP, .int ch, .ref mT, .int le, .int sp, .ref mD])), (mN, .inl (cyI, 515, .inl nw))] o0 A_) (F0 m_ 7 ls []) := by
  intro n_
  induction n_ with
  | zero =>
    intro su k hN hu ls H locs hl Y
    exfalso; omega
  | succ n_ ih =>
    intro su k hN hu ls H locs hl Y
    have hx := X.1.1
    have hb := X.1.2.1
    rw [g_stopBy8] at hu
    refine lv_iload_n hx hb dX8_stopBy_7 rfl (lv_at hl 3 rfl) ?_
    refine lv_if_le (tgt := 27) hx hb dX8_stopBy_8 (by decide) (fun c_1 => ?_) (fun c_1 => ?_)
    · have c_1 : k ≤ 0 := c_1
      rw [if_pos c_1] at hu
      refine lv_iload_n hx hb dX8_stopBy_27 rfl (lv_at hl 2 rfl) ?_
      subst hu
      exact bEndI X Y hr hlk dX8_stopBy_28 rfl rfl
    · have c_1 : ¬ (k ≤ 0) := c_1
      rw [if_neg c_1] at hu
      refine lv_iload_n hx hb dX8_stopBy_11 rfl (lv_at hl 2 rfl) ?_
      refine lv_iload_n hx hb dX8_stopBy_12 rfl (lv_at hl 3 rfl) ?_
      refine bAdd (v := su + k) X dX8_stopBy_13 rfl ?_
      refine lv_istore_n (lv' := [(2, .int (su + k)), (0, .ref mM), (1, .int v), (3, .int k)]) hx hb dX8_stopBy_14 rfl hl (by decide) rfl (fun ls hl => ?_)
      refine lv_iload_n hx hb dX8_stopBy_15 rfl (lv_at hl 3 rfl) ?_
      refine lv_aload_n hx hb dX8_stopBy_16 rfl (lv_at hl 1 rfl) ?_
      refine bGet (v := .ref mN) (T := TX8) (N := 9) (ci := 8) X Y i_X8_stopBy_X8 0 rfl rfl 0 (Nat.le_of_ble_eq_true rfl) f_X8_stopBy_7 rfl rfl dX8_stopBy_17 ?_
      refine lv_iconst (v := 2) hx hb dX8_stopBy_20 (by decide) ?_
      refine bIald (v := nw 2) X Y 1 rfl (bInD (by decide)) dX8_stopBy_21 rfl ?_
      refine bSub (v := k - (nw 2)) X dX8_stopBy_22 rfl ?_
      refine lv_istore_n (lv' := [(3, .int (k - (nw 2))), (2, .int (su + k)), (0, .ref mM), (1, .int v)]) hx hb dX8_stopBy_23 rfl hl (by decide) rfl (fun ls hl => ?_)
      refine lv_goto (tgt := 7) hx hb dX8_stopBy_24 (by decide) ?_
      exact ih (su + k) (k - (nw 2)) (bDecS hc1 (bPos c_1) hN) hu _ _ _ (lv_sub hl [2, 3, 1, 0] rfl) Y
set_option maxHeartbeats 4000000 in
set_option maxRecDepth 100000 in
theorem c_stopBy8 (l : Launch) (D : va_G) (cyC cyI : ClassId) (mM : Nat) (mN : Nat) (mR : Nat) (mA : Nat) (mP : Nat) (mT : Nat) (mD : Nat) (ch : Int32) (le : Int32) (sp : Int32) (nw : Nat → Int32) (v : Int32) (o0 : Int32) (hu : s_stopBy8 nw v = o0) (hc1 : 1 ≤ nw 2) : CI l yX8_stopBy wsX8_stopBy { frames := 1, cells := 0, slots := 0, locals := 20 } D cyC cyI [.ref mM, .int v] [(mM, .inr (8, [.ref mN, .ref mR, .ref mA, .ref mP, .int ch, .ref mT, .int le, .int sp, .ref mD])), (mN, .inl (cyI, 515, .inl nw))] o0 [(mM, .inr (8, [.ref mN, .ref mR, .ref mA, .ref mP, .int ch, .ref mT, .int le, .int sp, .ref mD])), (mN, .inl (cyI, 515, .inl nw))] := by
  refine CI.of (cc := cX8_stopBy) (n := 4) (ret := (some .int)) (by decide +kernel) rfl (Nat.le_of_ble_eq_true rfl) ?_
  intro p_ e_ s_ m_ bl_ me_ cd_ A_ ls X Y hr hlk hl
  have hx := X.1.1
  have hb := X.1.2.1
  have hl : lv_has ls 4 [(0, .ref mM), (1, .int v)] := hl
  unfold s_stopBy8 at hu
  refine lv_iconst (v := 0) hx hb dX8_stopBy_0 (by decide) ?_
  refine lv_istore_n (lv' := [(2, .int 0), (0, .ref mM), (1, .int v)]) hx hb dX8_stopBy_1 rfl hl (by decide) rfl (fun ls hl => ?_)
  refine lv_iload_n hx hb dX8_stopBy_2 rfl (lv_at hl 2 rfl) ?_
  refine bSI (As := [.int v]) (rest := []) X Y (c_size8 l D cyC cyI v (s_size8 v) rfl) gX8_stopBy_X8_size rfl ⟨rfl, rfl⟩ hd_X8_size.2 ⟨(Nat.le_of_ble_eq_true rfl), (Nat.le_of_ble_eq_true rfl)⟩ rfl rfl hl.1 (Nat.le_of_ble_eq_true rfl) ⟨Nat.zero_le _, Nat.zero_le _⟩ dX8_stopBy_3 (fun H locs Y => ?_)
  refine lv_istore_n (lv' := [(3, .int (s_size8 v)), (2, .int 0), (0, .ref mM), (1, .int v)]) hx hb dX8_stopBy_6 rfl hl (by decide) rfl (fun ls hl => ?_)
  exact lp_stopBy8 l D cyC cyI mM mN mR mA mP mT mD ch le sp nw v o0 X hr hlk hc1 ((s_size8 v).toInt.toNat + 1) 0 (s_size8 v) (Nat.lt_succ_self _) hu _ _ _ (lv_sub hl [2, 3, 1, 0] rfl) Y
theorem i_X8_free_X8 : ∀ w ∈ wsX80, w ∈ wsX8_free := by decide +kernel
theorem f_X8_free_7 : Cond.fieldLink RX8 7 "SwingCranesModel" "now" "[I" ∈ wsX8_free := by decide +kernel
def s_free8 (nw : Nat → Int32) : Int32 :=
  ((nw 20) - (nw 7)) - (nw 1)
set_option maxHeartbeats 4000000 in
set_option maxRecDepth 100000 in
theorem c_free8 (l : Launch) (D : va_G) (cyC cyI : ClassId) (mM : Nat) (mN : Nat) (mR : Nat) (mA : Nat) (mP : Nat) (mT : Nat) (mD : Nat) (ch : Int32) (le : Int32) (sp : Int32) (nw : Nat → Int32) (o0 : Int32) (hu : s_free8 nw = o0) : CI l yX8_free wsX8_free { frames := 1, cells := 0, slots := 0, locals := 22 } D cyC cyI [.ref mM] [(mM, .inr (8, [.ref mN, .ref mR, .ref mA, .ref mP, .int ch, .ref mT, .int le, .int sp, .ref mD])), (mN, .inl (cyI, 515, .inl nw))] o0 [(mM, .inr (8, [.ref mN, .ref mR, .ref mA, .ref mP, .int ch, .ref mT, .int le, .int sp, .ref mD])), (mN, .inl (cyI, 515, .inl nw))] := by
  refine CI.of (cc := cX8_free) (n := 1) (ret := (some .int)) (by decide +kernel) rfl (Nat.le_of_ble_eq_true rfl) ?_
  intro p_ e_ s_ m_ bl_ me_ cd_ A_ ls X Y hr hlk hl
  have hx := X.1.1
  have hb := X.1.2.1
  have hl : lv_has ls 1 [(0, .ref mM)] := hl
  unfold s_free8 at hu
  refine lv_aload_n hx hb dX8_free_0 rfl (lv_at hl 0 rfl) ?_
  refine lv_iconst (v := 1) hx hb dX8_free_1 (by decide) ?_
  refine lv_iconst (v := 0) hx hb dX8_free_2 (by decide) ?_
  refine bVI0 (As := [.int 1, .int 0]) (rest := []) (wc := [(mM, .inr (8, [.ref mN, .ref mR, .ref mA, .ref mP, .int ch, .ref mT, .int le, .int sp, .ref mD])), (mN, .inl (cyI, 515, .inl nw))]) (ci := 8) (q0 := 0) X Y (c_of8 l D cyC cyI mM mN mR mA mP mT mD ch le sp nw 1 0 (nw 20) (bOf (i := 20) (by decide) rfl) (bInD (by decide))) gX8_free_X8_of rfl ⟨rfl, rfl⟩ hd_X8_of ⟨(Nat.le_of_ble_eq_true rfl), (Nat.le_of_ble_eq_true rfl)⟩ rfl rfl rfl [0, 1] rfl rfl rfl rfl hl.1 (Nat.le_of_ble_eq_true rfl) ⟨Nat.zero_le _, Nat.zero_le _⟩ dX8_free_3 (fun H locs Y => ?_)
  refine lv_aload_n hx hb dX8_free_6 rfl (lv_at hl 0 rfl) ?_
  refine lv_iconst (v := 0) hx hb dX8_free_7 (by decide) ?_
  refine lv_iconst (v := 0) hx hb dX8_free_8 (by decide) ?_
  refine bVI0 (As := [.int 0, .int 0]) (rest := [.int (nw 20)]) (wc := [(mM, .inr (8, [.ref mN, .ref mR, .ref mA, .ref mP, .int ch, .ref mT, .int le, .int sp, .ref mD])), (mN, .inl (cyI, 515, .inl nw))]) (ci := 8) (q0 := 0) X Y (c_of8 l D cyC cyI mM mN mR mA mP mT mD ch le sp nw 0 0 (nw 7) (bOf (i := 7) (by decide) rfl) (bInD (by decide))) gX8_free_X8_of rfl ⟨rfl, rfl⟩ hd_X8_of ⟨(Nat.le_of_ble_eq_true rfl), (Nat.le_of_ble_eq_true rfl)⟩ rfl rfl rfl [0, 1] rfl rfl rfl rfl hl.1 (Nat.le_of_ble_eq_true rfl) ⟨Nat.zero_le _, Nat.zero_le _⟩ dX8_free_9 (fun H locs Y => ?_)
  refine bSub (v := (nw 20) - (nw 7)) X dX8_free_12 rfl ?_
  refine lv_aload_n hx hb dX8_free_13 rfl (lv_at hl 0 rfl) ?_
  refine bGet (v := .ref mN) (T := TX8) (N := 9) (ci := 8) X Y i_X8_free_X8 0 rfl rfl 0 (Nat.le_of_ble_eq_true rfl) f_X8_free_7 rfl rfl dX8_free_14 ?_
  refine lv_iconst (v := 1) hx hb dX8_free_17 (by decide) ?_
  refine bIald (v := nw 1) X Y 1 rfl (bInD (by decide)) dX8_free_18 rfl ?_
  refine bSub (v := ((nw 20) - (nw 7)) - (nw 1)) X dX8_free_19 rfl ?_
  subst hu
  exact bEndI X Y hr hlk dX8_free_20 rfl rfl
theorem hd_X8_tells : bD1 yX8_tells RX8 3 := by decide +kernel
def s_stepsCome8_00 (nw : Nat → Int32) : (Nat → Int32) × Unit :=
  (upd (upd (upd (upd (upd nw 15 0) 16 0) 17 0) 18 0) 19 0, ())
set_option maxHeartbeats 4000000 in
set_option maxRecDepth 100000 in
theorem c_stepsCome8_00 (l : Launch) (D : va_G) (cyC cyI : ClassId) (mM : Nat) (mN : Nat) (mR : Nat) (mA : Nat) (mP : Nat) (mT : Nat) (mD : Nat) (ch : Int32) (le : Int32) (sp : Int32) (nw : Nat → Int32) (o0 : Nat → Int32) (hu : s_stepsCome8_00 nw = (o0, ())) (hk : nw 15 = 0) : CV l yX8_stepsCome wsX8_stepsCome { frames := 1, cells := 0, slots := 0, locals := 23 } D cyC cyI [.ref mM, .int 0] [(mM, .inr (8, [.ref mN, .ref mR, .ref mA, .ref mP, .int ch, .ref mT, .int le, .int sp, .ref mD])), (mN, .inl (cyI, 515, .inl nw))] [(mM, .inr (8, [.ref mN, .ref mR, .ref mA, .ref mP, .int ch, .ref mT, .int le, .int sp, .ref mD])), (mN, .inl (cyI, 515, .inl o0))] := by
  refine CV.of (cc := cX8_stepsCome) (n := 7) (ret := none) (by decide +kernel) rfl (Nat.le_of_ble_eq_true rfl) ?_
  intro p_ e_ s_ m_ bl_ me_ cd_ A_ ls X Y hr hlk hl
  have hx := X.1.1
  have hb := X.1.2.1
  have hl : lv_has ls 7 [(0, .ref mM), (1, .int 0)] := hl
  unfold s_stepsCome8_00 at hu
  refine lv_iconst (v := 0) hx hb dX8_stepsCome_0 (by decide) ?_
  refine lv_istore_n (lv' := [(2, .int 0), (0, .ref mM), (1, .int 0)]) hx hb dX8_stepsCome_1 rfl hl (by decide) rfl (fun ls hl => ?_)
  refine lv_aload_n hx hb dX8_stepsCome_2 rfl (lv_at hl 1 rfl) ?_
  refine lv_iload_n hx hb dX8_stepsCome_3 rfl (lv_at hl 2 rfl) ?_
  refine lv_bipush (v := 8) hx hb dX8_stepsCome_4 (by decide) ?_
  refine bVI0 (As := [.int 0, .int 8]) (rest := []) (wc := [(mM, .inr (8, [.ref mN, .ref mR, .ref mA, .ref mP, .int ch, .ref mT, .int le, .int sp, .ref mD])), (mN, .inl (cyI, 515, .inl nw))]) (ci := 8) (q0 := 0) X Y (c_of8 l D cyC cyI mM mN mR mA mP mT mD ch le sp nw 0 8 0 (bOf (i := 15) (by decide) hk) (bInD (by decide))) gX8_stepsCome_X8_of rfl ⟨rfl, rfl⟩ hd_X8_of ⟨(Nat.le_of_ble_eq_true rfl), (Nat.le_of_ble_eq_true rfl)⟩ rfl rfl rfl [0, 1] rfl rfl rfl rfl hl.1 (Nat.le_of_ble_eq_true rfl) ⟨Nat.zero_le _, Nat.zero_le _⟩ dX8_stepsCome_6 (fun H locs Y => ?_)
  refine lv_istore_n (lv' := [(3, .int 0), (2, .int 0), (0, .ref mM), (1, .int 0)]) hx hb dX8_stepsCome_9 rfl hl (by decide) rfl (fun ls hl => ?_)
  refine lv_iconst (v := 0) hx hb dX8_stepsCome_10 (by decide) ?_
  refine lv_istore (lv' := [(4, .int 0), (3, .int 0), (2, .int 0), (0, .ref mM), (1, .int 0)]) hx hb dX8_stepsCome_11 hl (by decide) rfl (fun ls hl => ?_)
  refine lv_iload hx hb dX8_stepsCome_13 (lv_at hl 0 rfl) ?_
  refine lv_iload_n hx hb dX8_stepsCome_15 rfl (lv_at hl 1 rfl) ?_
  refine lv_icmp_ge (tgt := 118) hx hb dX8_stepsCome_16 (by decide) (fun _ => ?_) (fun c_ => absurd (by decide) c_)
  refine lv_aload_n hx hb dX8_stepsCome_118 rfl (lv_at hl 3 rfl) ?_
  refine lv_iload_n hx hb dX8_stepsCome_119 rfl (lv_at hl 4 rfl) ?_
  refine lv_bipush (v := 8) hx hb dX8_stepsCome_120 (by decide) ?_
  refine lv_iload_n hx hb dX8_stepsCome_122 rfl (lv_at hl 2 rfl) ?_
  refine bVV (As := [.int 0, .int 8, .int 0]) (rest := []) (wc := [(mM, .inr (8, [.ref mN, .ref mR, .ref mA, .ref mP, .int ch, .ref mT, .int le, .int sp, .ref mD])), (mN, .inl (cyI, 515, .inl nw))]) (w1 := [(mM, .inr (8, [.ref mN, .ref mR, .ref mA, .ref mP, .int ch, .ref mT, .int le, .int sp, .ref mD])), (mN, .inl (cyI, 515, .inl (upd nw 15 0)))]) (ws' := [(mM, .inr (8, [.ref mN, .ref mR, .ref mA, .ref mP, .int ch, .ref mT, .int le, .int sp, .ref mD])), (mN, .inl (cyI, 515, .inl (upd nw 15 0)))]) (ad := [mM, mN]) (wr := []) (nn := 2) (ci := 8) (q0 := 0) X Y (c_tells8 l D cyC cyI mM mN mR mA mP mT mD ch le sp nw 0 8 0 (upd nw 15 0) (bTells (i := 15) (by decide) rfl) (bInD (by decide))) gX8_stepsCome_X8_tells rfl ⟨rfl, rfl⟩ hd_X8_tells ⟨(Nat.le_of_ble_eq_true rfl), (Nat.le_of_ble_eq_true rfl)⟩ rfl rfl rfl [0, 1] [] rfl rfl rfl rfl rfl rfl rfl rfl (by decide) rfl rfl hl.1 (Nat.le_of_ble_eq_true rfl) ⟨Nat.zero_le _, Nat.zero_le _⟩ dX8_stepsCome_123 (fun H locs Y => ?_)
  refine lv_iconst (v := 2) hx hb dX8_stepsCome_126 (by decide) ?_
  refine lv_iload_n hx hb dX8_stepsCome_127 rfl (lv_at hl 2 rfl) ?_
  refine bMul (v := 0) X dX8_stepsCome_128 (by decide) ?_
  refine lv_istore (lv' := [(4, .int 0), (3, .int 0), (2, .int 0), (0, .ref mM), (1, .int 0)]) hx hb dX8_stepsCome_129 hl (by decide) rfl (fun ls hl => ?_)
  refine lv_iload hx hb dX8_stepsCome_131 (lv_at hl 0 rfl) ?_
  refine lv_iconst (v := 4) hx hb dX8_stepsCome_133 (by decide) ?_
  refine lv_icmp_ge (tgt := 154) hx hb dX8_stepsCome_134 (by decide) (fun c_ => absurd c_ (by decide)) (fun _ => ?_)
  refine lv_aload_n hx hb dX8_stepsCome_137 rfl (lv_at hl 3 rfl) ?_
  refine lv_iload_n hx hb dX8_stepsCome_138 rfl (lv_at hl 4 rfl) ?_
  refine lv_bipush (v := 9) hx hb dX8_stepsCome_139 (by decide) ?_
  refine lv_iload hx hb dX8_stepsCome_141 (lv_at hl 0 rfl) ?_
  refine bAdd (v := 9) X dX8_stepsCome_143 (by decide) ?_
  refine lv_iconst (v := 0) hx hb dX8_stepsCome_144 (by decide) ?_
  refine bVV (As := [.int 0, .int 9, .int 0]) (rest := []) (wc := [(mM, .inr (8, [.ref mN, .ref mR, .ref mA, .ref mP, .int ch, .ref mT, .int le, .int sp, .ref mD])), (mN, .inl (cyI, 515, .inl (upd nw 15 0)))]) (w1 := [(mM, .inr (8, [.ref mN, .ref mR, .ref mA, .ref mP, .int ch, .ref mT, .int le, .int sp, .ref mD])), (mN, .inl (cyI, 515, .inl (upd (upd nw 15 0) 16 0)))]) (ws' := [(mM, .inr (8, [.ref mN, .ref mR, .ref mA, .ref mP, .int ch, .ref mT, .int le, .int sp, .ref mD])), (mN, .inl (cyI, 515, .inl (upd (upd nw 15 0) 16 0)))]) (ad := [mM, mN]) (wr := []) (nn := 2) (ci := 8) (q0 := 0) X Y (c_tells8 l D cyC cyI mM mN mR mA mP mT mD ch le sp (upd nw 15 0) 0 9 0 (upd (upd nw 15 0) 16 0) (bTells (i := 16) (by decide) rfl) (bInD (by decide))) gX8_stepsCome_X8_tells rfl ⟨rfl, rfl⟩ hd_X8_tells ⟨(Nat.le_of_ble_eq_true rfl), (Nat.le_of_ble_eq_true rfl)⟩ rfl rfl rfl [0, 1] [] rfl rfl rfl rfl rfl rfl rfl rfl (by decide) rfl rfl hl.1 (Nat.le_of_ble_eq_true rfl) ⟨Nat.zero_le _, Nat.zero_le _⟩ dX8_stepsCome_145 (fun H locs Y => ?_)
  refine lv_iinc (v := 1) (lv' := [(4, .int 1), (3, .int 0), (2, .int 0), (0, .ref mM), (1, .int 0)]) hx hb dX8_stepsCome_148 hl (k := 0) rfl (by decide) (by decide) rfl (fun ls hl => ?_)
  refine lv_goto (tgt := 131) hx hb dX8_stepsCome_151 (by decide) ?_
  refine lv_iload hx hb dX8_stepsCome_131 (lv_at hl 0 rfl) ?_
  refine lv_iconst (v := 4) hx hb dX8_stepsCome_133 (by decide) ?_
  refine lv_icmp_ge (tgt := 154) hx hb dX8_stepsCome_134 (by decide) (fun c_ => absurd c_ (by decide)) (fun _ => ?_)
  refine lv_aload_n hx hb dX8_stepsCome_137 rfl (lv_at hl 3 rfl) ?_
  refine lv_iload_n hx hb dX8_stepsCome_138 rfl (lv_at hl 4 rfl) ?_
  refine lv_bipush (v := 9) hx hb dX8_stepsCome_139 (by decide) ?_
  refine lv_iload hx hb dX8_stepsCome_141 (lv_at hl 0 rfl) ?_
  refine bAdd (v := 10) X dX8_stepsCome_143 (by decide) ?_
  refine lv_iconst (v := 0) hx hb dX8_stepsCome_144 (by decide) ?_
  refine bVV (As := [.int 0, .int 10, .int 0]) (rest := []) (wc := [(mM, .inr (8, [.ref mN, .ref mR, .ref mA, .ref mP, .int ch, .ref mT, .int le, .int sp, .ref mD])), (mN, .inl (cyI, 515, .inl (upd (upd nw 15 0) 16 0)))]) (w1 := [(mM, .inr (8, [.ref mN, .ref mR, .ref mA, .ref mP, .int ch, .ref mT, .int le, .int sp, .ref mD])), (mN, .inl (cyI, 515, .inl (upd (upd (upd nw 15 0) 16 0) 17 0)))]) (ws' := [(mM, .inr (8, [.ref mN, .ref mR, .ref mA, .ref mP, .int ch, .ref mT, .int le, .int sp, .ref mD])), (mN, .inl (cyI, 515, .inl (upd (upd (upd nw 15 0) 16 0) 17 0)))]) (ad := [mM, mN]) (wr := []) (nn := 2) (ci := 8) (q0 := 0) X Y (c_tells8 l D cyC cyI mM mN mR mA mP mT mD ch le sp (upd (upd nw 15 0) 16 0) 0 10 0 (upd (upd (upd nw 15 0) 16 0) 17 0) (bTells (i := 17) (by decide) rfl) (bInD (by decide))) gX8_stepsCome_X8_tells rfl ⟨rfl, rfl⟩ hd_X8_tells ⟨(Nat.le_of_ble_eq_true rfl), (Nat.le_of_ble_eq_true rfl)⟩ rfl rfl rfl [0, 1] [] rfl rfl rfl rfl rfl rfl rfl rfl (by decide) rfl rfl hl.1 (Nat.le_of_ble_eq_true rfl) ⟨Nat.zero_le _, Nat.zero_le _⟩ dX8_stepsCome_145 (fun H locs Y => ?_)
  refine lv_iinc (v := 2) (lv' := [(4, .int 2), (3, .int 0), (2, .int 0), (0, .ref mM), (1, .int 0)]) hx hb dX8_stepsCome_148 hl (k := 0) rfl (by decide) (by decide) rfl (fun ls hl => ?_)
  refine lv_goto (tgt := 131) hx hb dX8_stepsCome_151 (by decide) ?_
  refine lv_iload hx hb dX8_stepsCome_131 (lv_at hl 0 rfl) ?_
  refine lv_iconst (v := 4) hx hb dX8_stepsCome_133 (by decide) ?_
  refine lv_icmp_ge (tgt := 154) hx hb dX8_stepsCome_134 (by decide) (fun c_ => absurd c_ (by decide)) (fun _ => ?_)
  refine lv_aload_n hx hb dX8_stepsCome_137 rfl (lv_at hl 3 rfl) ?_
  refine lv_iload_n hx hb dX8_stepsCome_138 rfl (lv_at hl 4 rfl) ?_
  refine lv_bipush (v := 9) hx hb dX8_stepsCome_139 (by decide) ?_
  refine lv_iload hx hb dX8_stepsCome_141 (lv_at hl 0 rfl) ?_
  refine bAdd (v := 11) X dX8_stepsCome_143 (by decide) ?_
  refine lv_iconst (v := 0) hx hb dX8_stepsCome_144 (by decide) ?_
  refine bVV (As := [.int 0, .int 11, .int 0]) (rest := []) (wc := [(mM, .inr (8, [.ref mN, .ref mR, .ref mA, .ref mP, .int ch, .ref mT, .int le, .int sp, .ref mD])), (mN, .inl (cyI, 515, .inl (upd (upd (upd nw 15 0) 16 0) 17 0)))]) (w1 := [(mM, .inr (8, [.ref mN, .ref mR, .ref mA, .ref mP, .int ch, .ref mT, .int le, .int sp, .ref mD])), (mN, .inl (cyI, 515, .inl (upd (upd (upd (upd nw 15 0) 16 0) 17 0) 18 0)))]) (ws' := [(mM, .inr (8, [.ref mN, .ref mR, .ref mA, .ref mP, .int ch, .ref mT, .int le, .int sp, .ref mD])), (mN, .inl (cyI, 515, .inl (upd (upd (upd (upd nw 15 0) 16 0) 17 0) 18 0)))]) (ad := [mM, mN]) (wr := []) (nn := 2) (ci := 8) (q0 := 0) X Y (c_tells8 l D cyC cyI mM mN mR mA mP mT mD ch le sp (upd (upd (upd nw 15 0) 16 0) 17 0) 0 11 0 (upd (upd (upd (upd nw 15 0) 16 0) 17 0) 18 0) (bTells (i := 18) (by decide) rfl) (bInD (by decide))) gX8_stepsCome_X8_tells rfl ⟨rfl, rfl⟩ hd_X8_tells ⟨(Nat.le_of_ble_eq_true rfl), (Nat.le_of_ble_eq_true rfl)⟩ rfl rfl rfl [0, 1] [] rfl rfl rfl rfl rfl rfl rfl rfl (by decide) rfl rfl hl.1 (Nat.le_of_ble_eq_true rfl) ⟨Nat.zero_le _, Nat.zero_le _⟩ dX8_stepsCome_145 (fun H locs Y => ?_)
  refine lv_iinc (v := 3) (lv' := [(4, .int 3), (3, .int 0), (2, .int 0), (0, .ref mM), (1, .int 0)]) hx hb dX8_stepsCome_148 hl (k := 0) rfl (by decide) (by decide) rfl (fun ls hl => ?_)
  refine lv_goto (tgt := 131) hx hb dX8_stepsCome_151 (by decide) ?_
  refine lv_iload hx hb dX8_stepsCome_131 (lv_at hl 0 rfl) ?_
  refine lv_iconst (v := 4) hx hb dX8_stepsCome_133 (by decide) ?_
  refine lv_icmp_ge (tgt := 154) hx hb dX8_stepsCome_134 (by decide) (fun c_ => absurd c_ (by decide)) (fun _ => ?_)
  refine lv_aload_n hx hb dX8_stepsCome_137 rfl (lv_at hl 3 rfl) ?_
  refine lv_iload_n hx hb dX8_stepsCome_138 rfl (lv_at hl 4 rfl) ?_
  refine lv_bipush (v := 9) hx hb dX8_stepsCome_139 (by decide) ?_
  refine lv_iload hx hb dX8_stepsCome_141 (lv_at hl 0 rfl) ?_
  refine bAdd (v := 12) X dX8_stepsCome_143 (by decide) ?_
  refine lv_iconst (v := 0) hx hb dX8_stepsCome_144 (by decide) ?_
  refine bVV (As := [.int 0, .int 12, .int 0]) (rest := []) (wc := [(mM, .inr (8, [.ref mN, .ref mR, .ref mA, .ref mP, .int ch, .ref mT, .int le, .int sp, .ref mD])), (mN, .inl (cyI, 515, .inl (upd (upd (upd (upd nw 15 0) 16 0) 17 0) 18 0)))]) (w1 := [(mM, .inr (8, [.ref mN, .ref mR, .ref mA, .ref mP, .int ch, .ref mT, .int le, .int sp, .ref mD])), (mN, .inl (cyI, 515, .inl (upd (upd (upd (upd (upd nw 15 0) 16 0) 17 0) 18 0) 19 0)))]) (ws' := [(mM, .inr (8, [.ref mN, .ref mR, .ref mA, .ref mP, .int ch, .ref mT, .int le, .int sp, .ref mD])), (mN, .inl (cyI, 515, .inl (upd (upd (upd (upd (upd nw 15 0) 16 0) 17 0) 18 0) 19 0)))]) (ad := [mM, mN]) (wr := []) (nn := 2) (ci := 8) (q0 := 0) X Y (c_tells8 l D cyC cyI mM mN mR mA mP mT mD ch le sp (upd (upd (upd (upd nw 15 0) 16 0) 17 0) 18 0) 0 12 0 (upd (upd (upd (upd (upd nw 15 0) 16 0) 17 0) 18 0) 19 0) (bTells (i := 19) (by decide) rfl) (bInD (by decide))) gX8_stepsCome_X8_tells rfl ⟨rfl, rfl⟩ hd_X8_tells ⟨(Nat.le_of_ble_eq_true rfl), (Nat.le_of_ble_eq_true rfl)⟩ rfl rfl rfl [0, 1] [] rfl rfl rfl rfl rfl rfl rfl rfl (by decide) rfl rfl hl.1 (Nat.le_of_ble_eq_true rfl) ⟨Nat.zero_le _, Nat.zero_le _⟩ dX8_stepsCome_145 (fun H locs Y => ?_)
  refine lv_iinc (v := 4) (lv' := [(4, .int 4), (3, .int 0), (2, .int 0), (0, .ref mM), (1, .int 0)]) hx hb dX8_stepsCome_148 hl (k := 0) rfl (by decide) (by decide) rfl (fun ls hl => ?_)
  refine lv_goto (tgt := 131) hx hb dX8_stepsCome_151 (by decide) ?_
  refine lv_iload hx hb dX8_stepsCome_131 (lv_at hl 0 rfl) ?_
  refine lv_iconst (v := 4) hx hb dX8_stepsCome_133 (by decide) ?_
  refine lv_icmp_ge (tgt := 154) hx hb dX8_stepsCome_134 (by decide) (fun _ => ?_) (fun c_ => absurd (by decide) c_)
  have h9 := (Prod.mk.inj hu).1
  subst h9
  exact bEndV X Y hr hlk dX8_stepsCome_154 rfl
theorem i_X8_stepsCome_X8 : ∀ w ∈ wsX80, w ∈ wsX8_stepsCome := by decide +kernel
theorem f_X8_stepsCome_7 : Cond.fieldLink RX8 7 "SwingCranesModel" "now" "[I" ∈ wsX8_stepsCome := by decide +kernel
def s_stepsCome8_01 (nw : Nat → Int32) : (Nat → Int32) × Unit :=
  if (nw 16) = (nw 6) then
    (upd (upd (upd (upd (upd (upd nw 13 ((nw 13) + (nw 17))) 15 0) 16 0) 17 0) 18 0) 19 0, ())
  else
    (upd (upd (upd (upd (upd nw 16 (nw 16)) 17 (nw 17)) 15 1) 18 0) 19 0, ())
set_option maxHeartbeats 4000000 in
set_option maxRecDepth 100000 in
theorem c_stepsCome8_01 (l : Launch) (D : va_G) (cyC cyI : ClassId) (mM : Nat) (mN : Nat) (mR : Nat) (mA : Nat) (mP : Nat) (mT : Nat) (mD : Nat) (ch : Int32) (le : Int32) (sp : Int32) (nw : Nat → Int32) (o0 : Nat → Int32) (hu : s_stepsCome8_01 nw = (o0, ())) (hk : nw 15 = 1) : CV l yX8_stepsCome wsX8_stepsCome { frames := 1, cells := 0, slots := 0, locals := 23 } D cyC cyI [.ref mM, .int 0] [(mM, .inr (8, [.ref mN, .ref mR, .ref mA, .ref mP, .int ch, .ref mT, .int le, .int sp, .ref mD])), (mN, .inl (cyI, 515, .inl nw))] [(mM, .inr (8, [.ref mN, .ref mR, .ref mA, .ref mP, .int ch, .ref mT, .int le, .int sp, .ref mD])), (mN, .inl (cyI, 515, .inl o0))] := by
  refine CV.of (cc := cX8_stepsCome) (n := 7) (ret := none) (by decide +kernel) rfl (Nat.le_of_ble_eq_true rfl) ?_
  intro p_ e_ s_ m_ bl_ me_ cd_ A_ ls X Y hr hlk hl
  have hx := X.1.1
  have hb := X.1.2.1
  have hl : lv_has ls 7 [(0, .ref mM), (1, .int 0)] := hl
  unfold s_stepsCome8_01 at hu
  refine lv_iconst (v := 0) hx hb dX8_stepsCome_0 (by decide) ?_
  refine lv_istore_n (lv' := [(2, .int 0), (0, .ref mM), (1, .int 0)]) hx hb dX8_stepsCome_1 rfl hl (by decide) rfl (fun ls hl => ?_)
  refine lv_aload_n hx hb dX8_stepsCome_2 rfl (lv_at hl 1 rfl) ?_
  refine lv_iload_n hx hb dX8_stepsCome_3 rfl (lv_at hl 2 rfl) ?_
  refine lv_bipush (v := 8) hx hb dX8_stepsCome_4 (by decide) ?_
  refine bVI0 (As := [.int 0, .int 8]) (rest := []) (wc := [(mM, .inr (8, [.ref mN, .ref mR, .ref mA, .ref mP, .int ch, .ref mT, .int le, .int sp, .ref mD])), (mN, .inl (cyI, 515, .inl nw))]) (ci := 8) (q0 := 0) X Y (c_of8 l D cyC cyI mM mN mR mA mP mT mD ch le sp nw 0 8 1 (bOf (i := 15) (by decide) hk) (bInD (by decide))) gX8_stepsCome_X8_of rfl ⟨rfl, rfl⟩ hd_X8_of ⟨(Nat.le_of_ble_eq_true rfl), (Nat.le_of_ble_eq_true rfl)⟩ rfl rfl rfl [0, 1] rfl rfl rfl rfl hl.1 (Nat.le_of_ble_eq_true rfl) ⟨Nat.zero_le _, Nat.zero_le _⟩ dX8_stepsCome_6 (fun H locs Y => ?_)
  refine lv_istore_n (lv' := [(3, .int 1), (2, .int 0), (0, .ref mM), (1, .int 0)]) hx hb dX8_stepsCome_9 rfl hl (by decide) rfl (fun ls hl => ?_)
  refine lv_iconst (v := 0) hx hb dX8_stepsCome_10 (by decide) ?_
  refine lv_istore (lv' := [(4, .int 0), (3, .int 1), (2, .int 0), (0, .ref mM), (1, .int 0)]) hx hb dX8_stepsCome_11 hl (by decide) rfl (fun ls hl => ?_)
  refine lv_iload hx hb dX8_stepsCome_13 (lv_at hl 0 rfl) ?_
  refine lv_iload_n hx hb dX8_stepsCome_15 rfl (lv_at hl 1 rfl) ?_
  refine lv_icmp_ge (tgt := 118) hx hb dX8_stepsCome_16 (by decide) (fun c_ => absurd c_ (by decide)) (fun _ => ?_)
  refine lv_aload_n hx hb dX8_stepsCome_19 rfl (lv_at hl 3 rfl) ?_
  refine lv_iload_n hx hb dX8_stepsCome_20 rfl (lv_at hl 4 rfl) ?_
  refine lv_bipush (v := 9) hx hb dX8_stepsCome_21 (by decide) ?_
  refine lv_iconst (v := 2) hx hb dX8_stepsCome_23 (by decide) ?_
  refine lv_iload hx hb dX8_stepsCome_24 (lv_at hl 0 rfl) ?_
  refine bMul (v := 0) X dX8_stepsCome_26 (by decide) ?_
  refine bAdd (v := 9) X dX8_stepsCome_27 (by decide) ?_
  refine bVI0 (As := [.int 0, .int 9]) (rest := []) (wc := [(mM, .inr (8, [.ref mN, .ref mR, .ref mA, .ref mP, .int ch, .ref mT, .int le, .int sp, .ref mD])), (mN, .inl (cyI, 515, .inl nw))]) (ci := 8) (q0 := 0) X Y (c_of8 l D cyC cyI mM mN mR mA mP mT mD ch le sp nw 0 9 (nw 16) (bOf (i := 16) (by decide) rfl) (bInD (by decide))) gX8_stepsCome_X8_of rfl ⟨rfl, rfl⟩ hd_X8_of ⟨(Nat.le_of_ble_eq_true rfl), (Nat.le_of_ble_eq_true rfl)⟩ rfl rfl rfl [0, 1] rfl rfl rfl rfl hl.1 (Nat.le_of_ble_eq_true rfl) ⟨Nat.zero_le _, Nat.zero_le _⟩ dX8_stepsCome_28 (fun H locs Y => ?_)
  refine lv_istore (lv' := [(5, .int (nw 16)), (4, .int 0), (3, .int 1), (2, .int 0), (0, .ref mM), (1, .int 0)]) hx hb dX8_stepsCome_31 hl (by decide) rfl (fun ls hl => ?_)
  refine lv_aload_n hx hb dX8_stepsCome_33 rfl (lv_at hl 4 rfl) ?_
  refine lv_iload_n hx hb dX8_stepsCome_34 rfl (lv_at hl 5 rfl) ?_
  refine lv_bipush (v := 9) hx hb dX8_stepsCome_35 (by decide) ?_
  refine lv_iconst (v := 2) hx hb dX8_stepsCome_37 (by decide) ?_
  refine lv_iload hx hb dX8_stepsCome_38 (lv_at hl 1 rfl) ?_
  refine bMul (v := 0) X dX8_stepsCome_40 (by decide) ?_
  refine bAdd (v := 9) X dX8_stepsCome_41 (by decide) ?_
  refine lv_iconst (v := 1) hx hb dX8_stepsCome_42 (by decide) ?_
  refine bAdd (v := 10) X dX8_stepsCome_43 (by decide) ?_
  refine bVI0 (As := [.int 0, .int 10]) (rest := []) (wc := [(mM, .inr (8, [.ref mN, .ref mR, .ref mA, .ref mP, .int ch, .ref mT, .int le, .int sp, .ref mD])), (mN, .inl (cyI, 515, .inl nw))]) (ci := 8) (q0 := 0) X Y (c_of8 l D cyC cyI mM mN mR mA mP mT mD ch le sp nw 0 10 (nw 17) (bOf (i := 17) (by decide) rfl) (bInD (by decide))) gX8_stepsCome_X8_of rfl ⟨rfl, rfl⟩ hd_X8_of ⟨(Nat.le_of_ble_eq_true rfl), (Nat.le_of_ble_eq_true rfl)⟩ rfl rfl rfl [0, 1] rfl rfl rfl rfl hl.1 (Nat.le_of_ble_eq_true rfl) ⟨Nat.zero_le _, Nat.zero_le _⟩ dX8_stepsCome_44 (fun H locs Y => ?_)
  refine lv_istore (lv' := [(6, .int (nw 17)), (5, .int (nw 16)), (4, .int 0), (3, .int 1), (2, .int 0), (0, .ref mM), (1, .int 0)]) hx hb dX8_stepsCome_47 hl (by decide) rfl (fun ls hl => ?_)
  refine lv_iload hx hb dX8_stepsCome_49 (lv_at hl 1 rfl) ?_
  refine lv_aload_n hx hb dX8_stepsCome_51 rfl (lv_at hl 5 rfl) ?_
  refine bGet (v := .ref mN) (T := TX8) (N := 9) (ci := 8) X Y i_X8_stepsCome_X8 0 rfl rfl 0 (Nat.le_of_ble_eq_true rfl) f_X8_stepsCome_7 rfl rfl dX8_stepsCome_52 ?_
  refine lv_bipush (v := 6) hx hb dX8_stepsCome_55 (by decide) ?_
  refine bIald (v := nw 6) X Y 1 rfl (bInD (by decide)) dX8_stepsCome_57 rfl ?_
  refine lv_icmp_ne (tgt := 81) hx hb dX8_stepsCome_58 (by decide) (fun c_1 => ?_) (fun c_1 => ?_)
  · have c_1 : ¬ ((nw 16) = (nw 6)) := c_1
    rw [if_neg c_1] at hu
    refine lv_aload_n hx hb dX8_stepsCome_81 rfl (lv_at hl 5 rfl) ?_
    refine lv_iload_n hx hb dX8_stepsCome_82 rfl (lv_at hl 6 rfl) ?_
    refine lv_bipush (v := 9) hx hb dX8_stepsCome_83 (by decide) ?_
    refine lv_iconst (v := 2) hx hb dX8_stepsCome_85 (by decide) ?_
    refine lv_iload_n hx hb dX8_stepsCome_86 rfl (lv_at hl 4 rfl) ?_
    refine bMul (v := 0) X dX8_stepsCome_87 (by decide) ?_
    refine bAdd (v := 9) X dX8_stepsCome_88 (by decide) ?_
    refine lv_iload hx hb dX8_stepsCome_89 (lv_at hl 1 rfl) ?_
    refine bVV (As := [.int 0, .int 9, .int (nw 16)]) (rest := []) (wc := [(mM, .inr (8, [.ref mN, .ref mR, .ref mA, .ref mP, .int ch, .ref mT, .int le, .int sp, .ref mD])), (mN, .inl (cyI, 515, .inl nw))]) (w1 := [(mM, .inr (8, [.ref mN, .ref mR, .ref mA, .ref mP, .int ch, .ref mT, .int le, .int sp, .ref mD])), (mN, .inl (cyI, 515, .inl (upd nw 16 (nw 16))))]) (ws' := [(mM, .inr (8, [.ref mN, .ref mR, .ref mA, .ref mP, .int ch, .ref mT, .int le, .int sp, .ref mD])), (mN, .inl (cyI, 515, .inl (upd nw 16 (nw 16))))]) (ad := [mM, mN]) (wr := []) (nn := 2) (ci := 8) (q0 := 0) X Y (c_tells8 l D cyC cyI mM mN mR mA mP mT mD ch le sp nw 0 9 (nw 16) (upd nw 16 (nw 16)) (bTells (i := 16) (by decide) rfl) (bInD (by decide))) gX8_stepsCome_X8_tells rfl ⟨rfl, rfl⟩ hd_X8_tells ⟨(Nat.le_of_ble_eq_true rfl), (Nat.le_of_ble_eq_true rfl)⟩ rfl rfl rfl [0, 1] [] rfl rfl rfl rfl rfl rfl rfl rfl (by decide) rfl rfl hl.1 (Nat.le_of_ble_eq_true rfl) ⟨Nat.zero_le _, Nat.zero_le _⟩ dX8_stepsCome_91 (fun H locs Y => ?_)
    refine lv_aload_n hx hb dX8_stepsCome_94 rfl (lv_at hl 5 rfl) ?_
    refine lv_iload_n hx hb dX8_stepsCome_95 rfl (lv_at hl 6 rfl) ?_
    refine lv_bipush (v := 9) hx hb dX8_stepsCome_96 (by decide) ?_
    refine lv_iconst (v := 2) hx hb dX8_stepsCome_98 (by decide) ?_
    refine lv_iload_n hx hb dX8_stepsCome_99 rfl (lv_at hl 4 rfl) ?_
    refine bMul (v := 0) X dX8_stepsCome_100 (by decide) ?_
    refine bAdd (v := 9) X dX8_stepsCome_101 (by decide) ?_
    refine lv_iconst (v := 1) hx hb dX8_stepsCome_102 (by decide) ?_
    refine bAdd (v := 10) X dX8_stepsCome_103 (by decide) ?_
    refine lv_iload hx hb dX8_stepsCome_104 (lv_at hl 0 rfl) ?_
    refine bVV (As := [.int 0, .int 10, .int (nw 17)]) (rest := []) (wc := [(mM, .inr (8, [.ref mN, .ref mR, .ref mA, .ref mP, .int ch, .ref mT, .int le, .int sp, .ref mD])), (mN, .inl (cyI, 515, .inl (upd nw 16 (nw 16))))]) (w1 := [(mM, .inr (8, [.ref mN, .ref mR, .ref mA, .ref mP, .int ch, .ref mT, .int le, .int sp, .ref mD])), (mN, .inl (cyI, 515, .inl (upd (upd nw 16 (nw 16)) 17 (nw 17))))]) (ws' := [(mM, .inr (8, [.ref mN, .ref mR, .ref mA, .ref mP, .int ch, .ref mT, .int le, .int sp, .ref mD])), (mN, .inl (cyI, 515, .inl (upd (upd nw 16 (nw 16)) 17 (nw 17))))]) (ad := [mM, mN]) (wr := []) (nn := 2) (ci := 8) (q0 := 0) X Y (c_tells8 l D cyC cyI mM mN mR mA mP mT mD ch le sp (upd nw 16 (nw 16)) 0 10 (nw 17) (upd (upd nw 16 (nw 16)) 17 (nw 17)) (bTells (i := 17) (by decide) rfl) (bInD (by decide))) gX8_stepsCome_X8_tells rfl ⟨rfl, rfl⟩ hd_X8_tells ⟨(Nat.le_of_ble_eq_true rfl), (Nat.le_of_ble_eq_true rfl)⟩ rfl rfl rfl [0, 1] [] rfl rfl rfl rfl rfl rfl rfl rfl (by decide) rfl rfl hl.1 (Nat.le_of_ble_eq_true rfl) ⟨Nat.zero_le _, Nat.zero_le _⟩ dX8_stepsCome_106 (fun H locs Y => ?_)
    refine lv_iinc (v := 1) (lv' := [(2, .int 1), (6, .int (nw 17)), (5, .int (nw 16)), (4, .int 0), (3, .int 1), (0, .ref mM), (1, .int 0)]) hx hb dX8_stepsCome_109 hl (k := 4) rfl (by decide) (by decide) rfl (fun ls hl => ?_)
    refine lv_iinc (v := 1) (lv' := [(4, .int 1), (2, .int 1), (6, .int (nw 17)), (5, .int (nw 16)), (3, .int 1), (0, .ref mM), (1, .int 0)]) hx hb dX8_stepsCome_112 hl (k := 3) rfl (by decide) (by decide) rfl (fun ls hl => ?_)
    refine lv_goto (tgt := 13) hx hb dX8_stepsCome_115 (by decide) ?_
    refine lv_iload hx hb dX8_stepsCome_13 (lv_at hl 0 rfl) ?_
    refine lv_iload_n hx hb dX8_stepsCome_15 rfl (lv_at hl 4 rfl) ?_
    refine lv_icmp_ge (tgt := 118) hx hb dX8_stepsCome_16 (by decide) (fun _ => ?_) (fun c_ => absurd (by decide) c_)
    refine lv_aload_n hx hb dX8_stepsCome_118 rfl (lv_at hl 5 rfl) ?_
    refine lv_iload_n hx hb dX8_stepsCome_119 rfl (lv_at hl 6 rfl) ?_
    refine lv_bipush (v := 8) hx hb dX8_stepsCome_120 (by decide) ?_
    refine lv_iload_n hx hb dX8_stepsCome_122 rfl (lv_at hl 1 rfl) ?_
    refine bVV (As := [.int 0, .int 8, .int 1]) (rest := []) (wc := [(mM, .inr (8, [.ref mN, .ref mR, .ref mA, .ref mP, .int ch, .ref mT, .int le, .int sp, .ref mD])), (mN, .inl (cyI, 515, .inl (upd (upd nw 16 (nw 16)) 17 (nw 17))))]) (w1 := [(mM, .inr (8, [.ref mN, .ref mR, .ref mA, .ref mP, .int ch, .ref mT, .int le, .int sp, .ref mD])), (mN, .inl (cyI, 515, .inl (upd (upd (upd nw 16 (nw 16)) 17 (nw 17)) 15 1)))]) (ws' := [(mM, .inr (8, [.ref mN, .ref mR, .ref mA, .ref mP, .int ch, .ref mT, .int le, .int sp, .ref mD])), (mN, .inl (cyI, 515, .inl (upd (upd (upd nw 16 (nw 16)) 17 (nw 17)) 15 1)))]) (ad := [mM, mN]) (wr := []) (nn := 2) (ci := 8) (q0 := 0) X Y (c_tells8 l D cyC cyI mM mN mR mA mP mT mD ch le sp (upd (upd nw 16 (nw 16)) 17 (nw 17)) 0 8 1 (upd (upd (upd nw 16 (nw 16)) 17 (nw 17)) 15 1) (bTells (i := 15) (by decide) rfl) (bInD (by decide))) gX8_stepsCome_X8_tells rfl ⟨rfl, rfl⟩ hd_X8_tells ⟨(Nat.le_of_ble_eq_true rfl), (Nat.le_of_ble_eq_true rfl)⟩ rfl rfl rfl [0, 1] [] rfl rfl rfl rfl rfl rfl rfl rfl (by decide) rfl rfl hl.1 (Nat.le_of_ble_eq_true rfl) ⟨Nat.zero_le _, Nat.zero_le _⟩ dX8_stepsCome_123 (fun H locs Y => ?_)
    refine lv_iconst (v := 2) hx hb dX8_stepsCome_126 (by decide) ?_
    refine lv_iload_n hx hb dX8_stepsCome_127 rfl (lv_at hl 1 rfl) ?_
    refine bMul (v := 2) X dX8_stepsCome_128 (by decide) ?_
    refine lv_istore (lv' := [(4, .int 2), (2, .int 1), (6, .int (nw 17)), (5, .int (nw 16)), (3, .int 1), (0, .ref mM), (1, .int 0)]) hx hb dX8_stepsCome_129 hl (by decide) rfl (fun ls hl => ?_)
    refine lv_iload hx hb dX8_stepsCome_131 (lv_at hl 0 rfl) ?_
    refine lv_iconst (v := 4) hx hb dX8_stepsCome_133 (by decide) ?_
    refine lv_icmp_ge (tgt := 154) hx hb dX8_stepsCome_134 (by decide) (fun c_ => absurd c_ (by decide)) (fun _ => ?_)
    refine lv_aload_n hx hb dX8_stepsCome_137 rfl (lv_at hl 5 rfl) ?_
    refine lv_iload_n hx hb dX8_stepsCome_138 rfl (lv_at hl 6 rfl) ?_
    refine lv_bipush (v := 9) hx hb dX8_stepsCome_139 (by decide) ?_
    refine lv_iload hx hb dX8_stepsCome_141 (lv_at hl 0 rfl) ?_
    refine bAdd (v := 11) X dX8_stepsCome_143 (by decide) ?_
    refine lv_iconst (v := 0) hx hb dX8_stepsCome_144 (by decide) ?_
    refine bVV (As := [.int 0, .int 11, .int 0]) (rest := []) (wc := [(mM, .inr (8, [.ref mN, .ref mR, .ref mA, .ref mP, .int ch, .ref mT, .int le, .int sp, .ref mD])), (mN, .inl (cyI, 515, .inl (upd (upd (upd nw 16 (nw 16)) 17 (nw 17)) 15 1)))]) (w1 := [(mM, .inr (8, [.ref mN, .ref mR, .ref mA, .ref mP, .int ch, .ref mT, .int le, .int sp, .ref mD])), (mN, .inl (cyI, 515, .inl (upd (upd (upd (upd nw 16 (nw 16)) 17 (nw 17)) 15 1) 18 0)))]) (ws' := [(mM, .inr (8, [.ref mN, .ref mR, .ref mA, .ref mP, .int ch, .ref mT, .int le, .int sp, .ref mD])), (mN, .inl (cyI, 515, .inl (upd (upd (upd (upd nw 16 (nw 16)) 17 (nw 17)) 15 1) 18 0)))]) (ad := [mM, mN]) (wr := []) (nn := 2) (ci := 8) (q0 := 0) X Y (c_tells8 l D cyC cyI mM mN mR mA mP mT mD ch le sp (upd (upd (upd nw 16 (nw 16)) 17 (nw 17)) 15 1) 0 11 0 (upd (upd (upd (upd nw 16 (nw 16)) 17 (nw 17)) 15 1) 18 0) (bTells (i := 18) (by decide) rfl) (bInD (by decide))) gX8_stepsCome_X8_tells rfl ⟨rfl, rfl⟩ hd_X8_tells ⟨(Nat.le_of_ble_eq_true rfl), (Nat.le_of_ble_eq_true rfl)⟩ rfl rfl rfl [0, 1] [] rfl rfl rfl rfl rfl rfl rfl rfl (by decide) rfl rfl hl.1 (Nat.le_of_ble_eq_true rfl) ⟨Nat.zero_le _, Nat.zero_le _⟩ dX8_stepsCome_145 (fun H locs Y => ?_)
    refine lv_iinc (v := 3) (lv' := [(4, .int 3), (2, .int 1), (6, .int (nw 17)), (5, .int (nw 16)), (3, .int 1), (0, .ref mM), (1, .int 0)]) hx hb dX8_stepsCome_148 hl (k := 0) rfl (by decide) (by decide) rfl (fun ls hl => ?_)
    refine lv_goto (tgt := 131) hx hb dX8_stepsCome_151 (by decide) ?_
    refine lv_iload hx hb dX8_stepsCome_131 (lv_at hl 0 rfl) ?_
    refine lv_iconst (v := 4) hx hb dX8_stepsCome_133 (by decide) ?_
    refine lv_icmp_ge (tgt := 154) hx hb dX8_stepsCome_134 (by decide) (fun c_ => absurd c_ (by decide)) (fun _ => ?_)
    refine lv_aload_n hx hb dX8_stepsCome_137 rfl (lv_at hl 5 rfl) ?_
    refine lv_iload_n hx hb dX8_stepsCome_138 rfl (lv_at hl 6 rfl) ?_
    refine lv_bipush (v := 9) hx hb dX8_stepsCome_139 (by decide) ?_
    refine lv_iload hx hb dX8_stepsCome_141 (lv_at hl 0 rfl) ?_
    refine bAdd (v := 12) X dX8_stepsCome_143 (by decide) ?_
    refine lv_iconst (v := 0) hx hb dX8_stepsCome_144 (by decide) ?_
    refine bVV (As := [.int 0, .int 12, .int 0]) (rest := []) (wc := [(mM, .inr (8, [.ref mN, .ref mR, .ref mA, .ref mP, .int ch, .ref mT, .int le, .int sp, .ref mD])), (mN, .inl (cyI, 515, .inl (upd (upd (upd (upd nw 16 (nw 16)) 17 (nw 17)) 15 1) 18 0)))]) (w1 := [(mM, .inr (8, [.ref mN, .ref mR, .ref mA, .ref mP, .int ch, .ref mT, .int le, .int sp, .ref mD])), (mN, .inl (cyI, 515, .inl (upd (upd (upd (upd (upd nw 16 (nw 16)) 17 (nw 17)) 15 1) 18 0) 19 0)))]) (ws' := [(mM, .inr (8, [.ref mN, .ref mR, .ref mA, .ref mP, .int ch, .ref mT, .int le, .int sp, .ref mD])), (mN, .inl (cyI, 515, .inl (upd (upd (upd (upd (upd nw 16 (nw 16)) 17 (nw 17)) 15 1) 18 0) 19 0)))]) (ad := [mM, mN]) (wr := []) (nn := 2) (ci := 8) (q0 := 0) X Y (c_tells8 l D cyC cyI mM mN mR mA mP mT mD ch le sp (upd (upd (upd (upd nw 16 (nw 16)) 17 (nw 17)) 15 1) 18 0) 0 12 0 (upd (upd (upd (upd (upd nw 16 (nw 16)) 17 (nw 17)) 15 1) 18 0) 19 0) (bTells (i := 19) (by decide) rfl) (bInD (by decide))) gX8_stepsCome_X8_tells rfl ⟨rfl, rfl⟩ hd_X8_tells ⟨(Nat.le_of_ble_eq_true rfl), (Nat.le_of_ble_eq_true rfl)⟩ rfl rfl rfl [0, 1] [] rfl rfl rfl rfl rfl rfl rfl rfl (by decide) rfl rfl hl.1 (Nat.le_of_ble_eq_true rfl) ⟨Nat.zero_le _, Nat.zero_le _⟩ dX8_stepsCome_145 (fun H locs Y => ?_)
    refine lv_iinc (v := 4) (lv' := [(4, .int 4), (2, .int 1), (6, .int (nw 17)), (5, .int (nw 16)), (3, .int 1), (0, .ref mM), (1, .int 0)]) hx hb dX8_stepsCome_148 hl (k := 0) rfl (by decide) (by decide) rfl (fun ls hl => ?_)
    refine lv_goto (tgt := 131) hx hb dX8_stepsCome_151 (by decide) ?_
    refine lv_iload hx hb dX8_stepsCome_131 (lv_at hl 0 rfl) ?_
    refine lv_iconst (v := 4) hx hb dX8_stepsCome_133 (by decide) ?_
    refine lv_icmp_ge (tgt := 154) hx hb dX8_stepsCome_134 (by decide) (fun _ => ?_) (fun c_ => absurd (by decide) c_)
    have h9 := (Prod.mk.inj hu).1
    subst h9
    exact bEndV X Y hr hlk dX8_stepsCome_154 rfl
  · have c_1 : (nw 16) = (nw 6) := c_1
    rw [if_pos c_1] at hu
    refine lv_aload_n hx hb dX8_stepsCome_61 rfl (lv_at hl 5 rfl) ?_
    refine lv_iload_n hx hb dX8_stepsCome_62 rfl (lv_at hl 6 rfl) ?_
    refine lv_bipush (v := 6) hx hb dX8_stepsCome_63 (by decide) ?_
    refine lv_aload_n hx hb dX8_stepsCome_65 rfl (lv_at hl 5 rfl) ?_
    refine lv_iload_n hx hb dX8_stepsCome_66 rfl (lv_at hl 6 rfl) ?_
    refine lv_bipush (v := 6) hx hb dX8_stepsCome_67 (by decide) ?_
    refine bVI0 (As := [.int 0, .int 6]) (rest := [.int 6, .int 0, .ref mM]) (wc := [(mM, .inr (8, [.ref mN, .ref mR, .ref mA, .ref mP, .int ch, .ref mT, .int le, .int sp, .ref mD])), (mN, .inl (cyI, 515, .inl nw))]) (ci := 8) (q0 := 0) X Y (c_of8 l D cyC cyI mM mN mR mA mP mT mD ch le sp nw 0 6 (nw 13) (bOf (i := 13) (by decide) rfl) (bInD (by decide))) gX8_stepsCome_X8_of rfl ⟨rfl, rfl⟩ hd_X8_of ⟨(Nat.le_of_ble_eq_true rfl), (Nat.le_of_ble_eq_true rfl)⟩ rfl rfl rfl [0, 1] rfl rfl rfl rfl hl.1 (Nat.le_of_ble_eq_true rfl) ⟨Nat.zero_le _, Nat.zero_le _⟩ dX8_stepsCome_69 (fun H locs Y => ?_)
    refine lv_iload hx hb dX8_stepsCome_72 (lv_at hl 0 rfl) ?_
    refine bAdd (v := (nw 13) + (nw 17)) X dX8_stepsCome_74 rfl ?_
    refine bVV (As := [.int 0, .int 6, .int ((nw 13) + (nw 17))]) (rest := []) (wc := [(mM, .inr (8, [.ref mN, .ref mR, .ref mA, .ref mP, .int ch, .ref mT, .int le, .int sp, .ref mD])), (mN, .inl (cyI, 515, .inl nw))]) (w1 := [(mM, .inr (8, [.ref mN, .ref mR, .ref mA, .ref mP, .int ch, .ref mT, .int le, .int sp, .ref mD])), (mN, .inl (cyI, 515, .inl (upd nw 13 ((nw 13) + (nw 17)))))]) (ws' := [(mM, .inr (8, [.ref mN, .ref mR, .ref mA, .ref mP, .int ch, .ref mT, .int le, .int sp, .ref mD])), (mN, .inl (cyI, 515, .inl (upd nw 13 ((nw 13) + (nw 17)))))]) (ad := [mM, mN]) (wr := []) (nn := 2) (ci := 8) (q0 := 0) X Y (c_tells8 l D cyC cyI mM mN mR mA mP mT mD ch le sp nw 0 6 ((nw 13) + (nw 17)) (upd nw 13 ((nw 13) + (nw 17))) (bTells (i := 13) (by decide) rfl) (bInD (by decide))) gX8_stepsCome_X8_tells rfl ⟨rfl, rfl⟩ hd_X8_tells ⟨(Nat.le_of_ble_eq_true rfl), (Nat.le_of_ble_eq_true rfl)⟩ rfl rfl rfl [0, 1] [] rfl rfl rfl rfl rfl rfl rfl rfl (by decide) rfl rfl hl.1 (Nat.le_of_ble_eq_true rfl) ⟨Nat.zero_le _, Nat.zero_le _⟩ dX8_stepsCome_75 (fun H locs Y => ?_)
    refine lv_goto (tgt := 112) hx hb dX8_stepsCome_78 (by decide) ?_
    refine lv_iinc (v := 1) (lv' := [(4, .int 1), (6, .int (nw 17)), (5, .int (nw 16)), (3, .int 1), (2, .int 0), (0, .ref mM), (1, .int 0)]) hx hb dX8_stepsCome_112 hl (k := 2) rfl (by decide) (by decide) rfl (fun ls hl => ?_)
    refine lv_goto (tgt := 13) hx hb dX8_stepsCome_115 (by decide) ?_
    refine lv_iload hx hb dX8_stepsCome_13 (lv_at hl 0 rfl) ?_
    refine lv_iload_n hx hb dX8_stepsCome_15 rfl (lv_at hl 3 rfl) ?_
    refine lv_icmp_ge (tgt := 118) hx hb dX8_stepsCome_16 (by decide) (fun _ => ?_) (fun c_ => absurd (by decide) c_)
    refine lv_aload_n hx hb dX8_stepsCome_118 rfl (lv_at hl 5 rfl) ?_
    refine lv_iload_n hx hb dX8_stepsCome_119 rfl (lv_at hl 6 rfl) ?_
    refine lv_bipush (v := 8) hx hb dX8_stepsCome_120 (by decide) ?_
    refine lv_iload_n hx hb dX8_stepsCome_122 rfl (lv_at hl 4 rfl) ?_
    refine bVV (As := [.int 0, .int 8, .int 0]) (rest := []) (wc := [(mM, .inr (8, [.ref mN, .ref mR, .ref mA, .ref mP, .int ch, .ref mT, .int le, .int sp, .ref mD])), (mN, .inl (cyI, 515, .inl (upd nw 13 ((nw 13) + (nw 17)))))]) (w1 := [(mM, .inr (8, [.ref mN, .ref mR, .ref mA, .ref mP, .int ch, .ref mT, .int le, .int sp, .ref mD])), (mN, .inl (cyI, 515, .inl (upd (upd nw 13 ((nw 13) + (nw 17))) 15 0)))]) (ws' := [(mM, .inr (8, [.ref mN, .ref mR, .ref mA, .ref mP, .int ch, .ref mT, .int le, .int sp, .ref mD])), (mN, .inl (cyI, 515, .inl (upd (upd nw 13 ((nw 13) + (nw 17))) 15 0)))]) (ad := [mM, mN]) (wr := []) (nn := 2) (ci := 8) (q0 := 0) X Y (c_tells8 l D cyC cyI mM mN mR mA mP mT mD ch le sp (upd nw 13 ((nw 13) + (nw 17))) 0 8 0 (upd (upd nw 13 ((nw 13) + (nw 17))) 15 0) (bTells (i := 15) (by decide) rfl) (bInD (by decide))) gX8_stepsCome_X8_tells rfl ⟨rfl, rfl⟩ hd_X8_tells ⟨(Nat.le_of_ble_eq_true rfl), (Nat.le_of_ble_eq_true rfl)⟩ rfl rfl rfl [0, 1] [] rfl rfl rfl rfl rfl rfl rfl rfl (by decide) rfl rfl hl.1 (Nat.le_of_ble_eq_true rfl) ⟨Nat.zero_le _, Nat.zero_le _⟩ dX8_stepsCome_123 (fun H locs Y => ?_)
    refine lv_iconst (v := 2) hx hb dX8_stepsCome_126 (by decide) ?_
    refine lv_iload_n hx hb dX8_stepsCome_127 rfl (lv_at hl 4 rfl) ?_
    refine bMul (v := 0) X dX8_stepsCome_128 (by decide) ?_
    refine lv_istore (lv' := [(4, .int 0), (6, .int (nw 17)), (5, .int (nw 16)), (3, .int 1), (2, .int 0), (0, .ref mM), (1, .int 0)]) hx hb dX8_stepsCome_129 hl (by decide) rfl (fun ls hl => ?_)
    refine lv_iload hx hb dX8_stepsCome_131 (lv_at hl 0 rfl) ?_
    refine lv_iconst (v := 4) hx hb dX8_stepsCome_133 (by decide) ?_
    refine lv_icmp_ge (tgt := 154) hx hb dX8_stepsCome_134 (by decide) (fun c_ => absurd c_ (by decide)) (fun _ => ?_)
    refine lv_aload_n hx hb dX8_stepsCome_137 rfl (lv_at hl 5 rfl) ?_
    refine lv_iload_n hx hb dX8_stepsCome_138 rfl (lv_at hl 6 rfl) ?_
    refine lv_bipush (v := 9) hx hb dX8_stepsCome_139 (by decide) ?_
    refine lv_iload hx hb dX8_stepsCome_141 (lv_at hl 0 rfl) ?_
    refine bAdd (v := 9) X dX8_stepsCome_143 (by decide) ?_
    refine lv_iconst (v := 0) hx hb dX8_stepsCome_144 (by decide) ?_
    refine bVV (As := [.int 0, .int 9, .int 0]) (rest := []) (wc := [(mM, .inr (8, [.ref mN, .ref mR, .ref mA, .ref mP, .int ch, .ref mT, .int le, .int sp, .ref mD])), (mN, .inl (cyI, 515, .inl (upd (upd nw 13 ((nw 13) + (nw 17))) 15 0)))]) (w1 := [(mM, .inr (8, [.ref mN, .ref mR, .ref mA, .ref mP, .int ch, .ref mT, .int le, .int sp, .ref mD])), (mN, .inl (cyI, 515, .inl (upd (upd (upd nw 13 ((nw 13) + (nw 17))) 15 0) 16 0)))]) (ws' := [(mM, .inr (8, [.ref mN, .ref mR, .ref mA, .ref mP, .int ch, .ref mT, .int le, .int sp, .ref mD])), (mN, .inl (cyI, 515, .inl (upd (upd (upd nw 13 ((nw 13) + (nw 17))) 15 0) 16 0)))]) (ad := [mM, mN]) (wr := []) (nn := 2) (ci := 8) (q0 := 0) X Y (c_tells8 l D cyC cyI mM mN mR mA mP mT mD ch le sp (upd (upd nw 13 ((nw 13) + (nw 17))) 15 0) 0 9 0 (upd (upd (upd nw 13 ((nw 13) + (nw 17))) 15 0) 16 0) (bTells (i := 16) (by decide) rfl) (bInD (by decide))) gX8_stepsCome_X8_tells rfl ⟨rfl, rfl⟩ hd_X8_tells ⟨(Nat.le_of_ble_eq_true rfl), (Nat.le_of_ble_eq_true rfl)⟩ rfl rfl rfl [0, 1] [] rfl rfl rfl rfl rfl rfl rfl rfl (by decide) rfl rfl hl.1 (Nat.le_of_ble_eq_true rfl) ⟨Nat.zero_le _, Nat.zero_le _⟩ dX8_stepsCome_145 (fun H locs Y => ?_)
    refine lv_iinc (v := 1) (lv' := [(4, .int 1), (6, .int (nw 17)), (5, .int (nw 16)), (3, .int 1), (2, .int 0), (0, .ref mM), (1, .int 0)]) hx hb dX8_stepsCome_148 hl (k := 0) rfl (by decide) (by decide) rfl (fun ls hl => ?_)
    refine lv_goto (tgt := 131) hx hb dX8_stepsCome_151 (by decide) ?_
    refine lv_iload hx hb dX8_stepsCome_131 (lv_at hl 0 rfl) ?_
    refine lv_iconst (v := 4) hx hb dX8_stepsCome_133 (by decide) ?_
    refine lv_icmp_ge (tgt := 154) hx hb dX8_stepsCome_134 (by decide) (fun c_ => absurd c_ (by decide)) (fun _ => ?_)
    refine lv_aload_n hx hb dX8_stepsCome_137 rfl (lv_at hl 5 rfl) ?_
    refine lv_iload_n hx hb dX8_stepsCome_138 rfl (lv_at hl 6 rfl) ?_
    refine lv_bipush (v := 9) hx hb dX8_stepsCome_139 (by decide) ?_
    refine lv_iload hx hb dX8_stepsCome_141 (lv_at hl 0 rfl) ?_
    refine bAdd (v := 10) X dX8_stepsCome_143 (by decide) ?_
    refine lv_iconst (v := 0) hx hb dX8_stepsCome_144 (by decide) ?_
    refine bVV (As := [.int 0, .int 10, .int 0]) (rest := []) (wc := [(mM, .inr (8, [.ref mN, .ref mR, .ref mA, .ref mP, .int ch, .ref mT, .int le, .int sp, .ref mD])), (mN, .inl (cyI, 515, .inl (upd (upd (upd nw 13 ((nw 13) + (nw 17))) 15 0) 16 0)))]) (w1 := [(mM, .inr (8, [.ref mN, .ref mR, .ref mA, .ref mP, .int ch, .ref mT, .int le, .int sp, .ref mD])), (mN, .inl (cyI, 515, .inl (upd (upd (upd (upd nw 13 ((nw 13) + (nw 17))) 15 0) 16 0) 17 0)))]) (ws' := [(mM, .inr (8, [.ref mN, .ref mR, .ref mA, .ref mP, .int ch, .ref mT, .int le, .int sp, .ref mD])), (mN, .inl (cyI, 515, .inl (upd (upd (upd (upd nw 13 ((nw 13) + (nw 17))) 15 0) 16 0) 17 0)))]) (ad := [mM, mN]) (wr := []) (nn := 2) (ci := 8) (q0 := 0) X Y (c_tells8 l D cyC cyI mM mN mR mA mP mT mD ch le sp (upd (upd (upd nw 13 ((nw 13) + (nw 17))) 15 0) 16 0) 0 10 0 (upd (upd (upd (upd nw 13 ((nw 13) + (nw 17))) 15 0) 16 0) 17 0) (bTells (i := 17) (by decide) rfl) (bInD (by decide))) gX8_stepsCome_X8_tells rfl ⟨rfl, rfl⟩ hd_X8_tells ⟨(Nat.le_of_ble_eq_true rfl), (Nat.le_of_ble_eq_true rfl)⟩ rfl rfl rfl [0, 1] [] rfl rfl rfl rfl rfl rfl rfl rfl (by decide) rfl rfl hl.1 (Nat.le_of_ble_eq_true rfl) ⟨Nat.zero_le _, Nat.zero_le _⟩ dX8_stepsCome_145 (fun H locs Y => ?_)
    refine lv_iinc (v := 2) (lv' := [(4, .int 2), (6, .int (nw 17)), (5, .int (nw 16)), (3, .int 1), (2, .int 0), (0, .ref mM), (1, .int 0)]) hx hb dX8_stepsCome_148 hl (k := 0) rfl (by decide) (by decide) rfl (fun ls hl => ?_)
    refine lv_goto (tgt := 131) hx hb dX8_stepsCome_151 (by decide) ?_
    refine lv_iload hx hb dX8_stepsCome_131 (lv_at hl 0 rfl) ?_
    refine lv_iconst (v := 4) hx hb dX8_stepsCome_133 (by decide) ?_
    refine lv_icmp_ge (tgt := 154) hx hb dX8_stepsCome_134 (by decide) (fun c_ => absurd c_ (by decide)) (fun _ => ?_)
    refine lv_aload_n hx hb dX8_stepsCome_137 rfl (lv_at hl 5 rfl) ?_
    refine lv_iload_n hx hb dX8_stepsCome_138 rfl (lv_at hl 6 rfl) ?_
    refine lv_bipush (v := 9) hx hb dX8_stepsCome_139 (by decide) ?_
    refine lv_iload hx hb dX8_stepsCome_141 (lv_at hl 0 rfl) ?_
    refine bAdd (v := 11) X dX8_stepsCome_143 (by decide) ?_
    refine lv_iconst (v := 0) hx hb dX8_stepsCome_144 (by decide) ?_
    refine bVV (As := [.int 0, .int 11, .int 0]) (rest := []) (wc := [(mM, .inr (8, [.ref mN, .ref mR, .ref mA, .ref mP, .int ch, .ref mT, .int le, .int sp, .ref mD])), (mN, .inl (cyI, 515, .inl (upd (upd (upd (upd nw 13 ((nw 13) + (nw 17))) 15 0) 16 0) 17 0)))]) (w1 := [(mM, .inr (8, [.ref mN, .ref mR, .ref mA, .ref mP, .int ch, .ref mT, .int le, .int sp, .ref mD])), (mN, .inl (cyI, 515, .inl (upd (upd (upd (upd (upd nw 13 ((nw 13) + (nw 17))) 15 0) 16 0) 17 0) 18 0)))]) (ws' := [(mM, .inr (8, [.ref mN, .ref mR, .ref mA, .ref mP, .int ch, .ref mT, .int le, .int sp, .ref mD])), (mN, .inl (cyI, 515, .inl (upd (upd (upd (upd (upd nw 13 ((nw 13) + (nw 17))) 15 0) 16 0) 17 0) 18 0)))]) (ad := [mM, mN]) (wr := []) (nn := 2) (ci := 8) (q0 := 0) X Y (c_tells8 l D cyC cyI mM mN mR mA mP mT mD ch le sp (upd (upd (upd (upd nw 13 ((nw 13) + (nw 17))) 15 0) 16 0) 17 0) 0 11 0 (upd (upd (upd (upd (upd nw 13 ((nw 13) + (nw 17))) 15 0) 16 0) 17 0) 18 0) (bTells (i := 18) (by decide) rfl) (bInD (by decide))) gX8_stepsCome_X8_tells rfl ⟨rfl, rfl⟩ hd_X8_tells ⟨(Nat.le_of_ble_eq_true rfl), (Nat.le_of_ble_eq_true rfl)⟩ rfl rfl rfl [0, 1] [] rfl rfl rfl rfl rfl rfl rfl rfl (by decide) rfl rfl hl.1 (Nat.le_of_ble_eq_true rfl) ⟨Nat.zero_le _, Nat.zero_le _⟩ dX8_stepsCome_145 (fun H locs Y => ?_)
    refine lv_iinc (v := 3) (lv' := [(4, .int 3), (6, .int (nw 17)), (5, .int (nw 16)), (3, .int 1), (2, .int 0), (0, .ref mM), (1, .int 0)]) hx hb dX8_stepsCome_148 hl (k := 0) rfl (by decide) (by decide) rfl (fun ls hl => ?_)
    refine lv_goto (tgt := 131) hx hb dX8_stepsCome_151 (by decide) ?_
    refine lv_iload hx hb dX8_stepsCome_131 (lv_at hl 0 rfl) ?_
    refine lv_iconst (v := 4) hx hb dX8_stepsCome_133 (by decide) ?_
    refine lv_icmp_ge (tgt := 154) hx hb dX8_stepsCome_134 (by decide) (fun c_ => absurd c_ (by decide)) (fun _ => ?_)
    refine lv_aload_n hx hb dX8_stepsCome_137 rfl (lv_at hl 5 rfl) ?_
    refine lv_iload_n hx hb dX8_stepsCome_138 rfl (lv_at hl 6 rfl) ?_
    refine lv_bipush (v := 9) hx hb dX8_stepsCome_139 (by decide) ?_
    refine lv_iload hx hb dX8_stepsCome_141 (lv_at hl 0 rfl) ?_
    refine bAdd (v := 12) X dX8_stepsCome_143 (by decide) ?_
    refine lv_iconst (v := 0) hx hb dX8_stepsCome_144 (by decide) ?_
    refine bVV (As := [.int 0, .int 12, .int 0]) (rest := []) (wc := [(mM, .inr (8, [.ref mN, .ref mR, .ref mA, .ref mP, .int ch, .ref mT, .int le, .int sp, .ref mD])), (mN, .inl (cyI, 515, .inl (upd (upd (upd (upd (upd nw 13 ((nw 13) + (nw 17))) 15 0) 16 0) 17 0) 18 0)))]) (w1 := [(mM, .inr (8, [.ref mN, .ref mR, .ref mA, .ref mP, .int ch, .ref mT, .int le, .int sp, .ref mD])), (mN, .inl (cyI, 515, .inl (upd (upd (upd (upd (upd (upd nw 13 ((nw 13) + (nw 17))) 15 0) 16 0) 17 0) 18 0) 19 0)))]) (ws' := [(mM, .inr (8, [.ref mN, .ref mR, .ref mA, .ref mP, .int ch, .ref mT, .int le, .int sp, .ref mD])), (mN, .inl (cyI, 515, .inl (upd (upd (upd (upd (upd (upd nw 13 ((nw 13) + (nw 17))) 15 0) 16 0) 17 0) 18 0) 19 0)))]) (ad := [mM, mN]) (wr := []) (nn := 2) (ci := 8) (q0 := 0) X Y (c_tells8 l D cyC cyI mM mN mR mA mP mT mD ch le sp (upd (upd (upd (upd (upd nw 13 ((nw 13) + (nw 17))) 15 0) 16 0) 17 0) 18 0) 0 12 0 (upd (upd (upd (upd (upd (upd nw 13 ((nw 13) + (nw 17))) 15 0) 16 0) 17 0) 18 0) 19 0) (bTells (i := 19) (by decide) rfl) (bInD (by decide))) gX8_stepsCome_X8_tells rfl ⟨rfl, rfl⟩ hd_X8_tells ⟨(Nat.le_of_ble_eq_true rfl), (Nat.le_of_ble_eq_true rfl)⟩ rfl rfl rfl [0, 1] [] rfl rfl rfl rfl rfl rfl rfl rfl (by decide) rfl rfl hl.1 (Nat.le_of_ble_eq_true rfl) ⟨Nat.zero_le _, Nat.zero_le _⟩ dX8_stepsCome_145 (fun H locs Y => ?_)
    refine lv_iinc (v := 4) (lv' := [(4, .int 4), (6, .int (nw 17)), (5, .int (nw 16)), (3, .int 1), (2, .int 0), (0, .ref mM), (1, .int 0)]) hx hb dX8_stepsCome_148 hl (k := 0) rfl (by decide) (by decide) rfl (fun ls hl => ?_)
    refine lv_goto (tgt := 131) hx hb dX8_stepsCome_151 (by decide) ?_
    refine lv_iload hx hb dX8_stepsCome_131 (lv_at hl 0 rfl) ?_
    refine lv_iconst (v := 4) hx hb dX8_stepsCome_133 (by decide) ?_
    refine lv_icmp_ge (tgt := 154) hx hb dX8_stepsCome_134 (by decide) (fun _ => ?_) (fun c_ => absurd (by decide) c_)
    have h9 := (Prod.mk.inj hu).1
    subst h9
    exact bEndV X Y hr hlk dX8_stepsCome_154 rfl
def s_stepsCome8_02 (nw : Nat → Int32) : (Nat → Int32) × Unit :=
  if (nw 16) = (nw 6) then
    if (nw 18) = (nw 6) then
      (upd (upd (upd (upd (upd (upd (upd nw 13 ((nw 13) + (nw 17))) 13 (((nw 13) + (nw 17)) + (nw 19))) 15 0) 16 0) 17 0) 18 0) 19 0, ())
    else
      (upd (upd (upd (upd (upd (upd nw 13 ((nw 13) + (nw 17))) 16 (nw 18)) 17 (nw 19)) 15 1) 18 0) 19 0, ())
  else
    if (nw 18) = (nw 6) then
      (upd (upd (upd (upd (upd (upd nw 16 (nw 16)) 17 (nw 17)) 13 ((nw 13) + (nw 19))) 15 1) 18 0) 19 0, ())
    else
      (upd (upd (upd (upd (upd nw 16 (nw 16)) 17 (nw 17)) 18 (nw 18)) 19 (nw 19)) 15 2, ())
set_option maxHeartbeats 4000000 in
set_option maxRecDepth 100000 in
theorem c_stepsCome8_02 (l : Launch) (D : va_G) (cyC cyI : ClassId) (mM : Nat) (mN : Nat) (mR : Nat) (mA : Nat) (mP : Nat) (mT : Nat) (mD : Nat) (ch : Int32) (le : Int32) (sp : Int32) (nw : Nat → Int32) (o0 : Nat → Int32) (hu : s_stepsCome8_02 nw = (o0, ())) (hk : nw 15 = 2) : CV l yX8_stepsCome wsX8_stepsCome { frames := 1, cells := 0, slots := 0, locals := 23 } D cyC cyI [.ref mM, .int 0] [(mM, .inr (8, [.ref mN, .ref mR, .ref mA, .ref mP, .int ch, .ref mT, .int le, .int sp, .ref mD])), (mN, .inl (cyI, 515, .inl nw))] [(mM, .inr (8, [.ref mN, .ref mR, .ref mA, .ref mP, .int ch, .ref mT, .int le, .int sp, .ref mD])), (mN, .inl (cyI, 515, .inl o0))] := by
  refine CV.of (cc := cX8_stepsCome) (n := 7) (ret := none) (by decide +kernel) rfl (Nat.le_of_ble_eq_true rfl) ?_
  intro p_ e_ s_ m_ bl_ me_ cd_ A_ ls X Y hr hlk hl
  have hx := X.1.1
  have hb := X.1.2.1
  have hl : lv_has ls 7 [(0, .ref mM), (1, .int 0)] := hl
  unfold s_stepsCome8_02 at hu
  refine lv_iconst (v := 0) hx hb dX8_stepsCome_0 (by decide) ?_
  refine lv_istore_n (lv' := [(2, .int 0), (0, .ref mM), (1, .int 0)]) hx hb dX8_stepsCome_1 rfl hl (by decide) rfl (fun ls hl => ?_)
  refine lv_aload_n hx hb dX8_stepsCome_2 rfl (lv_at hl 1 rfl) ?_
  refine lv_iload_n hx hb dX8_stepsCome_3 rfl (lv_at hl 2 rfl) ?_
  refine lv_bipush (v := 8) hx hb dX8_stepsCome_4 (by decide) ?_
  refine bVI0 (As := [.int 0, .int 8]) (rest := []) (wc := [(mM, .inr (8, [.ref mN, .ref mR, .ref mA, .ref mP, .int ch, .ref mT, .int le, .int sp, .ref mD])), (mN, .inl (cyI, 515, .inl nw))]) (ci := 8) (q0 := 0) X Y (c_of8 l D cyC cyI mM mN mR mA mP mT mD ch le sp nw 0 8 2 (bOf (i := 15) (by decide) hk) (bInD (by decide))) gX8_stepsCome_X8_of rfl ⟨rfl, rfl⟩ hd_X8_of ⟨(Nat.le_of_ble_eq_true rfl), (Nat.le_of_ble_eq_true rfl)⟩ rfl rfl rfl [0, 1] rfl rfl rfl rfl hl.1 (Nat.le_of_ble_eq_true rfl) ⟨Nat.zero_le _, Nat.zero_le _⟩ dX8_stepsCome_6 (fun H locs Y => ?_)
  refine lv_istore_n (lv' := [(3, .int 2), (2, .int 0), (0, .ref mM), (1, .int 0)]) hx hb dX8_stepsCome_9 rfl hl (by decide) rfl (fun ls hl => ?_)
  refine lv_iconst (v := 0) hx hb dX8_stepsCome_10 (by decide) ?_
  refine lv_istore (lv' := [(4, .int 0), (3, .int 2), (2, .int 0), (0, .ref mM), (1, .int 0)]) hx hb dX8_stepsCome_11 hl (by decide) rfl (fun ls hl => ?_)
  refine lv_iload hx hb dX8_stepsCome_13 (lv_at hl 0 rfl) ?_
  refine lv_iload_n hx hb dX8_stepsCome_15 rfl (lv_at hl 1 rfl) ?_
  refine lv_icmp_ge (tgt := 118) hx hb dX8_stepsCome_16 (by decide) (fun c_ => absurd c_ (by decide)) (fun _ => ?_)
  refine lv_aload_n hx hb dX8_stepsCome_19 rfl (lv_at hl 3 rfl) ?_
  refine lv_iload_n hx hb dX8_stepsCome_20 rfl (lv_at hl 4 rfl) ?_
  refine lv_bipush (v := 9) hx hb dX8_stepsCome_21 (by decide) ?_
  refine lv_iconst (v := 2) hx hb dX8_stepsCome_23 (by decide) ?_
  refine lv_iload hx hb dX8_stepsCome_24 (lv_at hl 0 rfl) ?_
  refine bMul (v := 0) X dX8_stepsCome_26 (by decide) ?_
  refine bAdd (v := 9) X dX8_stepsCome_27 (by decide) ?_
  refine bVI0 (As := [.int 0, .int 9]) (rest := []) (wc := [(mM, .inr (8, [.ref mN, .ref mR, .ref mA, .ref mP, .int ch, .ref mT, .int le, .int sp, .ref mD])), (mN, .inl (cyI, 515, .inl nw))]) (ci := 8) (q0 := 0) X Y (c_of8 l D cyC cyI mM mN mR mA mP mT mD ch le sp nw 0 9 (nw 16) (bOf (i := 16) (by decide) rfl) (bInD (by decide))) gX8_stepsCome_X8_of rfl ⟨rfl, rfl⟩ hd_X8_of ⟨(Nat.le_of_ble_eq_true rfl), (Nat.le_of_ble_eq_true rfl)⟩ rfl rfl rfl [0, 1] rfl rfl rfl rfl hl.1 (Nat.le_of_ble_eq_true rfl) ⟨Nat.zero_le _, Nat.zero_le _⟩ dX8_stepsCome_28 (fun H locs Y => ?_)
  refine lv_istore (lv' := [(5, .int (nw 16)), (4, .int 0), (3, .int 2), (2, .int 0), (0, .ref mM), (1, .int 0)]) hx hb dX8_stepsCome_31 hl (by decide) rfl (fun ls hl => ?_)
  refine lv_aload_n hx hb dX8_stepsCome_33 rfl (lv_at hl 4 rfl) ?_
  refine lv_iload_n hx hb dX8_stepsCome_34 rfl (lv_at hl 5 rfl) ?_
  refine lv_bipush (v := 9) hx hb dX8_stepsCome_35 (by decide) ?_
  refine lv_iconst (v := 2) hx hb dX8_stepsCome_37 (by decide) ?_
  refine lv_iload hx hb dX8_stepsCome_38 (lv_at hl 1 rfl) ?_
  refine bMul (v := 0) X dX8_stepsCome_40 (by decide) ?_
  refine bAdd (v := 9) X dX8_stepsCome_41 (by decide) ?_
  refine lv_iconst (v := 1) hx hb dX8_stepsCome_42 (by decide) ?_
  refine bAdd (v := 10) X dX8_stepsCome_43 (by decide) ?_
  refine bVI0 (As := [.int 0, .int 10]) (rest := []) (wc := [(mM, .inr (8, [.ref mN, .ref mR, .ref mA, .ref mP, .int ch, .ref mT, .int le, .int sp, .ref mD])), (mN, .inl (cyI, 515, .inl nw))]) (ci := 8) (q0 := 0) X Y (c_of8 l D cyC cyI mM mN mR mA mP mT mD ch le sp nw 0 10 (nw 17) (bOf (i := 17) (by decide) rfl) (bInD (by decide))) gX8_stepsCome_X8_of rfl ⟨rfl, rfl⟩ hd_X8_of ⟨(Nat.le_of_ble_eq_true rfl), (Nat.le_of_ble_eq_true rfl)⟩ rfl rfl rfl [0, 1] rfl rfl rfl rfl hl.1 (Nat.le_of_ble_eq_true rfl) ⟨Nat.zero_le _, Nat.zero_le _⟩ dX8_stepsCome_44 (fun H locs Y => ?_)
  refine lv_istore (lv' := [(6, .int (nw 17)), (5, .int (nw 16)), (4, .int 0), (3, .int 2), (2, .int 0), (0, .ref mM), (1, .int 0)]) hx hb dX8_stepsCome_47 hl (by decide) rfl (fun ls hl => ?_)
  refine lv_iload hx hb dX8_stepsCome_49 (lv_at hl 1 rfl) ?_
  refine lv_aload_n hx hb dX8_stepsCome_51 rfl (lv_at hl 5 rfl) ?_
  refine bGet (v := .ref mN) (T := TX8) (N := 9) (ci := 8) X Y i_X8_stepsCome_X8 0 rfl rfl 0 (Nat.le_of_ble_eq_true rfl) f_X8_stepsCome_7 rfl rfl dX8_stepsCome_52 ?_
  refine lv_bipush (v := 6) hx hb dX8_stepsCome_55 (by decide) ?_
  refine bIald (v := nw 6) X Y 1 rfl (bInD (by decide)) dX8_stepsCome_57 rfl ?_
  refine lv_icmp_ne (tgt := 81) hx hb dX8_stepsCome_58 (by decide) (fun c_1 => ?_) (fun c_1 => ?_)
  · have c_1 : ¬ ((nw 16) = (nw 6)) := c_1
    rw [if_neg c_1] at hu
    refine lv_aload_n hx hb dX8_stepsCome_81 rfl (lv_at hl 5 rfl) ?_
    refine lv_iload_n hx hb dX8_stepsCome_82 rfl (lv_at hl 6 rfl) ?_
    refine lv_bipush (v := 9) hx hb dX8_stepsCome_83 (by decide) ?_
    refine lv_iconst (v := 2) hx hb dX8_stepsCome_85 (by decide) ?_
    refine lv_iload_n hx hb dX8_stepsCome_86 rfl (lv_at hl 4 rfl) ?_
    refine bMul (v := 0) X dX8_stepsCome_87 (by decide) ?_
    refine bAdd (v := 9) X dX8_stepsCome_88 (by decide) ?_
    refine lv_iload hx hb dX8_stepsCome_89 (lv_at hl 1 rfl) ?_
    refine bVV (As := [.int 0, .int 9, .int (nw 16)]) (rest := []) (wc := [(mM, .inr (8, [.ref mN, .ref mR, .ref mA, .ref mP, .int ch, .ref mT, .int le, .int sp, .ref mD])), (mN, .inl (cyI, 515, .inl nw))]) (w1 := [(mM, .inr (8, [.ref mN, .ref mR, .ref mA, .ref mP, .int ch, .ref mT, .int le, .int sp, .ref mD])), (mN, .inl (cyI, 515, .inl (upd nw 16 (nw 16))))]) (ws' := [(mM, .inr (8, [.ref mN, .ref mR, .ref mA, .ref mP, .int ch, .ref mT, .int le, .int sp, .ref mD])), (mN, .inl (cyI, 515, .inl (upd nw 16 (nw 16))))]) (ad := [mM, mN]) (wr := []) (nn := 2) (ci := 8) (q0 := 0) X Y (c_tells8 l D cyC cyI mM mN mR mA mP mT mD ch le sp nw 0 9 (nw 16) (upd nw 16 (nw 16)) (bTells (i := 16) (by decide) rfl) (bInD (by decide))) gX8_stepsCome_X8_tells rfl ⟨rfl, rfl⟩ hd_X8_tells ⟨(Nat.le_of_ble_eq_true rfl), (Nat.le_of_ble_eq_true rfl)⟩ rfl rfl rfl [0, 1] [] rfl rfl rfl rfl rfl rfl rfl rfl (by decide) rfl rfl hl.1 (Nat.le_of_ble_eq_true rfl) ⟨Nat.zero_le _, Nat.zero_le _⟩ dX8_stepsCome_91 (fun H locs Y => ?_)
    refine lv_aload_n hx hb dX8_stepsCome_94 rfl (lv_at hl 5 rfl) ?_
    refine lv_iload_n hx hb dX8_stepsCome_95 rfl (lv_at hl 6 rfl) ?_
    refine lv_bipush (v := 9) hx hb dX8_stepsCome_96 (by decide) ?_
    refine lv_iconst (v := 2) hx hb dX8_stepsCome_98 (by decide) ?_
    refine lv_iload_n hx hb dX8_stepsCome_99 rfl (lv_at hl 4 rfl) ?_
    refine bMul (v := 0) X dX8_stepsCome_100 (by decide) ?_
    refine bAdd (v := 9) X dX8_stepsCome_101 (by decide) ?_
    refine lv_iconst (v := 1) hx hb dX8_stepsCome_102 (by decide) ?_
    refine bAdd (v := 10) X dX8_stepsCome_103 (by decide) ?_
    refine lv_iload hx hb dX8_stepsCome_104 (lv_at hl 0 rfl) ?_
    refine bVV (As := [.int 0, .int 10, .int (nw 17)]) (rest := []) (wc := [(mM, .inr (8, [.ref mN, .ref mR, .ref mA, .ref mP, .int ch, .ref mT, .int le, .int sp, .ref mD])), (mN, .inl (cyI, 515, .inl (upd nw 16 (nw 16))))]) (w1 := [(mM, .inr (8, [.ref mN, .ref mR, .ref mA, .ref mP, .int ch, .ref mT, .int le, .int sp, .ref mD])), (mN, .inl (cyI, 515, .inl (upd (upd nw 16 (nw 16)) 17 (nw 17))))]) (ws' := [(mM, .inr (8, [.ref mN, .ref mR, .ref mA, .ref mP, .int ch, .ref mT, .int le, .int sp, .ref mD])), (mN, .inl (cyI, 515, .inl (upd (upd nw 16 (nw 16)) 17 (nw 17))))]) (ad := [mM, mN]) (wr := []) (nn := 2) (ci := 8) (q0 := 0) X Y (c_tells8 l D cyC cyI mM mN mR mA mP mT mD ch le sp (upd nw 16 (nw 16)) 0 10 (nw 17) (upd (upd nw 16 (nw 16)) 17 (nw 17)) (bTells (i := 17) (by decide) rfl) (bInD (by decide))) gX8_stepsCome_X8_tells rfl ⟨rfl, rfl⟩ hd_X8_tells ⟨(Nat.le_of_ble_eq_true rfl), (Nat.le_of_ble_eq_true rfl)⟩ rfl rfl rfl [0, 1] [] rfl rfl rfl rfl rfl rfl rfl rfl (by decide) rfl rfl hl.1 (Nat.le_of_ble_eq_true rfl) ⟨Nat.zero_le _, Nat.zero_le _⟩ dX8_stepsCome_106 (fun H locs Y => ?_)
    refine lv_iinc (v := 1) (lv' := [(2, .int 1), (6, .int (nw 17)), (5, .int (nw 16)), (4, .int 0), (3, .int 2), (0, .ref mM), (1, .int 0)]) hx hb dX8_stepsCome_109 hl (k := 4) rfl (by decide) (by decide) rfl (fun ls hl => ?_)
    refine lv_iinc (v := 1) (lv' := [(4, .int 1), (2, .int 1), (6, .int (nw 17)), (5, .int (nw 16)), (3, .int 2), (0, .ref mM), (1, .int 0)]) hx hb dX8_stepsCome_112 hl (k := 3) rfl (by decide) (by decide) rfl (fun ls hl => ?_)
    refine lv_goto (tgt := 13) hx hb dX8_stepsCome_115 (by decide) ?_
    refine lv_iload hx hb dX8_stepsCome_13 (lv_at hl 0 rfl) ?_
    refine lv_iload_n hx hb dX8_stepsCome_15 rfl (lv_at hl 4 rfl) ?_
    refine lv_icmp_ge (tgt := 118) hx hb dX8_stepsCome_16 (by decide) (fun c_ => absurd c_ (by decide)) (fun _ => ?_)
    refine lv_aload_n hx hb dX8_stepsCome_19 rfl (lv_at hl 5 rfl) ?_
    refine lv_iload_n hx hb dX8_stepsCome_20 rfl (lv_at hl 6 rfl) ?_
    refine lv_bipush (v := 9) hx hb dX8_stepsCome_21 (by decide) ?_
    refine lv_iconst (v := 2) hx hb dX8_stepsCome_23 (by decide) ?_
    refine lv_iload hx hb dX8_stepsCome_24 (lv_at hl 0 rfl) ?_
    refine bMul (v := 2) X dX8_stepsCome_26 (by decide) ?_
    refine bAdd (v := 11) X dX8_stepsCome_27 (by decide) ?_
    refine bVI0 (As := [.int 0, .int 11]) (rest := []) (wc := [(mM, .inr (8, [.ref mN, .ref mR, .ref mA, .ref mP, .int ch, .ref mT, .int le, .int sp, .ref mD])), (mN, .inl (cyI, 515, .inl (upd (upd nw 16 (nw 16)) 17 (nw 17))))]) (ci := 8) (q0 := 0) X Y (c_of8 l D cyC cyI mM mN mR mA mP mT mD ch le sp (upd (upd nw 16 (nw 16)) 17 (nw 17)) 0 11 (nw 18) (bOf (i := 18) (by decide) ((upd_ne (by decide)).trans ((upd_ne (by decide)).trans rfl))) (bInD (by decide))) gX8_stepsCome_X8_of rfl ⟨rfl, rfl⟩ hd_X8_of ⟨(Nat.le_of_ble_eq_true rfl), (Nat.le_of_ble_eq_true rfl)⟩ rfl rfl rfl [0, 1] rfl rfl rfl rfl hl.1 (Nat.le_of_ble_eq_true rfl) ⟨Nat.zero_le _, Nat.zero_le _⟩ dX8_stepsCome_28 (fun H locs Y => ?_)
    refine lv_istore (lv' := [(5, .int (nw 18)), (4, .int 1), (2, .int 1), (6, .int (nw 17)), (3, .int 2), (0, .ref mM), (1, .int 0)]) hx hb dX8_stepsCome_31 hl (by decide) rfl (fun ls hl => ?_)
    refine lv_aload_n hx hb dX8_stepsCome_33 rfl (lv_at hl 5 rfl) ?_
    refine lv_iload_n hx hb dX8_stepsCome_34 rfl (lv_at hl 6 rfl) ?_
    refine lv_bipush (v := 9) hx hb dX8_stepsCome_35 (by decide) ?_
    refine lv_iconst (v := 2) hx hb dX8_stepsCome_37 (by decide) ?_
    refine lv_iload hx hb dX8_stepsCome_38 (lv_at hl 1 rfl) ?_
    refine bMul (v := 2) X dX8_stepsCome_40 (by decide) ?_
    refine bAdd (v := 11) X dX8_stepsCome_41 (by decide) ?_
    refine lv_iconst (v := 1) hx hb dX8_stepsCome_42 (by decide) ?_
    refine bAdd (v := 12) X dX8_stepsCome_43 (by decide) ?_
    refine bVI0 (As := [.int 0, .int 12]) (rest := []) (wc := [(mM, .inr (8, [.ref mN, .ref mR, .ref mA, .ref mP, .int ch, .ref mT, .int le, .int sp, .ref mD])), (mN, .inl (cyI, 515, .inl (upd (upd nw 16 (nw 16)) 17 (nw 17))))]) (ci := 8) (q0 := 0) X Y (c_of8 l D cyC cyI mM mN mR mA mP mT mD ch le sp (upd (upd nw 16 (nw 16)) 17 (nw 17)) 0 12 (nw 19) (bOf (i := 19) (by decide) ((upd_ne (by decide)).trans ((upd_ne (by decide)).trans rfl))) (bInD (by decide))) gX8_stepsCome_X8_of rfl ⟨rfl, rfl⟩ hd_X8_of ⟨(Nat.le_of_ble_eq_true rfl), (Nat.le_of_ble_eq_true rfl)⟩ rfl rfl rfl [0, 1] rfl rfl rfl rfl hl.1 (Nat.le_of_ble_eq_true rfl) ⟨Nat.zero_le _, Nat.zero_le _⟩ dX8_stepsCome_44 (fun H locs Y => ?_)
    refine lv_istore (lv' := [(6, .int (nw 19)), (5, .int (nw 18)), (4, .int 1), (2, .int 1), (3, .int 2), (0, .ref mM), (1, .int 0)]) hx hb dX8_stepsCome_47 hl (by decide) rfl (fun ls hl => ?_)
    refine lv_iload hx hb dX8_stepsCome_49 (lv_at hl 1 rfl) ?_
    refine lv_aload_n hx hb dX8_stepsCome_51 rfl (lv_at hl 5 rfl) ?_
    refine bGet (v := .ref mN) (T := TX8) (N := 9) (ci := 8) X Y i_X8_stepsCome_X8 0 rfl rfl 0 (Nat.le_of_ble_eq_true rfl) f_X8_stepsCome_7 rfl rfl dX8_stepsCome_52 ?_
    refine lv_bipush (v := 6) hx hb dX8_stepsCome_55 (by decide) ?_
    refine bIald (v := nw 6) X Y 1 rfl (bInD (by decide)) dX8_stepsCome_57 ((upd_ne (by decide)).trans ((upd_ne (by decide)).trans rfl)) ?_
    refine lv_icmp_ne (tgt := 81) hx hb dX8_stepsCome_58 (by decide) (fun c_2 => ?_) (fun c_2 => ?_)
    · have c_2 : ¬ ((nw 18) = (nw 6)) := c_2
      rw [if_neg c_2] at hu
      refine lv_aload_n hx hb dX8_stepsCome_81 rfl (lv_at hl 5 rfl) ?_
      refine lv_iload_n hx hb dX8_stepsCome_82 rfl (lv_at hl 6 rfl) ?_
      refine lv_bipush (v := 9) hx hb dX8_stepsCome_83 (by decide) ?_
      refine lv_iconst (v := 2) hx hb dX8_stepsCome_85 (by decide) ?_
      refine lv_iload_n hx hb dX8_stepsCome_86 rfl (lv_at hl 3 rfl) ?_
      refine bMul (v := 2) X dX8_stepsCome_87 (by decide) ?_
      refine bAdd (v := 11) X dX8_stepsCome_88 (by decide) ?_
      refine lv_iload hx hb dX8_stepsCome_89 (lv_at hl 1 rfl) ?_
      refine bVV (As := [.int 0, .int 11, .int (nw 18)]) (rest := []) (wc := [(mM, .inr (8, [.ref mN, .ref mR, .ref mA, .ref mP, .int ch, .ref mT, .int le, .int sp, .ref mD])), (mN, .inl (cyI, 515, .inl (upd (upd nw 16 (nw 16)) 17 (nw 17))))]) (w1 := [(mM, .inr (8, [.ref mN, .ref mR, .ref mA, .ref mP, .int ch, .ref mT, .int le, .int sp, .ref mD])), (mN, .inl (cyI, 515, .inl (upd (upd (upd nw 16 (nw 16)) 17 (nw 17)) 18 (nw 18))))]) (ws' := [(mM, .inr (8, [.ref mN, .ref mR, .ref mA, .ref mP, .int ch, .ref mT, .int le, .int sp, .ref mD])), (mN, .inl (cyI, 515, .inl (upd (upd (upd nw 16 (nw 16)) 17 (nw 17)) 18 (nw 18))))]) (ad := [mM, mN]) (wr := []) (nn := 2) (ci := 8) (q0 := 0) X Y (c_tells8 l D cyC cyI mM mN mR mA mP mT mD ch le sp (upd (upd nw 16 (nw 16)) 17 (nw 17)) 0 11 (nw 18) (upd (upd (upd nw 16 (nw 16)) 17 (nw 17)) 18 (nw 18)) (bTells (i := 18) (by decide) rfl) (bInD (by decide))) gX8_stepsCome_X8_tells rfl ⟨rfl, rfl⟩ hd_X8_tells ⟨(Nat.le_of_ble_eq_true rfl), (Nat.le_of_ble_eq_true rfl)⟩ rfl rfl rfl [0, 1] [] rfl rfl rfl rfl rfl rfl rfl rfl (by decide) rfl rfl hl.1 (Nat.le_of_ble_eq_true rfl) ⟨Nat.zero_le _, Nat.zero_le _⟩ dX8_stepsCome_91 (fun H locs Y => ?_)
      refine lv_aload_n hx hb dX8_stepsCome_94 rfl (lv_at hl 5 rfl) ?_
      refine lv_iload_n hx hb dX8_stepsCome_95 rfl (lv_at hl 6 rfl) ?_
      refine lv_bipush (v := 9) hx hb dX8_stepsCome_96 (by decide) ?_
      refine lv_iconst (v := 2) hx hb dX8_stepsCome_98 (by decide) ?_
      refine lv_iload_n hx hb dX8_stepsCome_99 rfl (lv_at hl 3 rfl) ?_
      refine bMul (v := 2) X dX8_stepsCome_100 (by decide) ?_
      refine bAdd (v := 11) X dX8_stepsCome_101 (by decide) ?_
      refine lv_iconst (v := 1) hx hb dX8_stepsCome_102 (by decide) ?_
      refine bAdd (v := 12) X dX8_stepsCome_103 (by decide) ?_
      refine lv_iload hx hb dX8_stepsCome_104 (lv_at hl 0 rfl) ?_
      refine bVV (As := [.int 0, .int 12, .int (nw 19)]) (rest := []) (wc := [(mM, .inr (8, [.ref mN, .ref mR, .ref mA, .ref mP, .int ch, .ref mT, .int le, .int sp, .ref mD])), (mN, .inl (cyI, 515, .inl (upd (upd (upd nw 16 (nw 16)) 17 (nw 17)) 18 (nw 18))))]) (w1 := [(mM, .inr (8, [.ref mN, .ref mR, .ref mA, .ref mP, .int ch, .ref mT, .int le, .int sp, .ref mD])), (mN, .inl (cyI, 515, .inl (upd (upd (upd (upd nw 16 (nw 16)) 17 (nw 17)) 18 (nw 18)) 19 (nw 19))))]) (ws' := [(mM, .inr (8, [.ref mN, .ref mR, .ref mA, .ref mP, .int ch, .ref mT, .int le, .int sp, .ref mD])), (mN, .inl (cyI, 515, .inl (upd (upd (upd (upd nw 16 (nw 16)) 17 (nw 17)) 18 (nw 18)) 19 (nw 19))))]) (ad := [mM, mN]) (wr := []) (nn := 2) (ci := 8) (q0 := 0) X Y (c_tells8 l D cyC cyI mM mN mR mA mP mT mD ch le sp (upd (upd (upd nw 16 (nw 16)) 17 (nw 17)) 18 (nw 18)) 0 12 (nw 19) (upd (upd (upd (upd nw 16 (nw 16)) 17 (nw 17)) 18 (nw 18)) 19 (nw 19)) (bTells (i := 19) (by decide) rfl) (bInD (by decide))) gX8_stepsCome_X8_tells rfl ⟨rfl, rfl⟩ hd_X8_tells ⟨(Nat.le_of_ble_eq_true rfl), (Nat.le_of_ble_eq_true rfl)⟩ rfl rfl rfl [0, 1] [] rfl rfl rfl rfl rfl rfl rfl rfl (by decide) rfl rfl hl.1 (Nat.le_of_ble_eq_true rfl) ⟨Nat.zero_le _, Nat.zero_le _⟩ dX8_stepsCome_106 (fun H locs Y => ?_)
      refine lv_iinc (v := 2) (lv' := [(2, .int 2), (6, .int (nw 19)), (5, .int (nw 18)), (4, .int 1), (3, .int 2), (0, .ref mM), (1, .int 0)]) hx hb dX8_stepsCome_109 hl (k := 3) rfl (by decide) (by decide) rfl (fun ls hl => ?_)
      refine lv_iinc (v := 2) (lv' := [(4, .int 2), (2, .int 2), (6, .int (nw 19)), (5, .int (nw 18)), (3, .int 2), (0, .ref mM), (1, .int 0)]) hx hb dX8_stepsCome_112 hl (k := 3) rfl (by decide) (by decide) rfl (fun ls hl => ?_)
      refine lv_goto (tgt := 13) hx hb dX8_stepsCome_115 (by decide) ?_
      refine lv_iload hx hb dX8_stepsCome_13 (lv_at hl 0 rfl) ?_
      refine lv_iload_n hx hb dX8_stepsCome_15 rfl (lv_at hl 4 rfl) ?_
      refine lv_icmp_ge (tgt := 118) hx hb dX8_stepsCome_16 (by decide) (fun _ => ?_) (fun c_ => absurd (by decide) c_)
      refine lv_aload_n hx hb dX8_stepsCome_118 rfl (lv_at hl 5 rfl) ?_
      refine lv_iload_n hx hb dX8_stepsCome_119 rfl (lv_at hl 6 rfl) ?_
      refine lv_bipush (v := 8) hx hb dX8_stepsCome_120 (by decide) ?_
      refine lv_iload_n hx hb dX8_stepsCome_122 rfl (lv_at hl 1 rfl) ?_
      refine bVV (As := [.int 0, .int 8, .int 2]) (rest := []) (wc := [(mM, .inr (8, [.ref mN, .ref mR, .ref mA, .ref mP, .int ch, .ref mT, .int le, .int sp, .ref mD])), (mN, .inl (cyI, 515, .inl (upd (upd (upd (upd nw 16 (nw 16)) 17 (nw 17)) 18 (nw 18)) 19 (nw 19))))]) (w1 := [(mM, .inr (8, [.ref mN, .ref mR, .ref mA, .ref mP, .int ch, .ref mT, .int le, .int sp, .ref mD])), (mN, .inl (cyI, 515, .inl (upd (upd (upd (upd (upd nw 16 (nw 16)) 17 (nw 17)) 18 (nw 18)) 19 (nw 19)) 15 2)))]) (ws' := [(mM, .inr (8, [.ref mN, .ref mR, .ref mA, .ref mP, .int ch, .ref mT, .int le, .int sp, .ref mD])), (mN, .inl (cyI, 515, .inl (upd (upd (upd (upd (upd nw 16 (nw 16)) 17 (nw 17)) 18 (nw 18)) 19 (nw 19)) 15 2)))]) (ad := [mM, mN]) (wr := []) (nn := 2) (ci := 8) (q0 := 0) X Y (c_tells8 l D cyC cyI mM mN mR mA mP mT mD ch le sp (upd (upd (upd (upd nw 16 (nw 16)) 17 (nw 17)) 18 (nw 18)) 19 (nw 19)) 0 8 2 (upd (upd (upd (upd (upd nw 16 (nw 16)) 17 (nw 17)) 18 (nw 18)) 19 (nw 19)) 15 2) (bTells (i := 15) (by decide) rfl) (bInD (by decide))) gX8_stepsCome_X8_tells rfl ⟨rfl, rfl⟩ hd_X8_tells ⟨(Nat.le_of_ble_eq_true rfl), (Nat.le_of_ble_eq_true rfl)⟩ rfl rfl rfl [0, 1] [] rfl rfl rfl rfl rfl rfl rfl rfl (by decide) rfl rfl hl.1 (Nat.le_of_ble_eq_true rfl) ⟨Nat.zero_le _, Nat.zero_le _⟩ dX8_stepsCome_123 (fun H locs Y => ?_)
      refine lv_iconst (v := 2) hx hb dX8_stepsCome_126 (by decide) ?_
      refine lv_iload_n hx hb dX8_stepsCome_127 rfl (lv_at hl 1 rfl) ?_
      refine bMul (v := 4) X dX8_stepsCome_128 (by decide) ?_
      refine lv_istore (lv' := [(4, .int 4), (2, .int 2), (6, .int (nw 19)), (5, .int (nw 18)), (3, .int 2), (0, .ref mM), (1, .int 0)]) hx hb dX8_stepsCome_129 hl (by decide) rfl (fun ls hl => ?_)
      refine lv_iload hx hb dX8_stepsCome_131 (lv_at hl 0 rfl) ?_
      refine lv_iconst (v := 4) hx hb dX8_stepsCome_133 (by decide) ?_
      refine lv_icmp_ge (tgt := 154) hx hb dX8_stepsCome_134 (by decide) (fun _ => ?_) (fun c_ => absurd (by decide) c_)
      have h9 := (Prod.mk.inj hu).1
      subst h9
      exact bEndV X Y hr hlk dX8_stepsCome_154 rfl
    · have c_2 : (nw 18) = (nw 6) := c_2
      rw [if_pos c_2] at hu
      refine lv_aload_n hx hb dX8_stepsCome_61 rfl (lv_at hl 5 rfl) ?_
      refine lv_iload_n hx hb dX8_stepsCome_62 rfl (lv_at hl 6 rfl) ?_
      refine lv_bipush (v := 6) hx hb dX8_stepsCome_63 (by decide) ?_
      refine lv_aload_n hx hb dX8_stepsCome_65 rfl (lv_at hl 5 rfl) ?_
      refine lv_iload_n hx hb dX8_stepsCome_66 rfl (lv_at hl 6 rfl) ?_
      refine lv_bipush (v := 6) hx hb dX8_stepsCome_67 (by decide) ?_
      refine bVI0 (As := [.int 0, .int 6]) (rest := [.int 6, .int 0, .ref mM]) (wc := [(mM, .inr (8, [.ref mN, .ref mR, .ref mA, .ref mP, .int ch, .ref mT, .int le, .int sp, .ref mD])), (mN, .inl (cyI, 515, .inl (upd (upd nw 16 (nw 16)) 17 (nw 17))))]) (ci := 8) (q0 := 0) X Y (c_of8 l D cyC cyI mM mN mR mA mP mT mD ch le sp (upd (upd nw 16 (nw 16)) 17 (nw 17)) 0 6 (nw 13) (bOf (i := 13) (by decide) ((upd_ne (by decide)).trans ((upd_ne (by decide)).trans rfl))) (bInD (by decide))) gX8_stepsCome_X8_of rfl ⟨rfl, rfl⟩ hd_X8_of ⟨(Nat.le_of_ble_eq_true rfl), (Nat.le_of_ble_eq_true rfl)⟩ rfl rfl rfl [0, 1] rfl rfl rfl rfl hl.1 (Nat.le_of_ble_eq_true rfl) ⟨Nat.zero_le _, Nat.zero_le _⟩ dX8_stepsCome_69 (fun H locs Y => ?_)
      refine lv_iload hx hb dX8_stepsCome_72 (lv_at hl 0 rfl) ?_
      refine bAdd (v := (nw 13) + (nw 19)) X dX8_stepsCome_74 rfl ?_
      refine bVV (As := [.int 0, .int 6, .int ((nw 13) + (nw 19))]) (rest := []) (wc := [(mM, .inr (8, [.ref mN, .ref mR, .ref mA, .ref mP, .int ch, .ref mT, .int le, .int sp, .ref mD])), (mN, .inl (cyI, 515, .inl (upd (upd nw 16 (nw 16)) 17 (nw 17))))]) (w1 := [(mM, .inr (8, [.ref mN, .ref mR, .ref mA, .ref mP, .int ch, .ref mT, .int le, .int sp, .ref mD])), (mN, .inl (cyI, 515, .inl (upd (upd (upd nw 16 (nw 16)) 17 (nw 17)) 13 ((nw 13) + (nw 19)))))]) (ws' := [(mM, .inr (8, [.ref mN, .ref mR, .ref mA, .ref mP, .int ch, .ref mT, .int le, .int sp, .ref mD])), (mN, .inl (cyI, 515, .inl (upd (upd (upd nw 16 (nw 16)) 17 (nw 17)) 13 ((nw 13) + (nw 19)))))]) (ad := [mM, mN]) (wr := []) (nn := 2) (ci := 8) (q0 := 0) X Y (c_tells8 l D cyC cyI mM mN mR mA mP mT mD ch le sp (upd (upd nw 16 (nw 16)) 17 (nw 17)) 0 6 ((nw 13) + (nw 19)) (upd (upd (upd nw 16 (nw 16)) 17 (nw 17)) 13 ((nw 13) + (nw 19))) (bTells (i := 13) (by decide) rfl) (bInD (by decide))) gX8_stepsCome_X8_tells rfl ⟨rfl, rfl⟩ hd_X8_tells ⟨(Nat.le_of_ble_eq_true rfl), (Nat.le_of_ble_eq_true rfl)⟩ rfl rfl rfl [0, 1] [] rfl rfl rfl rfl rfl rfl rfl rfl (by decide) rfl rfl hl.1 (Nat.le_of_ble_eq_true rfl) ⟨Nat.zero_le _, Nat.zero_le _⟩ dX8_stepsCome_75 (fun H locs Y => ?_)
      refine lv_goto (tgt := 112) hx hb dX8_stepsCome_78 (by decide) ?_
      refine lv_iinc (v := 2) (lv' := [(4, .int 2), (6, .int (nw 19)), (5, .int (nw 18)), (2, .int 1), (3, .int 2), (0, .ref mM), (1, .int 0)]) hx hb dX8_stepsCome_112 hl (k := 2) rfl (by decide) (by decide) rfl (fun ls hl => ?_)
      refine lv_goto (tgt := 13) hx hb dX8_stepsCome_115 (by decide) ?_
      refine lv_iload hx hb dX8_stepsCome_13 (lv_at hl 0 rfl) ?_
      refine lv_iload_n hx hb dX8_stepsCome_15 rfl (lv_at hl 4 rfl) ?_
      refine lv_icmp_ge (tgt := 118) hx hb dX8_stepsCome_16 (by decide) (fun _ => ?_) (fun c_ => absurd (by decide) c_)
      refine lv_aload_n hx hb dX8_stepsCome_118 rfl (lv_at hl 5 rfl) ?_
      refine lv_iload_n hx hb dX8_stepsCome_119 rfl (lv_at hl 6 rfl) ?_
      refine lv_bipush (v := 8) hx hb dX8_stepsCome_120 (by decide) ?_
      refine lv_iload_n hx hb dX8_stepsCome_122 rfl (lv_at hl 3 rfl) ?_
      refine bVV (As := [.int 0, .int 8, .int 1]) (rest := []) (wc := [(mM, .inr (8, [.ref mN, .ref mR, .ref mA, .ref mP, .int ch, .ref mT, .int le, .int sp, .ref mD])), (mN, .inl (cyI, 515, .inl (upd (upd (upd nw 16 (nw 16)) 17 (nw 17)) 13 ((nw 13) + (nw 19)))))]) (w1 := [(mM, .inr (8, [.ref mN, .ref mR, .ref mA, .ref mP, .int ch, .ref mT, .int le, .int sp, .ref mD])), (mN, .inl (cyI, 515, .inl (upd (upd (upd (upd nw 16 (nw 16)) 17 (nw 17)) 13 ((nw 13) + (nw 19))) 15 1)))]) (ws' := [(mM, .inr (8, [.ref mN, .ref mR, .ref mA, .ref mP, .int ch, .ref mT, .int le, .int sp, .ref mD])), (mN, .inl (cyI, 515, .inl (upd (upd (upd (upd nw 16 (nw 16)) 17 (nw 17)) 13 ((nw 13) + (nw 19))) 15 1)))]) (ad := [mM, mN]) (wr := []) (nn := 2) (ci := 8) (q0 := 0) X Y (c_tells8 l D cyC cyI mM mN mR mA mP mT mD ch le sp (upd (upd (upd nw 16 (nw 16)) 17 (nw 17)) 13 ((nw 13) + (nw 19))) 0 8 1 (upd (upd (upd (upd nw 16 (nw 16)) 17 (nw 17)) 13 ((nw 13) + (nw 19))) 15 1) (bTells (i := 15) (by decide) rfl) (bInD (by decide))) gX8_stepsCome_X8_tells rfl ⟨rfl, rfl⟩ hd_X8_tells ⟨(Nat.le_of_ble_eq_true rfl), (Nat.le_of_ble_eq_true rfl)⟩ rfl rfl rfl [0, 1] [] rfl rfl rfl rfl rfl rfl rfl rfl (by decide) rfl rfl hl.1 (Nat.le_of_ble_eq_true rfl) ⟨Nat.zero_le _, Nat.zero_le _⟩ dX8_stepsCome_123 (fun H locs Y => ?_)
      refine lv_iconst (v := 2) hx hb dX8_stepsCome_126 (by decide) ?_
      refine lv_iload_n hx hb dX8_stepsCome_127 rfl (lv_at hl 3 rfl) ?_
      refine bMul (v := 2) X dX8_stepsCome_128 (by decide) ?_
      refine lv_istore (lv' := [(4, .int 2), (6, .int (nw 19)), (5, .int (nw 18)), (2, .int 1), (3, .int 2), (0, .ref mM), (1, .int 0)]) hx hb dX8_stepsCome_129 hl (by decide) rfl (fun ls hl => ?_)
      refine lv_iload hx hb dX8_stepsCome_131 (lv_at hl 0 rfl) ?_
      refine lv_iconst (v := 4) hx hb dX8_stepsCome_133 (by decide) ?_
      refine lv_icmp_ge (tgt := 154) hx hb dX8_stepsCome_134 (by decide) (fun c_ => absurd c_ (by decide)) (fun _ => ?_)
      refine lv_aload_n hx hb dX8_stepsCome_137 rfl (lv_at hl 5 rfl) ?_
      refine lv_iload_n hx hb dX8_stepsCome_138 rfl (lv_at hl 6 rfl) ?_
      refine lv_bipush (v := 9) hx hb dX8_stepsCome_139 (by decide) ?_
      refine lv_iload hx hb dX8_stepsCome_141 (lv_at hl 0 rfl) ?_
      refine bAdd (v := 11) X dX8_stepsCome_143 (by decide) ?_
      refine lv_iconst (v := 0) hx hb dX8_stepsCome_144 (by decide) ?_
      refine bVV (As := [.int 0, .int 11, .int 0]) (rest := []) (wc := [(mM, .inr (8, [.ref mN, .ref mR, .ref mA, .ref mP, .int ch, .ref mT, .int le, .int sp, .ref mD])), (mN, .inl (cyI, 515, .inl (upd (upd (upd (upd nw 16 (nw 16)) 17 (nw 17)) 13 ((nw 13) + (nw 19))) 15 1)))]) (w1 := [(mM, .inr (8, [.ref mN, .ref mR, .ref mA, .ref mP, .int ch, .ref mT, .int le, .int sp, .ref mD])), (mN, .inl (cyI, 515, .inl (upd (upd (upd (upd (upd nw 16 (nw 16)) 17 (nw 17)) 13 ((nw 13) + (nw 19))) 15 1) 18 0)))]) (ws' := [(mM, .inr (8, [.ref mN, .ref mR, .ref mA, .ref mP, .int ch, .ref mT, .int le, .int sp, .ref mD])), (mN, .inl (cyI, 515, .inl (upd (upd (upd (upd (upd nw 16 (nw 16)) 17 (nw 17)) 13 ((nw 13) + (nw 19))) 15 1) 18 0)))]) (ad := [mM, mN]) (wr := []) (nn := 2) (ci := 8) (q0 := 0) X Y (c_tells8 l D cyC cyI mM mN mR mA mP mT mD ch le sp (upd (upd (upd (upd nw 16 (nw 16)) 17 (nw 17)) 13 ((nw 13) + (nw 19))) 15 1) 0 11 0 (upd (upd (upd (upd (upd nw 16 (nw 16)) 17 (nw 17)) 13 ((nw 13) + (nw 19))) 15 1) 18 0) (bTells (i := 18) (by decide) rfl) (bInD (by decide))) gX8_stepsCome_X8_tells rfl ⟨rfl, rfl⟩ hd_X8_tells ⟨(Nat.le_of_ble_eq_true rfl), (Nat.le_of_ble_eq_true rfl)⟩ rfl rfl rfl [0, 1] [] rfl rfl rfl rfl rfl rfl rfl rfl (by decide) rfl rfl hl.1 (Nat.le_of_ble_eq_true rfl) ⟨Nat.zero_le _, Nat.zero_le _⟩ dX8_stepsCome_145 (fun H locs Y => ?_)
      refine lv_iinc (v := 3) (lv' := [(4, .int 3), (6, .int (nw 19)), (5, .int (nw 18)), (2, .int 1), (3, .int 2), (0, .ref mM), (1, .int 0)]) hx hb dX8_stepsCome_148 hl (k := 0) rfl (by decide) (by decide) rfl (fun ls hl => ?_)
      refine lv_goto (tgt := 131) hx hb dX8_stepsCome_151 (by decide) ?_
      refine lv_iload hx hb dX8_stepsCome_131 (lv_at hl 0 rfl) ?_
      refine lv_iconst (v := 4) hx hb dX8_stepsCome_133 (by decide) ?_
      refine lv_icmp_ge (tgt := 154) hx hb dX8_stepsCome_134 (by decide) (fun c_ => absurd c_ (by decide)) (fun _ => ?_)
      refine lv_aload_n hx hb dX8_stepsCome_137 rfl (lv_at hl 5 rfl) ?_
      refine lv_iload_n hx hb dX8_stepsCome_138 rfl (lv_at hl 6 rfl) ?_
      refine lv_bipush (v := 9) hx hb dX8_stepsCome_139 (by decide) ?_
      refine lv_iload hx hb dX8_stepsCome_141 (lv_at hl 0 rfl) ?_
      refine bAdd (v := 12) X dX8_stepsCome_143 (by decide) ?_
      refine lv_iconst (v := 0) hx hb dX8_stepsCome_144 (by decide) ?_
      refine bVV (As := [.int 0, .int 12, .int 0]) (rest := []) (wc := [(mM, .inr (8, [.ref mN, .ref mR, .ref mA, .ref mP, .int ch, .ref mT, .int le, .int sp, .ref mD])), (mN, .inl (cyI, 515, .inl (upd (upd (upd (upd (upd nw 16 (nw 16)) 17 (nw 17)) 13 ((nw 13) + (nw 19))) 15 1) 18 0)))]) (w1 := [(mM, .inr (8, [.ref mN, .ref mR, .ref mA, .ref mP, .int ch, .ref mT, .int le, .int sp, .ref mD])), (mN, .inl (cyI, 515, .inl (upd (upd (upd (upd (upd (upd nw 16 (nw 16)) 17 (nw 17)) 13 ((nw 13) + (nw 19))) 15 1) 18 0) 19 0)))]) (ws' := [(mM, .inr (8, [.ref mN, .ref mR, .ref mA, .ref mP, .int ch, .ref mT, .int le, .int sp, .ref mD])), (mN, .inl (cyI, 515, .inl (upd (upd (upd (upd (upd (upd nw 16 (nw 16)) 17 (nw 17)) 13 ((nw 13) + (nw 19))) 15 1) 18 0) 19 0)))]) (ad := [mM, mN]) (wr := []) (nn := 2) (ci := 8) (q0 := 0) X Y (c_tells8 l D cyC cyI mM mN mR mA mP mT mD ch le sp (upd (upd (upd (upd (upd nw 16 (nw 16)) 17 (nw 17)) 13 ((nw 13) + (nw 19))) 15 1) 18 0) 0 12 0 (upd (upd (upd (upd (upd (upd nw 16 (nw 16)) 17 (nw 17)) 13 ((nw 13) + (nw 19))) 15 1) 18 0) 19 0) (bTells (i := 19) (by decide) rfl) (bInD (by decide))) gX8_stepsCome_X8_tells rfl ⟨rfl, rfl⟩ hd_X8_tells ⟨(Nat.le_of_ble_eq_true rfl), (Nat.le_of_ble_eq_true rfl)⟩ rfl rfl rfl [0, 1] [] rfl rfl rfl rfl rfl rfl rfl rfl (by decide) rfl rfl hl.1 (Nat.le_of_ble_eq_true rfl) ⟨Nat.zero_le _, Nat.zero_le _⟩ dX8_stepsCome_145 (fun H locs Y => ?_)
      refine lv_iinc (v := 4) (lv' := [(4, .int 4), (6, .int (nw 19)), (5, .int (nw 18)), (2, .int 1), (3, .int 2), (0, .ref mM), (1, .int 0)]) hx hb dX8_stepsCome_148 hl (k := 0) rfl (by decide) (by decide) rfl (fun ls hl => ?_)
      refine lv_goto (tgt := 131) hx hb dX8_stepsCome_151 (by decide) ?_
      refine lv_iload hx hb dX8_stepsCome_131 (lv_at hl 0 rfl) ?_
      refine lv_iconst (v := 4) hx hb dX8_stepsCome_133 (by decide) ?_
      refine lv_icmp_ge (tgt := 154) hx hb dX8_stepsCome_134 (by decide) (fun _ => ?_) (fun c_ => absurd (by decide) c_)
      have h9 := (Prod.mk.inj hu).1
      subst h9
      exact bEndV X Y hr hlk dX8_stepsCome_154 rfl
  · have c_1 : (nw 16) = (nw 6) := c_1
    rw [if_pos c_1] at hu
    refine lv_aload_n hx hb dX8_stepsCome_61 rfl (lv_at hl 5 rfl) ?_
    refine lv_iload_n hx hb dX8_stepsCome_62 rfl (lv_at hl 6 rfl) ?_
    refine lv_bipush (v := 6) hx hb dX8_stepsCome_63 (by decide) ?_
    refine lv_aload_n hx hb dX8_stepsCome_65 rfl (lv_at hl 5 rfl) ?_
    refine lv_iload_n hx hb dX8_stepsCome_66 rfl (lv_at hl 6 rfl) ?_
    refine lv_bipush (v := 6) hx hb dX8_stepsCome_67 (by decide) ?_
    refine bVI0 (As := [.int 0, .int 6]) (rest := [.int 6, .int 0, .ref mM]) (wc := [(mM, .inr (8, [.ref mN, .ref mR, .ref mA, .ref mP, .int ch, .ref mT, .int le, .int sp, .ref mD])), (mN, .inl (cyI, 515, .inl nw))]) (ci := 8) (q0 := 0) X Y (c_of8 l D cyC cyI mM mN mR mA mP mT mD ch le sp nw 0 6 (nw 13) (bOf (i := 13) (by decide) rfl) (bInD (by decide))) gX8_stepsCome_X8_of rfl ⟨rfl, rfl⟩ hd_X8_of ⟨(Nat.le_of_ble_eq_true rfl), (Nat.le_of_ble_eq_true rfl)⟩ rfl rfl rfl [0, 1] rfl rfl rfl rfl hl.1 (Nat.le_of_ble_eq_true rfl) ⟨Nat.zero_le _, Nat.zero_le _⟩ dX8_stepsCome_69 (fun H locs Y => ?_)
    refine lv_iload hx hb dX8_stepsCome_72 (lv_at hl 0 rfl) ?_
    refine bAdd (v := (nw 13) + (nw 17)) X dX8_stepsCome_74 rfl ?_
    refine bVV (As := [.int 0, .int 6, .int ((nw 13) + (nw 17))]) (rest := []) (wc := [(mM, .inr (8, [.ref mN, .ref mR, .ref mA, .ref mP, .int ch, .ref mT, .int le, .int sp, .ref mD])), (mN, .inl (cyI, 515, .inl nw))]) (w1 := [(mM, .inr (8, [.ref mN, .ref mR, .ref mA, .ref mP, .int ch, .ref mT, .int le, .int sp, .ref mD])), (mN, .inl (cyI, 515, .inl (upd nw 13 ((nw 13) + (nw 17)))))]) (ws' := [(mM, .inr (8, [.ref mN, .ref mR, .ref mA, .ref mP, .int ch, .ref mT, .int le, .int sp, .ref mD])), (mN, .inl (cyI, 515, .inl (upd nw 13 ((nw 13) + (nw 17)))))]) (ad := [mM, mN]) (wr := []) (nn := 2) (ci := 8) (q0 := 0) X Y (c_tells8 l D cyC cyI mM mN mR mA mP mT mD ch le sp nw 0 6 ((nw 13) + (nw 17)) (upd nw 13 ((nw 13) + (nw 17))) (bTells (i := 13) (by decide) rfl) (bInD (by decide))) gX8_stepsCome_X8_tells rfl ⟨rfl, rfl⟩ hd_X8_tells ⟨(Nat.le_of_ble_eq_true rfl), (Nat.le_of_ble_eq_true rfl)⟩ rfl rfl rfl [0, 1] [] rfl rfl rfl rfl rfl rfl rfl rfl (by decide) rfl rfl hl.1 (Nat.le_of_ble_eq_true rfl) ⟨Nat.zero_le _, Nat.zero_le _⟩ dX8_stepsCome_75 (fun H locs Y => ?_)
    refine lv_goto (tgt := 112) hx hb dX8_stepsCome_78 (by decide) ?_
    refine lv_iinc (v := 1) (lv' := [(4, .int 1), (6, .int (nw 17)), (5, .int (nw 16)), (3, .int 2), (2, .int 0), (0, .ref mM), (1, .int 0)]) hx hb dX8_stepsCome_112 hl (k := 2) rfl (by decide) (by decide) rfl (fun ls hl => ?_)
    refine lv_goto (tgt := 13) hx hb dX8_stepsCome_115 (by decide) ?_
    refine lv_iload hx hb dX8_stepsCome_13 (lv_at hl 0 rfl) ?_
    refine lv_iload_n hx hb dX8_stepsCome_15 rfl (lv_at hl 3 rfl) ?_
    refine lv_icmp_ge (tgt := 118) hx hb dX8_stepsCome_16 (by decide) (fun c_ => absurd c_ (by decide)) (fun _ => ?_)
    refine lv_aload_n hx hb dX8_stepsCome_19 rfl (lv_at hl 5 rfl) ?_
    refine lv_iload_n hx hb dX8_stepsCome_20 rfl (lv_at hl 6 rfl) ?_
    refine lv_bipush (v := 9) hx hb dX8_stepsCome_21 (by decide) ?_
    refine lv_iconst (v := 2) hx hb dX8_stepsCome_23 (by decide) ?_
    refine lv_iload hx hb dX8_stepsCome_24 (lv_at hl 0 rfl) ?_
    refine bMul (v := 2) X dX8_stepsCome_26 (by decide) ?_
    refine bAdd (v := 11) X dX8_stepsCome_27 (by decide) ?_
    refine bVI0 (As := [.int 0, .int 11]) (rest := []) (wc := [(mM, .inr (8, [.ref mN, .ref mR, .ref mA, .ref mP, .int ch, .ref mT, .int le, .int sp, .ref mD])), (mN, .inl (cyI, 515, .inl (upd nw 13 ((nw 13) + (nw 17)))))]) (ci := 8) (q0 := 0) X Y (c_of8 l D cyC cyI mM mN mR mA mP mT mD ch le sp (upd nw 13 ((nw 13) + (nw 17))) 0 11 (nw 18) (bOf (i := 18) (by decide) ((upd_ne (by decide)).trans rfl)) (bInD (by decide))) gX8_stepsCome_X8_of rfl ⟨rfl, rfl⟩ hd_X8_of ⟨(Nat.le_of_ble_eq_true rfl), (Nat.le_of_ble_eq_true rfl)⟩ rfl rfl rfl [0, 1] rfl rfl rfl rfl hl.1 (Nat.le_of_ble_eq_true rfl) ⟨Nat.zero_le _, Nat.zero_le _⟩ dX8_stepsCome_28 (fun H locs Y => ?_)
    refine lv_istore (lv' := [(5, .int (nw 18)), (4, .int 1), (6, .int (nw 17)), (3, .int 2), (2, .int 0), (0, .ref mM), (1, .int 0)]) hx hb dX8_stepsCome_31 hl (by decide) rfl (fun ls hl => ?_)
    refine lv_aload_n hx hb dX8_stepsCome_33 rfl (lv_at hl 5 rfl) ?_
    refine lv_iload_n hx hb dX8_stepsCome_34 rfl (lv_at hl 6 rfl) ?_
    refine lv_bipush (v := 9) hx hb dX8_stepsCome_35 (by decide) ?_
    refine lv_iconst (v := 2) hx hb dX8_stepsCome_37 (by decide) ?_
    refine lv_iload hx hb dX8_stepsCome_38 (lv_at hl 1 rfl) ?_
    refine bMul (v := 2) X dX8_stepsCome_40 (by decide) ?_
    refine bAdd (v := 11) X dX8_stepsCome_41 (by decide) ?_
    refine lv_iconst (v := 1) hx hb dX8_stepsCome_42 (by decide) ?_
    refine bAdd (v := 12) X dX8_stepsCome_43 (by decide) ?_
    refine bVI0 (As := [.int 0, .int 12]) (rest := []) (wc := [(mM, .inr (8, [.ref mN, .ref mR, .ref mA, .ref mP, .int ch, .ref mT, .int le, .int sp, .ref mD])), (mN, .inl (cyI, 515, .inl (upd nw 13 ((nw 13) + (nw 17)))))]) (ci := 8) (q0 := 0) X Y (c_of8 l D cyC cyI mM mN mR mA mP mT mD ch le sp (upd nw 13 ((nw 13) + (nw 17))) 0 12 (nw 19) (bOf (i := 19) (by decide) ((upd_ne (by decide)).trans rfl)) (bInD (by decide))) gX8_stepsCome_X8_of rfl ⟨rfl, rfl⟩ hd_X8_of ⟨(Nat.le_of_ble_eq_true rfl), (Nat.le_of_ble_eq_true rfl)⟩ rfl rfl rfl [0, 1] rfl rfl rfl rfl hl.1 (Nat.le_of_ble_eq_true rfl) ⟨Nat.zero_le _, Nat.zero_le _⟩ dX8_stepsCome_44 (fun H locs Y => ?_)
    refine lv_istore (lv' := [(6, .int (nw 19)), (5, .int (nw 18)), (4, .int 1), (3, .int 2), (2, .int 0), (0, .ref mM), (1, .int 0)]) hx hb dX8_stepsCome_47 hl (by decide) rfl (fun ls hl => ?_)
    refine lv_iload hx hb dX8_stepsCome_49 (lv_at hl 1 rfl) ?_
    refine lv_aload_n hx hb dX8_stepsCome_51 rfl (lv_at hl 5 rfl) ?_
    refine bGet (v := .ref mN) (T := TX8) (N := 9) (ci := 8) X Y i_X8_stepsCome_X8 0 rfl rfl 0 (Nat.le_of_ble_eq_true rfl) f_X8_stepsCome_7 rfl rfl dX8_stepsCome_52 ?_
    refine lv_bipush (v := 6) hx hb dX8_stepsCome_55 (by decide) ?_
    refine bIald (v := nw 6) X Y 1 rfl (bInD (by decide)) dX8_stepsCome_57 ((upd_ne (by decide)).trans rfl) ?_
    refine lv_icmp_ne (tgt := 81) hx hb dX8_stepsCome_58 (by decide) (fun c_3 => ?_) (fun c_3 => ?_)
    · have c_3 : ¬ ((nw 18) = (nw 6)) := c_3
      rw [if_neg c_3] at hu
      refine lv_aload_n hx hb dX8_stepsCome_81 rfl (lv_at hl 5 rfl) ?_
      refine lv_iload_n hx hb dX8_stepsCome_82 rfl (lv_at hl 6 rfl) ?_
      refine lv_bipush (v := 9) hx hb dX8_stepsCome_83 (by decide) ?_
      refine lv_iconst (v := 2) hx hb dX8_stepsCome_85 (by decide) ?_
      refine lv_iload_n hx hb dX8_stepsCome_86 rfl (lv_at hl 4 rfl) ?_
      refine bMul (v := 0) X dX8_stepsCome_87 (by decide) ?_
      refine bAdd (v := 9) X dX8_stepsCome_88 (by decide) ?_
      refine lv_iload hx hb dX8_stepsCome_89 (lv_at hl 1 rfl) ?_
      refine bVV (As := [.int 0, .int 9, .int (nw 18)]) (rest := []) (wc := [(mM, .inr (8, [.ref mN, .ref mR, .ref mA, .ref mP, .int ch, .ref mT, .int le, .int sp, .ref mD])), (mN, .inl (cyI, 515, .inl (upd nw 13 ((nw 13) + (nw 17)))))]) (w1 := [(mM, .inr (8, [.ref mN, .ref mR, .ref mA, .ref mP, .int ch, .ref mT, .int le, .int sp, .ref mD])), (mN, .inl (cyI, 515, .inl (upd (upd nw 13 ((nw 13) + (nw 17))) 16 (nw 18))))]) (ws' := [(mM, .inr (8, [.ref mN, .ref mR, .ref mA, .ref mP, .int ch, .ref mT, .int le, .int sp, .ref mD])), (mN, .inl (cyI, 515, .inl (upd (upd nw 13 ((nw 13) + (nw 17))) 16 (nw 18))))]) (ad := [mM, mN]) (wr := []) (nn := 2) (ci := 8) (q0 := 0) X Y (c_tells8 l D cyC cyI mM mN mR mA mP mT mD ch le sp (upd nw 13 ((nw 13) + (nw 17))) 0 9 (nw 18) (upd (upd nw 13 ((nw 13) + (nw 17))) 16 (nw 18)) (bTells (i := 16) (by decide) rfl) (bInD (by decide))) gX8_stepsCome_X8_tells rfl ⟨rfl, rfl⟩ hd_X8_tells ⟨(Nat.le_of_ble_eq_true rfl), (Nat.le_of_ble_eq_true rfl)⟩ rfl rfl rfl [0, 1] [] rfl rfl rfl rfl rfl rfl rfl rfl (by decide) rfl rfl hl.1 (Nat.le_of_ble_eq_true rfl) ⟨Nat.zero_le _, Nat.zero_le _⟩ dX8_stepsCome_91 (fun H locs Y => ?_)
      refine lv_aload_n hx hb dX8_stepsCome_94 rfl (lv_at hl 5 rfl) ?_
      refine lv_iload_n hx hb dX8_stepsCome_95 rfl (lv_at hl 6 rfl) ?_
      refine lv_bipush (v := 9) hx hb dX8_stepsCome_96 (by decide) ?_
      refine lv_iconst (v := 2) hx hb dX8_stepsCome_98 (by decide) ?_
      refine lv_iload_n hx hb dX8_stepsCome_99 rfl (lv_at hl 4 rfl) ?_
      refine bMul (v := 0) X dX8_stepsCome_100 (by decide) ?_
      refine bAdd (v := 9) X dX8_stepsCome_101 (by decide) ?_
      refine lv_iconst (v := 1) hx hb dX8_stepsCome_102 (by decide) ?_
      refine bAdd (v := 10) X dX8_stepsCome_103 (by decide) ?_
      refine lv_iload hx hb dX8_stepsCome_104 (lv_at hl 0 rfl) ?_
      refine bVV (As := [.int 0, .int 10, .int (nw 19)]) (rest := []) (wc := [(mM, .inr (8, [.ref mN, .ref mR, .ref mA, .ref mP, .int ch, .ref mT, .int le, .int sp, .ref mD])), (mN, .inl (cyI, 515, .inl (upd (upd nw 13 ((nw 13) + (nw 17))) 16 (nw 18))))]) (w1 := [(mM, .inr (8, [.ref mN, .ref mR, .ref mA, .ref mP, .int ch, .ref mT, .int le, .int sp, .ref mD])), (mN, .inl (cyI, 515, .inl (upd (upd (upd nw 13 ((nw 13) + (nw 17))) 16 (nw 18)) 17 (nw 19))))]) (ws' := [(mM, .inr (8, [.ref mN, .ref mR, .ref mA, .ref mP, .int ch, .ref mT, .int le, .int sp, .ref mD])), (mN, .inl (cyI, 515, .inl (upd (upd (upd nw 13 ((nw 13) + (nw 17))) 16 (nw 18)) 17 (nw 19))))]) (ad := [mM, mN]) (wr := []) (nn := 2) (ci := 8) (q0 := 0) X Y (c_tells8 l D cyC cyI mM mN mR mA mP mT mD ch le sp (upd (upd nw 13 ((nw 13) + (nw 17))) 16 (nw 18)) 0 10 (nw 19) (upd (upd (upd nw 13 ((nw 13) + (nw 17))) 16 (nw 18)) 17 (nw 19)) (bTells (i := 17) (by decide) rfl) (bInD (by decide))) gX8_stepsCome_X8_tells rfl ⟨rfl, rfl⟩ hd_X8_tells ⟨(Nat.le_of_ble_eq_true rfl), (Nat.le_of_ble_eq_true rfl)⟩ rfl rfl rfl [0, 1] [] rfl rfl rfl rfl rfl rfl rfl rfl (by decide) rfl rfl hl.1 (Nat.le_of_ble_eq_true rfl) ⟨Nat.zero_le _, Nat.zero_le _⟩ dX8_stepsCome_106 (fun H locs Y => ?_)
      refine lv_iinc (v := 1) (lv' := [(2, .int 1), (6, .int (nw 19)), (5, .int (nw 18)), (4, .int 1), (3, .int 2), (0, .ref mM), (1, .int 0)]) hx hb dX8_stepsCome_109 hl (k := 4) rfl (by decide) (by decide) rfl (fun ls hl => ?_)
      refine lv_iinc (v := 2) (lv' := [(4, .int 2), (2, .int 1), (6, .int (nw 19)), (5, .int (nw 18)), (3, .int 2), (0, .ref mM), (1, .int 0)]) hx hb dX8_stepsCome_112 hl (k := 3) rfl (by decide) (by decide) rfl (fun ls hl => ?_)
      refine lv_goto (tgt := 13) hx hb dX8_stepsCome_115 (by decide) ?_
      refine lv_iload hx hb dX8_stepsCome_13 (lv_at hl 0 rfl) ?_
      refine lv_iload_n hx hb dX8_stepsCome_15 rfl (lv_at hl 4 rfl) ?_
      refine lv_icmp_ge (tgt := 118) hx hb dX8_stepsCome_16 (by decide) (fun _ => ?_) (fun c_ => absurd (by decide) c_)
      refine lv_aload_n hx hb dX8_stepsCome_118 rfl (lv_at hl 5 rfl) ?_
      refine lv_iload_n hx hb dX8_stepsCome_119 rfl (lv_at hl 6 rfl) ?_
      refine lv_bipush (v := 8) hx hb dX8_stepsCome_120 (by decide) ?_
      refine lv_iload_n hx hb dX8_stepsCome_122 rfl (lv_at hl 1 rfl) ?_
      refine bVV (As := [.int 0, .int 8, .int 1]) (rest := []) (wc := [(mM, .inr (8, [.ref mN, .ref mR, .ref mA, .ref mP, .int ch, .ref mT, .int le, .int sp, .ref mD])), (mN, .inl (cyI, 515, .inl (upd (upd (upd nw 13 ((nw 13) + (nw 17))) 16 (nw 18)) 17 (nw 19))))]) (w1 := [(mM, .inr (8, [.ref mN, .ref mR, .ref mA, .ref mP, .int ch, .ref mT, .int le, .int sp, .ref mD])), (mN, .inl (cyI, 515, .inl (upd (upd (upd (upd nw 13 ((nw 13) + (nw 17))) 16 (nw 18)) 17 (nw 19)) 15 1)))]) (ws' := [(mM, .inr (8, [.ref mN, .ref mR, .ref mA, .ref mP, .int ch, .ref mT, .int le, .int sp, .ref mD])), (mN, .inl (cyI, 515, .inl (upd (upd (upd (upd nw 13 ((nw 13) + (nw 17))) 16 (nw 18)) 17 (nw 19)) 15 1)))]) (ad := [mM, mN]) (wr := []) (nn := 2) (ci := 8) (q0 := 0) X Y (c_tells8 l D cyC cyI mM mN mR mA mP mT mD ch le sp (upd (upd (upd nw 13 ((nw 13) + (nw 17))) 16 (nw 18)) 17 (nw 19)) 0 8 1 (upd (upd (upd (upd nw 13 ((nw 13) + (nw 17))) 16 (nw 18)) 17 (nw 19)) 15 1) (bTells (i := 15) (by decide) rfl) (bInD (by decide))) gX8_stepsCome_X8_tells rfl ⟨rfl, rfl⟩ hd_X8_tells ⟨(Nat.le_of_ble_eq_true rfl), (Nat.le_of_ble_eq_true rfl)⟩ rfl rfl rfl [0, 1] [] rfl rfl rfl rfl rfl rfl rfl rfl (by decide) rfl rfl hl.1 (Nat.le_of_ble_eq_true rfl) ⟨Nat.zero_le _, Nat.zero_le _⟩ dX8_stepsCome_123 (fun H locs Y => ?_)
      refine lv_iconst (v := 2) hx hb dX8_stepsCome_126 (by decide) ?_
      refine lv_iload_n hx hb dX8_stepsCome_127 rfl (lv_at hl 1 rfl) ?_
      refine bMul (v := 2) X dX8_stepsCome_128 (by decide) ?_
      refine lv_istore (lv' := [(4, .int 2), (2, .int 1), (6, .int (nw 19)), (5, .int (nw 18)), (3, .int 2), (0, .ref mM), (1, .int 0)]) hx hb dX8_stepsCome_129 hl (by decide) rfl (fun ls hl => ?_)
      refine lv_iload hx hb dX8_stepsCome_131 (lv_at hl 0 rfl) ?_
      refine lv_iconst (v := 4) hx hb dX8_stepsCome_133 (by decide) ?_
      refine lv_icmp_ge (tgt := 154) hx hb dX8_stepsCome_134 (by decide) (fun c_ => absurd c_ (by decide)) (fun _ => ?_)
      refine lv_aload_n hx hb dX8_stepsCome_137 rfl (lv_at hl 5 rfl) ?_
      refine lv_iload_n hx hb dX8_stepsCome_138 rfl (lv_at hl 6 rfl) ?_
      refine lv_bipush (v := 9) hx hb dX8_stepsCome_139 (by decide) ?_
      refine lv_iload hx hb dX8_stepsCome_141 (lv_at hl 0 rfl) ?_
      refine bAdd (v := 11) X dX8_stepsCome_143 (by decide) ?_
      refine lv_iconst (v := 0) hx hb dX8_stepsCome_144 (by decide) ?_
      refine bVV (As := [.int 0, .int 11, .int 0]) (rest := []) (wc := [(mM, .inr (8, [.ref mN, .ref mR, .ref mA, .ref mP, .int ch, .ref mT, .int le, .int sp, .ref mD])), (mN, .inl (cyI, 515, .inl (upd (upd (upd (upd nw 13 ((nw 13) + (nw 17))) 16 (nw 18)) 17 (nw 19)) 15 1)))]) (w1 := [(mM, .inr (8, [.ref mN, .ref mR, .ref mA, .ref mP, .int ch, .ref mT, .int le, .int sp, .ref mD])), (mN, .inl (cyI, 515, .inl (upd (upd (upd (upd (upd nw 13 ((nw 13) + (nw 17))) 16 (nw 18)) 17 (nw 19)) 15 1) 18 0)))]) (ws' := [(mM, .inr (8, [.ref mN, .ref mR, .ref mA, .ref mP, .int ch, .ref mT, .int le, .int sp, .ref mD])), (mN, .inl (cyI, 515, .inl (upd (upd (upd (upd (upd nw 13 ((nw 13) + (nw 17))) 16 (nw 18)) 17 (nw 19)) 15 1) 18 0)))]) (ad := [mM, mN]) (wr := []) (nn := 2) (ci := 8) (q0 := 0) X Y (c_tells8 l D cyC cyI mM mN mR mA mP mT mD ch le sp (upd (upd (upd (upd nw 13 ((nw 13) + (nw 17))) 16 (nw 18)) 17 (nw 19)) 15 1) 0 11 0 (upd (upd (upd (upd (upd nw 13 ((nw 13) + (nw 17))) 16 (nw 18)) 17 (nw 19)) 15 1) 18 0) (bTells (i := 18) (by decide) rfl) (bInD (by decide))) gX8_stepsCome_X8_tells rfl ⟨rfl, rfl⟩ hd_X8_tells ⟨(Nat.le_of_ble_eq_true rfl), (Nat.le_of_ble_eq_true rfl)⟩ rfl rfl rfl [0, 1] [] rfl rfl rfl rfl rfl rfl rfl rfl (by decide) rfl rfl hl.1 (Nat.le_of_ble_eq_true rfl) ⟨Nat.zero_le _, Nat.zero_le _⟩ dX8_stepsCome_145 (fun H locs Y => ?_)
      refine lv_iinc (v := 3) (lv' := [(4, .int 3), (2, .int 1), (6, .int (nw 19)), (5, .int (nw 18)), (3, .int 2), (0, .ref mM), (1, .int 0)]) hx hb dX8_stepsCome_148 hl (k := 0) rfl (by decide) (by decide) rfl (fun ls hl => ?_)
      refine lv_goto (tgt := 131) hx hb dX8_stepsCome_151 (by decide) ?_
      refine lv_iload hx hb dX8_stepsCome_131 (lv_at hl 0 rfl) ?_
      refine lv_iconst (v := 4) hx hb dX8_stepsCome_133 (by decide) ?_
      refine lv_icmp_ge (tgt := 154) hx hb dX8_stepsCome_134 (by decide) (fun c_ => absurd c_ (by decide)) (fun _ => ?_)
      refine lv_aload_n hx hb dX8_stepsCome_137 rfl (lv_at hl 5 rfl) ?_
      refine lv_iload_n hx hb dX8_stepsCome_138 rfl (lv_at hl 6 rfl) ?_
      refine lv_bipush (v := 9) hx hb dX8_stepsCome_139 (by decide) ?_
      refine lv_iload hx hb dX8_stepsCome_141 (lv_at hl 0 rfl) ?_
      refine bAdd (v := 12) X dX8_stepsCome_143 (by decide) ?_
      refine lv_iconst (v := 0) hx hb dX8_stepsCome_144 (by decide) ?_
      refine bVV (As := [.int 0, .int 12, .int 0]) (rest := []) (wc := [(mM, .inr (8, [.ref mN, .ref mR, .ref mA, .ref mP, .int ch, .ref mT, .int le, .int sp, .ref mD])), (mN, .inl (cyI, 515, .inl (upd (upd (upd (upd (upd nw 13 ((nw 13) + (nw 17))) 16 (nw 18)) 17 (nw 19)) 15 1) 18 0)))]) (w1 := [(mM, .inr (8, [.ref mN, .ref mR, .ref mA, .ref mP, .int ch, .ref mT, .int le, .int sp, .ref mD])), (mN, .inl (cyI, 515, .inl (upd (upd (upd (upd (upd (upd nw 13 ((nw 13) + (nw 17))) 16 (nw 18)) 17 (nw 19)) 15 1) 18 0) 19 0)))]) (ws' := [(mM, .inr (8, [.ref mN, .ref mR, .ref mA, .ref mP, .int ch, .ref mT, .int le, .int sp, .ref mD])), (mN, .inl (cyI, 515, .inl (upd (upd (upd (upd (upd (upd nw 13 ((nw 13) + (nw 17))) 16 (nw 18)) 17 (nw 19)) 15 1) 18 0) 19 0)))]) (ad := [mM, mN]) (wr := []) (nn := 2) (ci := 8) (q0 := 0) X Y (c_tells8 l D cyC cyI mM mN mR mA mP mT mD ch le sp (upd (upd (upd (upd (upd nw 13 ((nw 13) + (nw 17))) 16 (nw 18)) 17 (nw 19)) 15 1) 18 0) 0 12 0 (upd (upd (upd (upd (upd (upd nw 13 ((nw 13) + (nw 17))) 16 (nw 18)) 17 (nw 19)) 15 1) 18 0) 19 0) (bTells (i := 19) (by decide) rfl) (bInD (by decide))) gX8_stepsCome_X8_tells rfl ⟨rfl, rfl⟩ hd_X8_tells ⟨(Nat.le_of_ble_eq_true rfl), (Nat.le_of_ble_eq_true rfl)⟩ rfl rfl rfl [0, 1] [] rfl rfl rfl rfl rfl rfl rfl rfl (by decide) rfl rfl hl.1 (Nat.le_of_ble_eq_true rfl) ⟨Nat.zero_le _, Nat.zero_le _⟩ dX8_stepsCome_145 (fun H locs Y => ?_)
      refine lv_iinc (v := 4) (lv' := [(4, .int 4), (2, .int 1), (6, .int (nw 19)), (5, .int (nw 18)), (3, .int 2), (0, .ref mM), (1, .int 0)]) hx hb dX8_stepsCome_148 hl (k := 0) rfl (by decide) (by decide) rfl (fun ls hl => ?_)
      refine lv_goto (tgt := 131) hx hb dX8_stepsCome_151 (by decide) ?_
      refine lv_iload hx hb dX8_stepsCome_131 (lv_at hl 0 rfl) ?_
      refine lv_iconst (v := 4) hx hb dX8_stepsCome_133 (by decide) ?_
      refine lv_icmp_ge (tgt := 154) hx hb dX8_stepsCome_134 (by decide) (fun _ => ?_) (fun c_ => absurd (by decide) c_)
      have h9 := (Prod.mk.inj hu).1
      subst h9
      exact bEndV X Y hr hlk dX8_stepsCome_154 rfl
    · have c_3 : (nw 18) = (nw 6) := c_3
      rw [if_pos c_3] at hu
      refine lv_aload_n hx hb dX8_stepsCome_61 rfl (lv_at hl 5 rfl) ?_
      refine lv_iload_n hx hb dX8_stepsCome_62 rfl (lv_at hl 6 rfl) ?_
      refine lv_bipush (v := 6) hx hb dX8_stepsCome_63 (by decide) ?_
      refine lv_aload_n hx hb dX8_stepsCome_65 rfl (lv_at hl 5 rfl) ?_
      refine lv_iload_n hx hb dX8_stepsCome_66 rfl (lv_at hl 6 rfl) ?_
      refine lv_bipush (v := 6) hx hb dX8_stepsCome_67 (by decide) ?_
      refine bVI0 (As := [.int 0, .int 6]) (rest := [.int 6, .int 0, .ref mM]) (wc := [(mM, .inr (8, [.ref mN, .ref mR, .ref mA, .ref mP, .int ch, .ref mT, .int le, .int sp, .ref mD])), (mN, .inl (cyI, 515, .inl (upd nw 13 ((nw 13) + (nw 17)))))]) (ci := 8) (q0 := 0) X Y (c_of8 l D cyC cyI mM mN mR mA mP mT mD ch le sp (upd nw 13 ((nw 13) + (nw 17))) 0 6 ((nw 13) + (nw 17)) (bOf (i := 13) (by decide) upd_eq) (bInD (by decide))) gX8_stepsCome_X8_of rfl ⟨rfl, rfl⟩ hd_X8_of ⟨(Nat.le_of_ble_eq_true rfl), (Nat.le_of_ble_eq_true rfl)⟩ rfl rfl rfl [0, 1] rfl rfl rfl rfl hl.1 (Nat.le_of_ble_eq_true rfl) ⟨Nat.zero_le _, Nat.zero_le _⟩ dX8_stepsCome_69 (fun H locs Y => ?_)
      refine lv_iload hx hb dX8_stepsCome_72 (lv_at hl 0 rfl) ?_
      refine bAdd (v := ((nw 13) + (nw 17)) + (nw 19)) X dX8_stepsCome_74 rfl ?_
      refine bVV (As := [.int 0, .int 6, .int (((nw 13) + (nw 17)) + (nw 19))]) (rest := []) (wc := [(mM, .inr (8, [.ref mN, .ref mR, .ref mA, .ref mP, .int ch, .ref mT, .int le, .int sp, .ref mD])), (mN, .inl (cyI, 515, .inl (upd nw 13 ((nw 13) + (nw 17)))))]) (w1 := [(mM, .inr (8, [.ref mN, .ref mR, .ref mA, .ref mP, .int ch, .ref mT, .int le, .int sp, .ref mD])), (mN, .inl (cyI, 515, .inl (upd (upd nw 13 ((nw 13) + (nw 17))) 13 (((nw 13) + (nw 17)) + (nw 19)))))]) (ws' := [(mM, .inr (8, [.ref mN, .ref mR, .ref mA, .ref mP, .int ch, .ref mT, .int le, .int sp, .ref mD])), (mN, .inl (cyI, 515, .inl (upd (upd nw 13 ((nw 13) + (nw 17))) 13 (((nw 13) + (nw 17)) + (nw 19)))))]) (ad := [mM, mN]) (wr := []) (nn := 2) (ci := 8) (q0 := 0) X Y (c_tells8 l D cyC cyI mM mN mR mA mP mT mD ch le sp (upd nw 13 ((nw 13) + (nw 17))) 0 6 (((nw 13) + (nw 17)) + (nw 19)) (upd (upd nw 13 ((nw 13) + (nw 17))) 13 (((nw 13) + (nw 17)) + (nw 19))) (bTells (i := 13) (by decide) rfl) (bInD (by decide))) gX8_stepsCome_X8_tells rfl ⟨rfl, rfl⟩ hd_X8_tells ⟨(Nat.le_of_ble_eq_true rfl), (Nat.le_of_ble_eq_true rfl)⟩ rfl rfl rfl [0, 1] [] rfl rfl rfl rfl rfl rfl rfl rfl (by decide) rfl rfl hl.1 (Nat.le_of_ble_eq_true rfl) ⟨Nat.zero_le _, Nat.zero_le _⟩ dX8_stepsCome_75 (fun H locs Y => ?_)
      refine lv_goto (tgt := 112) hx hb dX8_stepsCome_78 (by decide) ?_
      refine lv_iinc (v := 2) (lv' := [(4, .int 2), (6, .int (nw 19)), (5, .int (nw 18)), (3, .int 2), (2, .int 0), (0, .ref mM), (1, .int 0)]) hx hb dX8_stepsCome_112 hl (k := 2) rfl (by decide) (by decide) rfl (fun ls hl => ?_)
      refine lv_goto (tgt := 13) hx hb dX8_stepsCome_115 (by decide) ?_
      refine lv_iload hx hb dX8_stepsCome_13 (lv_at hl 0 rfl) ?_
      refine lv_iload_n hx hb dX8_stepsCome_15 rfl (lv_at hl 3 rfl) ?_
      refine lv_icmp_ge (tgt := 118) hx hb dX8_stepsCome_16 (by decide) (fun _ => ?_) (fun c_ => absurd (by decide) c_)
      refine lv_aload_n hx hb dX8_stepsCome_118 rfl (lv_at hl 5 rfl) ?_
      refine lv_iload_n hx hb dX8_stepsCome_119 rfl (lv_at hl 6 rfl) ?_
      refine lv_bipush (v := 8) hx hb dX8_stepsCome_120 (by decide) ?_
      refine lv_iload_n hx hb dX8_stepsCome_122 rfl (lv_at hl 4 rfl) ?_
      refine bVV (As := [.int 0, .int 8, .int 0]) (rest := []) (wc := [(mM, .inr (8, [.ref mN, .ref mR, .ref mA, .ref mP, .int ch, .ref mT, .int le, .int sp, .ref mD])), (mN, .inl (cyI, 515, .inl (upd (upd nw 13 ((nw 13) + (nw 17))) 13 (((nw 13) + (nw 17)) + (nw 19)))))]) (w1 := [(mM, .inr (8, [.ref mN, .ref mR, .ref mA, .ref mP, .int ch, .ref mT, .int le, .int sp, .ref mD])), (mN, .inl (cyI, 515, .inl (upd (upd (upd nw 13 ((nw 13) + (nw 17))) 13 (((nw 13) + (nw 17)) + (nw 19))) 15 0)))]) (ws' := [(mM, .inr (8, [.ref mN, .ref mR, .ref mA, .ref mP, .int ch, .ref mT, .int le, .int sp, .ref mD])), (mN, .inl (cyI, 515, .inl (upd (upd (upd nw 13 ((nw 13) + (nw 17))) 13 (((nw 13) + (nw 17)) + (nw 19))) 15 0)))]) (ad := [mM, mN]) (wr := []) (nn := 2) (ci := 8) (q0 := 0) X Y (c_tells8 l D cyC cyI mM mN mR mA mP mT mD ch le sp (upd (upd nw 13 ((nw 13) + (nw 17))) 13 (((nw 13) + (nw 17)) + (nw 19))) 0 8 0 (upd (upd (upd nw 13 ((nw 13) + (nw 17))) 13 (((nw 13) + (nw 17)) + (nw 19))) 15 0) (bTells (i := 15) (by decide) rfl) (bInD (by decide))) gX8_stepsCome_X8_tells rfl ⟨rfl, rfl⟩ hd_X8_tells ⟨(Nat.le_of_ble_eq_true rfl), (Nat.le_of_ble_eq_true rfl)⟩ rfl rfl rfl [0, 1] [] rfl rfl rfl rfl rfl rfl rfl rfl (by decide) rfl rfl hl.1 (Nat.le_of_ble_eq_true rfl) ⟨Nat.zero_le _, Nat.zero_le _⟩ dX8_stepsCome_123 (fun H locs Y => ?_)
      refine lv_iconst (v := 2) hx hb dX8_stepsCome_126 (by decide) ?_
      refine lv_iload_n hx hb dX8_stepsCome_127 rfl (lv_at hl 4 rfl) ?_
      refine bMul (v := 0) X dX8_stepsCome_128 (by decide) ?_
      refine lv_istore (lv' := [(4, .int 0), (6, .int (nw 19)), (5, .int (nw 18)), (3, .int 2), (2, .int 0), (0, .ref mM), (1, .int 0)]) hx hb dX8_stepsCome_129 hl (by decide) rfl (fun ls hl => ?_)
      refine lv_iload hx hb dX8_stepsCome_131 (lv_at hl 0 rfl) ?_
      refine lv_iconst (v := 4) hx hb dX8_stepsCome_133 (by decide) ?_
      refine lv_icmp_ge (tgt := 154) hx hb dX8_stepsCome_134 (by decide) (fun c_ => absurd c_ (by decide)) (fun _ => ?_)
      refine lv_aload_n hx hb dX8_stepsCome_137 rfl (lv_at hl 5 rfl) ?_
      refine lv_iload_n hx hb dX8_stepsCome_138 rfl (lv_at hl 6 rfl) ?_
      refine lv_bipush (v := 9) hx hb dX8_stepsCome_139 (by decide) ?_
      refine lv_iload hx hb dX8_stepsCome_141 (lv_at hl 0 rfl) ?_
      refine bAdd (v := 9) X dX8_stepsCome_143 (by decide) ?_
      refine lv_iconst (v := 0) hx hb dX8_stepsCome_144 (by decide) ?_
      refine bVV (As := [.int 0, .int 9, .int 0]) (rest := []) (wc := [(mM, .inr (8, [.ref mN, .ref mR, .ref mA, .ref mP, .int ch, .ref mT, .int le, .int sp, .ref mD])), (mN, .inl (cyI, 515, .inl (upd (upd (upd nw 13 ((nw 13) + (nw 17))) 13 (((nw 13) + (nw 17)) + (nw 19))) 15 0)))]) (w1 := [(mM, .inr (8, [.ref mN, .ref mR, .ref mA, .ref mP, .int ch, .ref mT, .int le, .int sp, .ref mD])), (mN, .inl (cyI, 515, .inl (upd (upd (upd (upd nw 13 ((nw 13) + (nw 17))) 13 (((nw 13) + (nw 17)) + (nw 19))) 15 0) 16 0)))]) (ws' := [(mM, .inr (8, [.ref mN, .ref mR, .ref mA, .ref mP, .int ch, .ref mT, .int le, .int sp, .ref mD])), (mN, .inl (cyI, 515, .inl (upd (upd (upd (upd nw 13 ((nw 13) + (nw 17))) 13 (((nw 13) + (nw 17)) + (nw 19))) 15 0) 16 0)))]) (ad := [mM, mN]) (wr := []) (nn := 2) (ci := 8) (q0 := 0) X Y (c_tells8 l D cyC cyI mM mN mR mA mP mT mD ch le sp (upd (upd (upd nw 13 ((nw 13) + (nw 17))) 13 (((nw 13) + (nw 17)) + (nw 19))) 15 0) 0 9 0 (upd (upd (upd (upd nw 13 ((nw 13) + (nw 17))) 13 (((nw 13) + (nw 17)) + (nw 19))) 15 0) 16 0) (bTells (i := 16) (by decide) rfl) (bInD (by decide))) gX8_stepsCome_X8_tells rfl ⟨rfl, rfl⟩ hd_X8_tells ⟨(Nat.le_of_ble_eq_true rfl), (Nat.le_of_ble_eq_true rfl)⟩ rfl rfl rfl [0, 1] [] rfl rfl rfl rfl rfl rfl rfl rfl (by decide) rfl rfl hl.1 (Nat.le_of_ble_eq_true rfl) ⟨Nat.zero_le _, Nat.zero_le _⟩ dX8_stepsCome_145 (fun H locs Y => ?_)
      refine lv_iinc (v := 1) (lv' := [(4, .int 1), (6, .int (nw 19)), (5, .int (nw 18)), (3, .int 2), (2, .int 0), (0, .ref mM), (1, .int 0)]) hx hb dX8_stepsCome_148 hl (k := 0) rfl (by decide) (by decide) rfl (fun ls hl => ?_)
      refine lv_goto (tgt := 131) hx hb dX8_stepsCome_151 (by decide) ?_
      refine lv_iload hx hb dX8_stepsCome_131 (lv_at hl 0 rfl) ?_
      refine lv_iconst (v := 4) hx hb dX8_stepsCome_133 (by decide) ?_
      refine lv_icmp_ge (tgt := 154) hx hb dX8_stepsCome_134 (by decide) (fun c_ => absurd c_ (by decide)) (fun _ => ?_)
      refine lv_aload_n hx hb dX8_stepsCome_137 rfl (lv_at hl 5 rfl) ?_
      refine lv_iload_n hx hb dX8_stepsCome_138 rfl (lv_at hl 6 rfl) ?_
      refine lv_bipush (v := 9) hx hb dX8_stepsCome_139 (by decide) ?_
      refine lv_iload hx hb dX8_stepsCome_141 (lv_at hl 0 rfl) ?_
      refine bAdd (v := 10) X dX8_stepsCome_143 (by decide) ?_
      refine lv_iconst (v := 0) hx hb dX8_stepsCome_144 (by decide) ?_
      refine bVV (As := [.int 0, .int 10, .int 0]) (rest := []) (wc := [(mM, .inr (8, [.ref mN, .ref mR, .ref mA, .ref mP, .int ch, .ref mT, .int le, .int sp, .ref mD])), (mN, .inl (cyI, 515, .inl (upd (upd (upd (upd nw 13 ((nw 13) + (nw 17))) 13 (((nw 13) + (nw 17)) + (nw 19))) 15 0) 16 0)))]) (w1 := [(mM, .inr (8, [.ref mN, .ref mR, .ref mA, .ref mP, .int ch, .ref mT, .int le, .int sp, .ref mD])), (mN, .inl (cyI, 515, .inl (upd (upd (upd (upd (upd nw 13 ((nw 13) + (nw 17))) 13 (((nw 13) + (nw 17)) + (nw 19))) 15 0) 16 0) 17 0)))]) (ws' := [(mM, .inr (8, [.ref mN, .ref mR, .ref mA, .ref mP, .int ch, .ref mT, .int le, .int sp, .ref mD])), (mN, .inl (cyI, 515, .inl (upd (upd (upd (upd (upd nw 13 ((nw 13) + (nw 17))) 13 (((nw 13) + (nw 17)) + (nw 19))) 15 0) 16 0) 17 0)))]) (ad := [mM, mN]) (wr := []) (nn := 2) (ci := 8) (q0 := 0) X Y (c_tells8 l D cyC cyI mM mN mR mA mP mT mD ch le sp (upd (upd (upd (upd nw 13 ((nw 13) + (nw 17))) 13 (((nw 13) + (nw 17)) + (nw 19))) 15 0) 16 0) 0 10 0 (upd (upd (upd (upd (upd nw 13 ((nw 13) + (nw 17))) 13 (((nw 13) + (nw 17)) + (nw 19))) 15 0) 16 0) 17 0) (bTells (i := 17) (by decide) rfl) (bInD (by decide))) gX8_stepsCome_X8_tells rfl ⟨rfl, rfl⟩ hd_X8_tells ⟨(Nat.le_of_ble_eq_true rfl), (Nat.le_of_ble_eq_true rfl)⟩ rfl rfl rfl [0, 1] [] rfl rfl rfl rfl rfl rfl rfl rfl (by decide) rfl rfl hl.1 (Nat.le_of_ble_eq_true rfl) ⟨Nat.zero_le _, Nat.zero_le _⟩ dX8_stepsCome_145 (fun H locs Y => ?_)
      refine lv_iinc (v := 2) (lv' := [(4, .int 2), (6, .int (nw 19)), (5, .int (nw 18)), (3, .int 2), (2, .int 0), (0, .ref mM), (1, .int 0)]) hx hb dX8_stepsCome_148 hl (k := 0) rfl (by decide) (by decide) rfl (fun ls hl => ?_)
      refine lv_goto (tgt := 131) hx hb dX8_stepsCome_151 (by decide) ?_
      refine lv_iload hx hb dX8_stepsCome_131 (lv_at hl 0 rfl) ?_
      refine lv_iconst (v := 4) hx hb dX8_stepsCome_133 (by decide) ?_
      refine lv_icmp_ge (tgt := 154) hx hb dX8_stepsCome_134 (by decide) (fun c_ => absurd c_ (by decide)) (fun _ => ?_)
      refine lv_aload_n hx hb dX8_stepsCome_137 rfl (lv_at hl 5 rfl) ?_
      refine lv_iload_n hx hb dX8_stepsCome_138 rfl (lv_at hl 6 rfl) ?_
      refine lv_bipush (v := 9) hx hb dX8_stepsCome_139 (by decide) ?_
      refine lv_iload hx hb dX8_stepsCome_141 (lv_at hl 0 rfl) ?_
      refine bAdd (v := 11) X dX8_stepsCome_143 (by decide) ?_
      refine lv_iconst (v := 0) hx hb dX8_stepsCome_144 (by decide) ?_
      refine bVV (As := [.int 0, .int 11, .int 0]) (rest := []) (wc := [(mM, .inr (8, [.ref mN, .ref mR, .ref mA, .ref mP, .int ch, .ref mT, .int le, .int sp, .ref mD])), (mN, .inl (cyI, 515, .inl (upd (upd (upd (upd (upd nw 13 ((nw 13) + (nw 17))) 13 (((nw 13) + (nw 17)) + (nw 19))) 15 0) 16 0) 17 0)))]) (w1 := [(mM, .inr (8, [.ref mN, .ref mR, .ref mA, .ref mP, .int ch, .ref mT, .int le, .int sp, .ref mD])), (mN, .inl (cyI, 515, .inl (upd (upd (upd (upd (upd (upd nw 13 ((nw 13) + (nw 17))) 13 (((nw 13) + (nw 17)) + (nw 19))) 15 0) 16 0) 17 0) 18 0)))]) (ws' := [(mM, .inr (8, [.ref mN, .ref mR, .ref mA, .ref mP, .int ch, .ref mT, .int le, .int sp, .ref mD])), (mN, .inl (cyI, 515, .inl (upd (upd (upd (upd (upd (upd nw 13 ((nw 13) + (nw 17))) 13 (((nw 13) + (nw 17)) + (nw 19))) 15 0) 16 0) 17 0) 18 0)))]) (ad := [mM, mN]) (wr := []) (nn := 2) (ci := 8) (q0 := 0) X Y (c_tells8 l D cyC cyI mM mN mR mA mP mT mD ch le sp (upd (upd (upd (upd (upd nw 13 ((nw 13) + (nw 17))) 13 (((nw 13) + (nw 17)) + (nw 19))) 15 0) 16 0) 17 0) 0 11 0 (upd (upd (upd (upd (upd (upd nw 13 ((nw 13) + (nw 17))) 13 (((nw 13) + (nw 17)) + (nw 19))) 15 0) 16 0) 17 0) 18 0) (bTells (i := 18) (by decide) rfl) (bInD (by decide))) gX8_stepsCome_X8_tells rfl ⟨rfl, rfl⟩ hd_X8_tells ⟨(Nat.le_of_ble_eq_true rfl), (Nat.le_of_ble_eq_true rfl)⟩ rfl rfl rfl [0, 1] [] rfl rfl rfl rfl rfl rfl rfl rfl (by decide) rfl rfl hl.1 (Nat.le_of_ble_eq_true rfl) ⟨Nat.zero_le _, Nat.zero_le _⟩ dX8_stepsCome_145 (fun H locs Y => ?_)
      refine lv_iinc (v := 3) (lv' := [(4, .int 3), (6, .int (nw 19)), (5, .int (nw 18)), (3, .int 2), (2, .int 0), (0, .ref mM), (1, .int 0)]) hx hb dX8_stepsCome_148 hl (k := 0) rfl (by decide) (by decide) rfl (fun ls hl => ?_)
      refine lv_goto (tgt := 131) hx hb dX8_stepsCome_151 (by decide) ?_
      refine lv_iload hx hb dX8_stepsCome_131 (lv_at hl 0 rfl) ?_
      refine lv_iconst (v := 4) hx hb dX8_stepsCome_133 (by decide) ?_
      refine lv_icmp_ge (tgt := 154) hx hb dX8_stepsCome_134 (by decide) (fun c_ => absurd c_ (by decide)) (fun _ => ?_)
      refine lv_aload_n hx hb dX8_stepsCome_137 rfl (lv_at hl 5 rfl) ?_
      refine lv_iload_n hx hb dX8_stepsCome_138 rfl (lv_at hl 6 rfl) ?_
      refine lv_bipush (v := 9) hx hb dX8_stepsCome_139 (by decide) ?_
      refine lv_iload hx hb dX8_stepsCome_141 (lv_at hl 0 rfl) ?_
      refine bAdd (v := 12) X dX8_stepsCome_143 (by decide) ?_
      refine lv_iconst (v := 0) hx hb dX8_stepsCome_144 (by decide) ?_
      refine bVV (As := [.int 0, .int 12, .int 0]) (rest := []) (wc := [(mM, .inr (8, [.ref mN, .ref mR, .ref mA, .ref mP, .int ch, .ref mT, .int le, .int sp, .ref mD])), (mN, .inl (cyI, 515, .inl (upd (upd (upd (upd (upd (upd nw 13 ((nw 13) + (nw 17))) 13 (((nw 13) + (nw 17)) + (nw 19))) 15 0) 16 0) 17 0) 18 0)))]) (w1 := [(mM, .inr (8, [.ref mN, .ref mR, .ref mA, .ref mP, .int ch, .ref mT, .int le, .int sp, .ref mD])), (mN, .inl (cyI, 515, .inl (upd (upd (upd (upd (upd (upd (upd nw 13 ((nw 13) + (nw 17))) 13 (((nw 13) + (nw 17)) + (nw 19))) 15 0) 16 0) 17 0) 18 0) 19 0)))]) (ws' := [(mM, .inr (8, [.ref mN, .ref mR, .ref mA, .ref mP, .int ch, .ref mT, .int le, .int sp, .ref mD])), (mN, .inl (cyI, 515, .inl (upd (upd (upd (upd (upd (upd (upd nw 13 ((nw 13) + (nw 17))) 13 (((nw 13) + (nw 17)) + (nw 19))) 15 0) 16 0) 17 0) 18 0) 19 0)))]) (ad := [mM, mN]) (wr := []) (nn := 2) (ci := 8) (q0 := 0) X Y (c_tells8 l D cyC cyI mM mN mR mA mP mT mD ch le sp (upd (upd (upd (upd (upd (upd nw 13 ((nw 13) + (nw 17))) 13 (((nw 13) + (nw 17)) + (nw 19))) 15 0) 16 0) 17 0) 18 0) 0 12 0 (upd (upd (upd (upd (upd (upd (upd nw 13 ((nw 13) + (nw 17))) 13 (((nw 13) + (nw 17)) + (nw 19))) 15 0) 16 0) 17 0) 18 0) 19 0) (bTells (i := 19) (by decide) rfl) (bInD (by decide))) gX8_stepsCome_X8_tells rfl ⟨rfl, rfl⟩ hd_X8_tells ⟨(Nat.le_of_ble_eq_true rfl), (Nat.le_of_ble_eq_true rfl)⟩ rfl rfl rfl [0, 1] [] rfl rfl rfl rfl rfl rfl rfl rfl (by decide) rfl rfl hl.1 (Nat.le_of_ble_eq_true rfl) ⟨Nat.zero_le _, Nat.zero_le _⟩ dX8_stepsCome_145 (fun H locs Y => ?_)
      refine lv_iinc (v := 4) (lv' := [(4, .int 4), (6, .int (nw 19)), (5, .int (nw 18)), (3, .int 2), (2, .int 0), (0, .ref mM), (1, .int 0)]) hx hb dX8_stepsCome_148 hl (k := 0) rfl (by decide) (by decide) rfl (fun ls hl => ?_)
      refine lv_goto (tgt := 131) hx hb dX8_stepsCome_151 (by decide) ?_
      refine lv_iload hx hb dX8_stepsCome_131 (lv_at hl 0 rfl) ?_
      refine lv_iconst (v := 4) hx hb dX8_stepsCome_133 (by decide) ?_
      refine lv_icmp_ge (tgt := 154) hx hb dX8_stepsCome_134 (by decide) (fun _ => ?_) (fun c_ => absurd (by decide) c_)
      have h9 := (Prod.mk.inj hu).1
      subst h9
      exact bEndV X Y hr hlk dX8_stepsCome_154 rfl
def s_stepsCome8_10 (nw : Nat → Int32) : (Nat → Int32) × Unit :=
  (upd (upd (upd (upd (upd nw 28 0) 29 0) 30 0) 31 0) 32 0, ())
set_option maxHeartbeats 4000000 in
set_option maxRecDepth 100000 in
theorem c_stepsCome8_10 (l : Launch) (D : va_G) (cyC cyI : ClassId) (mM : Nat) (mN : Nat) (mR : Nat) (mA : Nat) (mP : Nat) (mT : Nat) (mD : Nat) (ch : Int32) (le : Int32) (sp : Int32) (nw : Nat → Int32) (o0 : Nat → Int32) (hu : s_stepsCome8_10 nw = (o0, ())) (hk : nw 28 = 0) : CV l yX8_stepsCome wsX8_stepsCome { frames := 1, cells := 0, slots := 0, locals := 23 } D cyC cyI [.ref mM, .int 1] [(mM, .inr (8, [.ref mN, .ref mR, .ref mA, .ref mP, .int ch, .ref mT, .int le, .int sp, .ref mD])), (mN, .inl (cyI, 515, .inl nw))] [(mM, .inr (8, [.ref mN, .ref mR, .ref mA, .ref mP, .int ch, .ref mT, .int le, .int sp, .ref mD])), (mN, .inl (cyI, 515, .inl o0))] := by
  refine CV.of (cc := cX8_stepsCome) (n := 7) (ret := none) (by decide +kernel) rfl (Nat.le_of_ble_eq_true rfl) ?_
  intro p_ e_ s_ m_ bl_ me_ cd_ A_ ls X Y hr hlk hl
  have hx := X.1.1
  have hb := X.1.2.1
  have hl : lv_has ls 7 [(0, .ref mM), (1, .int 1)] := hl
  unfold s_stepsCome8_10 at hu
  refine lv_iconst (v := 0) hx hb dX8_stepsCome_0 (by decide) ?_
  refine lv_istore_n (lv' := [(2, .int 0), (0, .ref mM), (1, .int 1)]) hx hb dX8_stepsCome_1 rfl hl (by decide) rfl (fun ls hl => ?_)
  refine lv_aload_n hx hb dX8_stepsCome_2 rfl (lv_at hl 1 rfl) ?_
  refine lv_iload_n hx hb dX8_stepsCome_3 rfl (lv_at hl 2 rfl) ?_
  refine lv_bipush (v := 8) hx hb dX8_stepsCome_4 (by decide) ?_
  refine bVI0 (As := [.int 1, .int 8]) (rest := []) (wc := [(mM, .inr (8, [.ref mN, .ref mR, .ref mA, .ref mP, .int ch, .ref mT, .int le, .int sp, .ref mD])), (mN, .inl (cyI, 515, .inl nw))]) (ci := 8) (q0 := 0) X Y (c_of8 l D cyC cyI mM mN mR mA mP mT mD ch le sp nw 1 8 0 (bOf (i := 28) (by decide) hk) (bInD (by decide))) gX8_stepsCome_X8_of rfl ⟨rfl, rfl⟩ hd_X8_of ⟨(Nat.le_of_ble_eq_true rfl), (Nat.le_of_ble_eq_true rfl)⟩ rfl rfl rfl [0, 1] rfl rfl rfl rfl hl.1 (Nat.le_of_ble_eq_true rfl) ⟨Nat.zero_le _, Nat.zero_le _⟩ dX8_stepsCome_6 (fun H locs Y => ?_)
  refine lv_istore_n (lv' := [(3, .int 0), (2, .int 0), (0, .ref mM), (1, .int 1)]) hx hb dX8_stepsCome_9 rfl hl (by decide) rfl (fun ls hl => ?_)
  refine lv_iconst (v := 0) hx hb dX8_stepsCome_10 (by decide) ?_
  refine lv_istore (lv' := [(4, .int 0), (3, .int 0), (2, .int 0), (0, .ref mM), (1, .int 1)]) hx hb dX8_stepsCome_11 hl (by decide) rfl (fun ls hl => ?_)
  refine lv_iload hx hb dX8_stepsCome_13 (lv_at hl 0 rfl) ?_
  refine lv_iload_n hx hb dX8_stepsCome_15 rfl (lv_at hl 1 rfl) ?_
  refine lv_icmp_ge (tgt := 118) hx hb dX8_stepsCome_16 (by decide) (fun _ => ?_) (fun c_ => absurd (by decide) c_)
  refine lv_aload_n hx hb dX8_stepsCome_118 rfl (lv_at hl 3 rfl) ?_
  refine lv_iload_n hx hb dX8_stepsCome_119 rfl (lv_at hl 4 rfl) ?_
  refine lv_bipush (v := 8) hx hb dX8_stepsCome_120 (by decide) ?_
  refine lv_iload_n hx hb dX8_stepsCome_122 rfl (lv_at hl 2 rfl) ?_
  refine bVV (As := [.int 1, .int 8, .int 0]) (rest := []) (wc := [(mM, .inr (8, [.ref mN, .ref mR, .ref mA, .ref mP, .int ch, .ref mT, .int le, .int sp, .ref mD])), (mN, .inl (cyI, 515, .inl nw))]) (w1 := [(mM, .inr (8, [.ref mN, .ref mR, .ref mA, .ref mP, .int ch, .ref mT, .int le, .int sp, .ref mD])), (mN, .inl (cyI, 515, .inl (upd nw 28 0)))]) (ws' := [(mM, .inr (8, [.ref mN, .ref mR, .ref mA, .ref mP, .int ch, .ref mT, .int le, .int sp, .ref mD])), (mN, .inl (cyI, 515, .inl (upd nw 28 0)))]) (ad := [mM, mN]) (wr := []) (nn := 2) (ci := 8) (q0 := 0) X Y (c_tells8 l D cyC cyI mM mN mR mA mP mT mD ch le sp nw 1 8 0 (upd nw 28 0) (bTells (i := 28) (by decide) rfl) (bInD (by decide))) gX8_stepsCome_X8_tells rfl ⟨rfl, rfl⟩ hd_X8_tells ⟨(Nat.le_of_ble_eq_true rfl), (Nat.le_of_ble_eq_true rfl)⟩ rfl rfl rfl [0, 1] [] rfl rfl rfl rfl rfl rfl rfl rfl (by decide) rfl rfl hl.1 (Nat.le_of_ble_eq_true rfl) ⟨Nat.zero_le _, Nat.zero_le _⟩ dX8_stepsCome_123 (fun H locs Y => ?_)
  refine lv_iconst (v := 2) hx hb dX8_stepsCome_126 (by decide) ?_
  refine lv_iload_n hx hb dX8_stepsCome_127 rfl (lv_at hl 2 rfl) ?_
  refine bMul (v := 0) X dX8_stepsCome_128 (by decide) ?_
  refine lv_istore (lv' := [(4, .int 0), (3, .int 0), (2, .int 0), (0, .ref mM), (1, .int 1)]) hx hb dX8_stepsCome_129 hl (by decide) rfl (fun ls hl => ?_)
  refine lv_iload hx hb dX8_stepsCome_131 (lv_at hl 0 rfl) ?_
  refine lv_iconst (v := 4) hx hb dX8_stepsCome_133 (by decide) ?_
  refine lv_icmp_ge (tgt := 154) hx hb dX8_stepsCome_134 (by decide) (fun c_ => absurd c_ (by decide)) (fun _ => ?_)
  refine lv_aload_n hx hb dX8_stepsCome_137 rfl (lv_at hl 3 rfl) ?_
  refine lv_iload_n hx hb dX8_stepsCome_138 rfl (lv_at hl 4 rfl) ?_
  refine lv_bipush (v := 9) hx hb dX8_stepsCome_139 (by decide) ?_
  refine lv_iload hx hb dX8_stepsCome_141 (lv_at hl 0 rfl) ?_
  refine bAdd (v := 9) X dX8_stepsCome_143 (by decide) ?_
  refine lv_iconst (v := 0) hx hb dX8_stepsCome_144 (by decide) ?_
  refine bVV (As := [.int 1, .int 9, .int 0]) (rest := []) (wc := [(mM, .inr (8, [.ref mN, .ref mR, .ref mA, .ref mP, .int ch, .ref mT, .int le, .int sp, .ref mD])), (mN, .inl (cyI, 515, .inl (upd nw 28 0)))]) (w1 := [(mM, .inr (8, [.ref mN, .ref mR, .ref mA, .ref mP, .int ch, .ref mT, .int le, .int sp, .ref mD])), (mN, .inl (cyI, 515, .inl (upd (upd nw 28 0) 29 0)))]) (ws' := [(mM, .inr (8, [.ref mN, .ref mR, .ref mA, .ref mP, .int ch, .ref mT, .int le, .int sp, .ref mD])), (mN, .inl (cyI, 515, .inl (upd (upd nw 28 0) 29 0)))]) (ad := [mM, mN]) (wr := []) (nn := 2) (ci := 8) (q0 := 0) X Y (c_tells8 l D cyC cyI mM mN mR mA mP mT mD ch le sp (upd nw 28 0) 1 9 0 (upd (upd nw 28 0) 29 0) (bTells (i := 29) (by decide) rfl) (bInD (by decide))) gX8_stepsCome_X8_tells rfl ⟨rfl, rfl⟩ hd_X8_tells ⟨(Nat.le_of_ble_eq_true rfl), (Nat.le_of_ble_eq_true rfl)⟩ rfl rfl rfl [0, 1] [] rfl rfl rfl rfl rfl rfl rfl rfl (by decide) rfl rfl hl.1 (Nat.le_of_ble_eq_true rfl) ⟨Nat.zero_le _, Nat.zero_le _⟩ dX8_stepsCome_145 (fun H locs Y => ?_)
  refine lv_iinc (v := 1) (lv' := [(4, .int 1), (3, .int 0), (2, .int 0), (0, .ref mM), (1, .int 1)]) hx hb dX8_stepsCome_148 hl (k := 0) rfl (by decide) (by decide) rfl (fun ls hl => ?_)
  refine lv_goto (tgt := 131) hx hb dX8_stepsCome_151 (by decide) ?_
  refine lv_iload hx hb dX8_stepsCome_131 (lv_at hl 0 rfl) ?_
  refine lv_iconst (v := 4) hx hb dX8_stepsCome_133 (by decide) ?_
  refine lv_icmp_ge (tgt := 154) hx hb dX8_stepsCome_134 (by decide) (fun c_ => absurd c_ (by decide)) (fun _ => ?_)
  refine lv_aload_n hx hb dX8_stepsCome_137 rfl (lv_at hl 3 rfl) ?_
  refine lv_iload_n hx hb dX8_stepsCome_138 rfl (lv_at hl 4 rfl) ?_
  refine lv_bipush (v := 9) hx hb dX8_stepsCome_139 (by decide) ?_
  refine lv_iload hx hb dX8_stepsCome_141 (lv_at hl 0 rfl) ?_
  refine bAdd (v := 10) X dX8_stepsCome_143 (by decide) ?_
  refine lv_iconst (v := 0) hx hb dX8_stepsCome_144 (by decide) ?_
  refine bVV (As := [.int 1, .int 10, .int 0]) (rest := []) (wc := [(mM, .inr (8, [.ref mN, .ref mR, .ref mA, .ref mP, .int ch, .ref mT, .int le, .int sp, .ref mD])), (mN, .inl (cyI, 515, .inl (upd (upd nw 28 0) 29 0)))]) (w1 := [(mM, .inr (8, [.ref mN, .ref mR, .ref mA, .ref mP, .int ch, .ref mT, .int le, .int sp, .ref mD])), (mN, .inl (cyI, 515, .inl (upd (upd (upd nw 28 0) 29 0) 30 0)))]) (ws' := [(mM, .inr (8, [.ref mN, .ref mR, .ref mA, .ref mP, .int ch, .ref mT, .int le, .int sp, .ref mD])), (mN, .inl (cyI, 515, .inl (upd (upd (upd nw 28 0) 29 0) 30 0)))]) (ad := [mM, mN]) (wr := []) (nn := 2) (ci := 8) (q0 := 0) X Y (c_tells8 l D cyC cyI mM mN mR mA mP mT mD ch le sp (upd (upd nw 28 0) 29 0) 1 10 0 (upd (upd (upd nw 28 0) 29 0) 30 0) (bTells (i := 30) (by decide) rfl) (bInD (by decide))) gX8_stepsCome_X8_tells rfl ⟨rfl, rfl⟩ hd_X8_tells ⟨(Nat.le_of_ble_eq_true rfl), (Nat.le_of_ble_eq_true rfl)⟩ rfl rfl rfl [0, 1] [] rfl rfl rfl rfl rfl rfl rfl rfl (by decide) rfl rfl hl.1 (Nat.le_of_ble_eq_true rfl) ⟨Nat.zero_le _, Nat.zero_le _⟩ dX8_stepsCome_145 (fun H locs Y => ?_)
  refine lv_iinc (v := 2) (lv' := [(4, .int 2), (3, .int 0), (2, .int 0), (0, .ref mM), (1, .int 1)]) hx hb dX8_stepsCome_148 hl (k := 0) rfl (by decide) (by decide) rfl (fun ls hl => ?_)
  refine lv_goto (tgt := 131) hx hb dX8_stepsCome_151 (by decide) ?_
  refine lv_iload hx hb dX8_stepsCome_131 (lv_at hl 0 rfl) ?_
  refine lv_iconst (v := 4) hx hb dX8_stepsCome_133 (by decide) ?_
  refine lv_icmp_ge (tgt := 154) hx hb dX8_stepsCome_134 (by decide) (fun c_ => absurd c_ (by decide)) (fun _ => ?_)
  refine lv_aload_n hx hb dX8_stepsCome_137 rfl (lv_at hl 3 rfl) ?_
  refine lv_iload_n hx hb dX8_stepsCome_138 rfl (lv_at hl 4 rfl) ?_
  refine lv_bipush (v := 9) hx hb dX8_stepsCome_139 (by decide) ?_
  refine lv_iload hx hb dX8_stepsCome_141 (lv_at hl 0 rfl) ?_
  refine bAdd (v := 11) X dX8_stepsCome_143 (by decide) ?_
  refine lv_iconst (v := 0) hx hb dX8_stepsCome_144 (by decide) ?_
  refine bVV (As := [.int 1, .int 11, .int 0]) (rest := []) (wc := [(mM, .inr (8, [.ref mN, .ref mR, .ref mA, .ref mP, .int ch, .ref mT, .int le, .int sp, .ref mD])), (mN, .inl (cyI, 515, .inl (upd (upd (upd nw 28 0) 29 0) 30 0)))]) (w1 := [(mM, .inr (8, [.ref mN, .ref mR, .ref mA, .ref mP, .int ch, .ref mT, .int le, .int sp, .ref mD])), (mN, .inl (cyI, 515, .inl (upd (upd (upd (upd nw 28 0) 29 0) 30 0) 31 0)))]) (ws' := [(mM, .inr (8, [.ref mN, .ref mR, .ref mA, .ref mP, .int ch, .ref mT, .int le, .int sp, .ref mD])), (mN, .inl (cyI, 515, .inl (upd (upd (upd (upd nw 28 0) 29 0) 30 0) 31 0)))]) (ad := [mM, mN]) (wr := []) (nn := 2) (ci := 8) (q0 := 0) X Y (c_tells8 l D cyC cyI mM mN mR mA mP mT mD ch le sp (upd (upd (upd nw 28 0) 29 0) 30 0) 1 11 0 (upd (upd (upd (upd nw 28 0) 29 0) 30 0) 31 0) (bTells (i := 31) (by decide) rfl) (bInD (by decide))) gX8_stepsCome_X8_tells rfl ⟨rfl, rfl⟩ hd_X8_tells ⟨(Nat.le_of_ble_eq_true rfl), (Nat.le_of_ble_eq_true rfl)⟩ rfl rfl rfl [0, 1] [] rfl rfl rfl rfl rfl rfl rfl rfl (by decide) rfl rfl hl.1 (Nat.le_of_ble_eq_true rfl) ⟨Nat.zero_le _, Nat.zero_le _⟩ dX8_stepsCome_145 (fun H locs Y => ?_)
  refine lv_iinc (v := 3) (lv' := [(4, .int 3), (3, .int 0), (2, .int 0), (0, .ref mM), (1, .int 1)]) hx hb dX8_stepsCome_148 hl (k := 0) rfl (by decide) (by decide) rfl (fun ls hl => ?_)
  refine lv_goto (tgt := 131) hx hb dX8_stepsCome_151 (by decide) ?_
  refine lv_iload hx hb dX8_stepsCome_131 (lv_at hl 0 rfl) ?_
  refine lv_iconst (v := 4) hx hb dX8_stepsCome_133 (by decide) ?_
  refine lv_icmp_ge (tgt := 154) hx hb dX8_stepsCome_134 (by decide) (fun c_ => absurd c_ (by decide)) (fun _ => ?_)
  refine lv_aload_n hx hb dX8_stepsCome_137 rfl (lv_at hl 3 rfl) ?_
  refine lv_iload_n hx hb dX8_stepsCome_138 rfl (lv_at hl 4 rfl) ?_
  refine lv_bipush (v := 9) hx hb dX8_stepsCome_139 (by decide) ?_
  refine lv_iload hx hb dX8_stepsCome_141 (lv_at hl 0 rfl) ?_
  refine bAdd (v := 12) X dX8_stepsCome_143 (by decide) ?_
  refine lv_iconst (v := 0) hx hb dX8_stepsCome_144 (by decide) ?_
  refine bVV (As := [.int 1, .int 12, .int 0]) (rest := []) (wc := [(mM, .inr (8, [.ref mN, .ref mR, .ref mA, .ref mP, .int ch, .ref mT, .int le, .int sp, .ref mD])), (mN, .inl (cyI, 515, .inl (upd (upd (upd (upd nw 28 0) 29 0) 30 0) 31 0)))]) (w1 := [(mM, .inr (8, [.ref mN, .ref mR, .ref mA, .ref mP, .int ch, .ref mT, .int le, .int sp, .ref mD])), (mN, .inl (cyI, 515, .inl (upd (upd (upd (upd (upd nw 28 0) 29 0) 30 0) 31 0) 32 0)))]) (ws' := [(mM, .inr (8, [.ref mN, .ref mR, .ref mA, .ref mP, .int ch, .ref mT, .int le, .int sp, .ref mD])), (mN, .inl (cyI, 515, .inl (upd (upd (upd (upd (upd nw 28 0) 29 0) 30 0) 31 0) 32 0)))]) (ad := [mM, mN]) (wr := []) (nn := 2) (ci := 8) (q0 := 0) X Y (c_tells8 l D cyC cyI mM mN mR mA mP mT mD ch le sp (upd (upd (upd (upd nw 28 0) 29 0) 30 0) 31 0) 1 12 0 (upd (upd (upd (upd (upd nw 28 0) 29 0) 30 0) 31 0) 32 0) (bTells (i := 32) (by decide) rfl) (bInD (by decide))) gX8_stepsCome_X8_tells rfl ⟨rfl, rfl⟩ hd_X8_tells ⟨(Nat.le_of_ble_eq_true rfl), (Nat.le_of_ble_eq_true rfl)⟩ rfl rfl rfl [0, 1] [] rfl rfl rfl rfl rfl rfl rfl rfl (by decide) rfl rfl hl.1 (Nat.le_of_ble_eq_true rfl) ⟨Nat.zero_le _, Nat.zero_le _⟩ dX8_stepsCome_145 (fun H locs Y => ?_)
  refine lv_iinc (v := 4) (lv' := [(4, .int 4), (3, .int 0), (2, .int 0), (0, .ref mM), (1, .int 1)]) hx hb dX8_stepsCome_148 hl (k := 0) rfl (by decide) (by decide) rfl (fun ls hl => ?_)
  refine lv_goto (tgt := 131) hx hb dX8_stepsCome_151 (by decide) ?_
  refine lv_iload hx hb dX8_stepsCome_131 (lv_at hl 0 rfl) ?_
  refine lv_iconst (v := 4) hx hb dX8_stepsCome_133 (by decide) ?_
  refine lv_icmp_ge (tgt := 154) hx hb dX8_stepsCome_134 (by decide) (fun _ => ?_) (fun c_ => absurd (by decide) c_)
  have h9 := (Prod.mk.inj hu).1
  subst h9
  exact bEndV X Y hr hlk dX8_stepsCome_154 rfl
def s_stepsCome8_11 (nw : Nat → Int32) : (Nat → Int32) × Unit :=
  if (nw 29) = (nw 6) then
    (upd (upd (upd (upd (upd (upd nw 26 ((nw 26) + (nw 30))) 28 0) 29 0) 30 0) 31 0) 32 0, ())
  else
    (upd (upd (upd (upd (upd nw 29 (nw 29)) 30 (nw 30)) 28 1) 31 0) 32 0, ())
set_option maxHeartbeats 4000000 in
set_option maxRecDepth 100000 in
theorem c_stepsCome8_11 (l : Launch) (D : va_G) (cyC cyI : ClassId) (mM : Nat) (mN : Nat) (mR : Nat) (mA : Nat) (mP : Nat) (mT : Nat) (mD : Nat) (ch : Int32) (le : Int32) (sp : Int32) (nw : Nat → Int32) (o0 : Nat → Int32) (hu : s_stepsCome8_11 nw = (o0, ())) (hk : nw 28 = 1) : CV l yX8_stepsCome wsX8_stepsCome { frames := 1, cells := 0, slots := 0, locals := 23 } D cyC cyI [.ref mM, .int 1] [(mM, .inr (8, [.ref mN, .ref mR, .ref mA, .ref mP, .int ch, .ref mT, .int le, .int sp, .ref mD])), (mN, .inl (cyI, 515, .inl nw))] [(mM, .inr (8, [.ref mN, .ref mR, .ref mA, .ref mP, .int ch, .ref mT, .int le, .int sp, .ref mD])), (mN, .inl (cyI, 515, .inl o0))] := by
  refine CV.of (cc := cX8_stepsCome) (n := 7) (ret := none) (by decide +kernel) rfl (Nat.le_of_ble_eq_true rfl) ?_
  intro p_ e_ s_ m_ bl_ me_ cd_ A_ ls X Y hr hlk hl
  have hx := X.1.1
  have hb := X.1.2.1
  have hl : lv_has ls 7 [(0, .ref mM), (1, .int 1)] := hl
  unfold s_stepsCome8_11 at hu
  refine lv_iconst (v := 0) hx hb dX8_stepsCome_0 (by decide) ?_
  refine lv_istore_n (lv' := [(2, .int 0), (0, .ref mM), (1, .int 1)]) hx hb dX8_stepsCome_1 rfl hl (by decide) rfl (fun ls hl => ?_)
  refine lv_aload_n hx hb dX8_stepsCome_2 rfl (lv_at hl 1 rfl) ?_
  refine lv_iload_n hx hb dX8_stepsCome_3 rfl (lv_at hl 2 rfl) ?_
  refine lv_bipush (v := 8) hx hb dX8_stepsCome_4 (by decide) ?_
  refine bVI0 (As := [.int 1, .int 8]) (rest := []) (wc := [(mM, .inr (8, [.ref mN, .ref mR, .ref mA, .ref mP, .int ch, .ref mT, .int le, .int sp, .ref mD])), (mN, .inl (cyI, 515, .inl nw))]) (ci := 8) (q0 := 0) X Y (c_of8 l D cyC cyI mM mN mR mA mP mT mD ch le sp nw 1 8 1 (bOf (i := 28) (by decide) hk) (bInD (by decide))) gX8_stepsCome_X8_of rfl ⟨rfl, rfl⟩ hd_X8_of ⟨(Nat.le_of_ble_eq_true rfl), (Nat.le_of_ble_eq_true rfl)⟩ rfl rfl rfl [0, 1] rfl rfl rfl rfl hl.1 (Nat.le_of_ble_eq_true rfl) ⟨Nat.zero_le _, Nat.zero_le _⟩ dX8_stepsCome_6 (fun H locs Y => ?_)
  refine lv_istore_n (lv' := [(3, .int 1), (2, .int 0), (0, .ref mM), (1, .int 1)]) hx hb dX8_stepsCome_9 rfl hl (by decide) rfl (fun ls hl => ?_)
  refine lv_iconst (v := 0) hx hb dX8_stepsCome_10 (by decide) ?_
  refine lv_istore (lv' := [(4, .int 0), (3, .int 1), (2, .int 0), (0, .ref mM), (1, .int 1)]) hx hb dX8_stepsCome_11 hl (by decide) rfl (fun ls hl => ?_)
  refine lv_iload hx hb dX8_stepsCome_13 (lv_at hl 0 rfl) ?_
  refine lv_iload_n hx hb dX8_stepsCome_15 rfl (lv_at hl 1 rfl) ?_
  refine lv_icmp_ge (tgt := 118) hx hb dX8_stepsCome_16 (by decide) (fun c_ => absurd c_ (by decide)) (fun _ => ?_)
  refine lv_aload_n hx hb dX8_stepsCome_19 rfl (lv_at hl 3 rfl) ?_
  refine lv_iload_n hx hb dX8_stepsCome_20 rfl (lv_at hl 4 rfl) ?_
  refine lv_bipush (v := 9) hx hb dX8_stepsCome_21 (by decide) ?_
  refine lv_iconst (v := 2) hx hb dX8_stepsCome_23 (by decide) ?_
  refine lv_iload hx hb dX8_stepsCome_24 (lv_at hl 0 rfl) ?_
  refine bMul (v := 0) X dX8_stepsCome_26 (by decide) ?_
  refine bAdd (v := 9) X dX8_stepsCome_27 (by decide) ?_
  refine bVI0 (As := [.int 1, .int 9]) (rest := []) (wc := [(mM, .inr (8, [.ref mN, .ref mR, .ref mA, .ref mP, .int ch, .ref mT, .int le, .int sp, .ref mD])), (mN, .inl (cyI, 515, .inl nw))]) (ci := 8) (q0 := 0) X Y (c_of8 l D cyC cyI mM mN mR mA mP mT mD ch le sp nw 1 9 (nw 29) (bOf (i := 29) (by decide) rfl) (bInD (by decide))) gX8_stepsCome_X8_of rfl ⟨rfl, rfl⟩ hd_X8_of ⟨(Nat.le_of_ble_eq_true rfl), (Nat.le_of_ble_eq_true rfl)⟩ rfl rfl rfl [0, 1] rfl rfl rfl rfl hl.1 (Nat.le_of_ble_eq_true rfl) ⟨Nat.zero_le _, Nat.zero_le _⟩ dX8_stepsCome_28 (fun H locs Y => ?_)
  refine lv_istore (lv' := [(5, .int (nw 29)), (4, .int 0), (3, .int 1), (2, .int 0), (0, .ref mM), (1, .int 1)]) hx hb dX8_stepsCome_31 hl (by decide) rfl (fun ls hl => ?_)
  refine lv_aload_n hx hb dX8_stepsCome_33 rfl (lv_at hl 4 rfl) ?_
  refine lv_iload_n hx hb dX8_stepsCome_34 rfl (lv_at hl 5 rfl) ?_
  refine lv_bipush (v := 9) hx hb dX8_stepsCome_35 (by decide) ?_
  refine lv_iconst (v := 2) hx hb dX8_stepsCome_37 (by decide) ?_
  refine lv_iload hx hb dX8_stepsCome_38 (lv_at hl 1 rfl) ?_
  refine bMul (v := 0) X dX8_stepsCome_40 (by decide) ?_
  refine bAdd (v := 9) X dX8_stepsCome_41 (by decide) ?_
  refine lv_iconst (v := 1) hx hb dX8_stepsCome_42 (by decide) ?_
  refine bAdd (v := 10) X dX8_stepsCome_43 (by decide) ?_
  refine bVI0 (As := [.int 1, .int 10]) (rest := []) (wc := [(mM, .inr (8, [.ref mN, .ref mR, .ref mA, .ref mP, .int ch, .ref mT, .int le, .int sp, .ref mD])), (mN, .inl (cyI, 515, .inl nw))]) (ci := 8) (q0 := 0) X Y (c_of8 l D cyC cyI mM mN mR mA mP mT mD ch le sp nw 1 10 (nw 30) (bOf (i := 30) (by decide) rfl) (bInD (by decide))) gX8_stepsCome_X8_of rfl ⟨rfl, rfl⟩ hd_X8_of ⟨(Nat.le_of_ble_eq_true rfl), (Nat.le_of_ble_eq_true rfl)⟩ rfl rfl rfl [0, 1] rfl rfl rfl rfl hl.1 (Nat.le_of_ble_eq_true rfl) ⟨Nat.zero_le _, Nat.zero_le _⟩ dX8_stepsCome_44 (fun H locs Y => ?_)
  refine lv_istore (lv' := [(6, .int (nw 30)), (5, .int (nw 29)), (4, .int 0), (3, .int 1), (2, .int 0), (0, .ref mM), (1, .int 1)]) hx hb dX8_stepsCome_47 hl (by decide) rfl (fun ls hl => ?_)
  refine lv_iload hx hb dX8_stepsCome_49 (lv_at hl 1 rfl) ?_
  refine lv_aload_n hx hb dX8_stepsCome_51 rfl (lv_at hl 5 rfl) ?_
  refine bGet (v := .ref mN) (T := TX8) (N := 9) (ci := 8) X Y i_X8_stepsCome_X8 0 rfl rfl 0 (Nat.le_of_ble_eq_true rfl) f_X8_stepsCome_7 rfl rfl dX8_stepsCome_52 ?_
  refine lv_bipush (v := 6) hx hb dX8_stepsCome_55 (by decide) ?_
  refine bIald (v := nw 6) X Y 1 rfl (bInD (by decide)) dX8_stepsCome_57 rfl ?_
  refine lv_icmp_ne (tgt := 81) hx hb dX8_stepsCome_58 (by decide) (fun c_1 => ?_) (fun c_1 => ?_)
  · have c_1 : ¬ ((nw 29) = (nw 6)) := c_1
    rw [if_neg c_1] at hu
    refine lv_aload_n hx hb dX8_stepsCome_81 rfl (lv_at hl 5 rfl) ?_
    refine lv_iload_n hx hb dX8_stepsCome_82 rfl (lv_at hl 6 rfl) ?_
    refine lv_bipush (v := 9) hx hb dX8_stepsCome_83 (by decide) ?_
    refine lv_iconst (v := 2) hx hb dX8_stepsCome_85 (by decide) ?_
    refine lv_iload_n hx hb dX8_stepsCome_86 rfl (lv_at hl 4 rfl) ?_
    refine bMul (v := 0) X dX8_stepsCome_87 (by decide) ?_
    refine bAdd (v := 9) X dX8_stepsCome_88 (by decide) ?_
    refine lv_iload hx hb dX8_stepsCome_89 (lv_at hl 1 rfl) ?_
    refine bVV (As := [.int 1, .int 9, .int (nw 29)]) (rest := []) (wc := [(mM, .inr (8, [.ref mN, .ref mR, .ref mA, .ref mP, .int ch, .ref mT, .int le, .int sp, .ref mD])), (mN, .inl (cyI, 515, .inl nw))]) (w1 := [(mM, .inr (8, [.ref mN, .ref mR, .ref mA, .ref mP, .int ch, .ref mT, .int le, .int sp, .ref mD])), (mN, .inl (cyI, 515, .inl (upd nw 29 (nw 29))))]) (ws' := [(mM, .inr (8, [.ref mN, .ref mR, .ref mA, .ref mP, .int ch, .ref mT, .int le, .int sp, .ref mD])), (mN, .inl (cyI, 515, .inl (upd nw 29 (nw 29))))]) (ad := [mM, mN]) (wr := []) (nn := 2) (ci := 8) (q0 := 0) X Y (c_tells8 l D cyC cyI mM mN mR mA mP mT mD ch le sp nw 1 9 (nw 29) (upd nw 29 (nw 29)) (bTells (i := 29) (by decide) rfl) (bInD (by decide))) gX8_stepsCome_X8_tells rfl ⟨rfl, rfl⟩ hd_X8_tells ⟨(Nat.le_of_ble_eq_true rfl), (Nat.le_of_ble_eq_true rfl)⟩ rfl rfl rfl [0, 1] [] rfl rfl rfl rfl rfl rfl rfl rfl (by decide) rfl rfl hl.1 (Nat.le_of_ble_eq_true rfl) ⟨Nat.zero_le _, Nat.zero_le _⟩ dX8_stepsCome_91 (fun H locs Y => ?_)
    refine lv_aload_n hx hb dX8_stepsCome_94 rfl (lv_at hl 5 rfl) ?_
    refine lv_iload_n hx hb dX8_stepsCome_95 rfl (lv_at hl 6 rfl) ?_
    refine lv_bipush (v := 9) hx hb dX8_stepsCome_96 (by decide) ?_
    refine lv_iconst (v := 2) hx hb dX8_stepsCome_98 (by decide) ?_
    refine lv_iload_n hx hb dX8_stepsCome_99 rfl (lv_at hl 4 rfl) ?_
    refine bMul (v := 0) X dX8_stepsCome_100 (by decide) ?_
    refine bAdd (v := 9) X dX8_stepsCome_101 (by decide) ?_
    refine lv_iconst (v := 1) hx hb dX8_stepsCome_102 (by decide) ?_
    refine bAdd (v := 10) X dX8_stepsCome_103 (by decide) ?_
    refine lv_iload hx hb dX8_stepsCome_104 (lv_at hl 0 rfl) ?_
    refine bVV (As := [.int 1, .int 10, .int (nw 30)]) (rest := []) (wc := [(mM, .inr (8, [.ref mN, .ref mR, .ref mA, .ref mP, .int ch, .ref mT, .int le, .int sp, .ref mD])), (mN, .inl (cyI, 515, .inl (upd nw 29 (nw 29))))]) (w1 := [(mM, .inr (8, [.ref mN, .ref mR, .ref mA, .ref mP, .int ch, .ref mT, .int le, .int sp, .ref mD])), (mN, .inl (cyI, 515, .inl (upd (upd nw 29 (nw 29)) 30 (nw 30))))]) (ws' := [(mM, .inr (8, [.ref mN, .ref mR, .ref mA, .ref mP, .int ch, .ref mT, .int le, .int sp, .ref mD])), (mN, .inl (cyI, 515, .inl (upd (upd nw 29 (nw 29)) 30 (nw 30))))]) (ad := [mM, mN]) (wr := []) (nn := 2) (ci := 8) (q0 := 0) X Y (c_tells8 l D cyC cyI mM mN mR mA mP mT mD ch le sp (upd nw 29 (nw 29)) 1 10 (nw 30) (upd (upd nw 29 (nw 29)) 30 (nw 30)) (bTells (i := 30) (by decide) rfl) (bInD (by decide))) gX8_stepsCome_X8_tells rfl ⟨rfl, rfl⟩ hd_X8_tells ⟨(Nat.le_of_ble_eq_true rfl), (Nat.le_of_ble_eq_true rfl)⟩ rfl rfl rfl [0, 1] [] rfl rfl rfl rfl rfl rfl rfl rfl (by decide) rfl rfl hl.1 (Nat.le_of_ble_eq_true rfl) ⟨Nat.zero_le _, Nat.zero_le _⟩ dX8_stepsCome_106 (fun H locs Y => ?_)
    refine lv_iinc (v := 1) (lv' := [(2, .int 1), (6, .int (nw 30)), (5, .int (nw 29)), (4, .int 0), (3, .int 1), (0, .ref mM), (1, .int 1)]) hx hb dX8_stepsCome_109 hl (k := 4) rfl (by decide) (by decide) rfl (fun ls hl => ?_)
    refine lv_iinc (v := 1) (lv' := [(4, .int 1), (2, .int 1), (6, .int (nw 30)), (5, .int (nw 29)), (3, .int 1), (0, .ref mM), (1, .int 1)]) hx hb dX8_stepsCome_112 hl (k := 3) rfl (by decide) (by decide) rfl (fun ls hl => ?_)
    refine lv_goto (tgt := 13) hx hb dX8_stepsCome_115 (by decide) ?_
    refine lv_iload hx hb dX8_stepsCome_13 (lv_at hl 0 rfl) ?_
    refine lv_iload_n hx hb dX8_stepsCome_15 rfl (lv_at hl 4 rfl) ?_
    refine lv_icmp_ge (tgt := 118) hx hb dX8_stepsCome_16 (by decide) (fun _ => ?_) (fun c_ => absurd (by decide) c_)
    refine lv_aload_n hx hb dX8_stepsCome_118 rfl (lv_at hl 5 rfl) ?_
    refine lv_iload_n hx hb dX8_stepsCome_119 rfl (lv_at hl 6 rfl) ?_
    refine lv_bipush (v := 8) hx hb dX8_stepsCome_120 (by decide) ?_
    refine lv_iload_n hx hb dX8_stepsCome_122 rfl (lv_at hl 1 rfl) ?_
    refine bVV (As := [.int 1, .int 8, .int 1]) (rest := []) (wc := [(mM, .inr (8, [.ref mN, .ref mR, .ref mA, .ref mP, .int ch, .ref mT, .int le, .int sp, .ref mD])), (mN, .inl (cyI, 515, .inl (upd (upd nw 29 (nw 29)) 30 (nw 30))))]) (w1 := [(mM, .inr (8, [.ref mN, .ref mR, .ref mA, .ref mP, .int ch, .ref mT, .int le, .int sp, .ref mD])), (mN, .inl (cyI, 515, .inl (upd (upd (upd nw 29 (nw 29)) 30 (nw 30)) 28 1)))]) (ws' := [(mM, .inr (8, [.ref mN, .ref mR, .ref mA, .ref mP, .int ch, .ref mT, .int le, .int sp, .ref mD])), (mN, .inl (cyI, 515, .inl (upd (upd (upd nw 29 (nw 29)) 30 (nw 30)) 28 1)))]) (ad := [mM, mN]) (wr := []) (nn := 2) (ci := 8) (q0 := 0) X Y (c_tells8 l D cyC cyI mM mN mR mA mP mT mD ch le sp (upd (upd nw 29 (nw 29)) 30 (nw 30)) 1 8 1 (upd (upd (upd nw 29 (nw 29)) 30 (nw 30)) 28 1) (bTells (i := 28) (by decide) rfl) (bInD (by decide))) gX8_stepsCome_X8_tells rfl ⟨rfl, rfl⟩ hd_X8_tells ⟨(Nat.le_of_ble_eq_true rfl), (Nat.le_of_ble_eq_true rfl)⟩ rfl rfl rfl [0, 1] [] rfl rfl rfl rfl rfl rfl rfl rfl (by decide) rfl rfl hl.1 (Nat.le_of_ble_eq_true rfl) ⟨Nat.zero_le _, Nat.zero_le _⟩ dX8_stepsCome_123 (fun H locs Y => ?_)
    refine lv_iconst (v := 2) hx hb dX8_stepsCome_126 (by decide) ?_
    refine lv_iload_n hx hb dX8_stepsCome_127 rfl (lv_at hl 1 rfl) ?_
    refine bMul (v := 2) X dX8_stepsCome_128 (by decide) ?_
    refine lv_istore (lv' := [(4, .int 2), (2, .int 1), (6, .int (nw 30)), (5, .int (nw 29)), (3, .int 1), (0, .ref mM), (1, .int 1)]) hx hb dX8_stepsCome_129 hl (by decide) rfl (fun ls hl => ?_)
    refine lv_iload hx hb dX8_stepsCome_131 (lv_at hl 0 rfl) ?_
    refine lv_iconst (v := 4) hx hb dX8_stepsCome_133 (by decide) ?_
    refine lv_icmp_ge (tgt := 154) hx hb dX8_stepsCome_134 (by decide) (fun c_ => absurd c_ (by decide)) (fun _ => ?_)
    refine lv_aload_n hx hb dX8_stepsCome_137 rfl (lv_at hl 5 rfl) ?_
    refine lv_iload_n hx hb dX8_stepsCome_138 rfl (lv_at hl 6 rfl) ?_
    refine lv_bipush (v := 9) hx hb dX8_stepsCome_139 (by decide) ?_
    refine lv_iload hx hb dX8_stepsCome_141 (lv_at hl 0 rfl) ?_
    refine bAdd (v := 11) X dX8_stepsCome_143 (by decide) ?_
    refine lv_iconst (v := 0) hx hb dX8_stepsCome_144 (by decide) ?_
    refine bVV (As := [.int 1, .int 11, .int 0]) (rest := []) (wc := [(mM, .inr (8, [.ref mN, .ref mR, .ref mA, .ref mP, .int ch, .ref mT, .int le, .int sp, .ref mD])), (mN, .inl (cyI, 515, .inl (upd (upd (upd nw 29 (nw 29)) 30 (nw 30)) 28 1)))]) (w1 := [(mM, .inr (8, [.ref mN, .ref mR, .ref mA, .ref mP, .int ch, .ref mT, .int le, .int sp, .ref mD])), (mN, .inl (cyI, 515, .inl (upd (upd (upd (upd nw 29 (nw 29)) 30 (nw 30)) 28 1) 31 0)))]) (ws' := [(mM, .inr (8, [.ref mN, .ref mR, .ref mA, .ref mP, .int ch, .ref mT, .int le, .int sp, .ref mD])), (mN, .inl (cyI, 515, .inl (upd (upd (upd (upd nw 29 (nw 29)) 30 (nw 30)) 28 1) 31 0)))]) (ad := [mM, mN]) (wr := []) (nn := 2) (ci := 8) (q0 := 0) X Y (c_tells8 l D cyC cyI mM mN mR mA mP mT mD ch le sp (upd (upd (upd nw 29 (nw 29)) 30 (nw 30)) 28 1) 1 11 0 (upd (upd (upd (upd nw 29 (nw 29)) 30 (nw 30)) 28 1) 31 0) (bTells (i := 31) (by decide) rfl) (bInD (by decide))) gX8_stepsCome_X8_tells rfl ⟨rfl, rfl⟩ hd_X8_tells ⟨(Nat.le_of_ble_eq_true rfl), (Nat.le_of_ble_eq_true rfl)⟩ rfl rfl rfl [0, 1] [] rfl rfl rfl rfl rfl rfl rfl rfl (by decide) rfl rfl hl.1 (Nat.le_of_ble_eq_true rfl) ⟨Nat.zero_le _, Nat.zero_le _⟩ dX8_stepsCome_145 (fun H locs Y => ?_)
    refine lv_iinc (v := 3) (lv' := [(4, .int 3), (2, .int 1), (6, .int (nw 30)), (5, .int (nw 29)), (3, .int 1), (0, .ref mM), (1, .int 1)]) hx hb dX8_stepsCome_148 hl (k := 0) rfl (by decide) (by decide) rfl (fun ls hl => ?_)
    refine lv_goto (tgt := 131) hx hb dX8_stepsCome_151 (by decide) ?_
    refine lv_iload hx hb dX8_stepsCome_131 (lv_at hl 0 rfl) ?_
    refine lv_iconst (v := 4) hx hb dX8_stepsCome_133 (by decide) ?_
    refine lv_icmp_ge (tgt := 154) hx hb dX8_stepsCome_134 (by decide) (fun c_ => absurd c_ (by decide)) (fun _ => ?_)
    refine lv_aload_n hx hb dX8_stepsCome_137 rfl (lv_at hl 5 rfl) ?_
    refine lv_iload_n hx hb dX8_stepsCome_138 rfl (lv_at hl 6 rfl) ?_
    refine lv_bipush (v := 9) hx hb dX8_stepsCome_139 (by decide) ?_
    refine lv_iload hx hb dX8_stepsCome_141 (lv_at hl 0 rfl) ?_
    refine bAdd (v := 12) X dX8_stepsCome_143 (by decide) ?_
    refine lv_iconst (v := 0) hx hb dX8_stepsCome_144 (by decide) ?_
    refine bVV (As := [.int 1, .int 12, .int 0]) (rest := []) (wc := [(mM, .inr (8, [.ref mN, .ref mR, .ref mA, .ref mP, .int ch, .ref mT, .int le, .int sp, .ref mD])), (mN, .inl (cyI, 515, .inl (upd (upd (upd (upd nw 29 (nw 29)) 30 (nw 30)) 28 1) 31 0)))]) (w1 := [(mM, .inr (8, [.ref mN, .ref mR, .ref mA, .ref mP, .int ch, .ref mT, .int le, .int sp, .ref mD])), (mN, .inl (cyI, 515, .inl (upd (upd (upd (upd (upd nw 29 (nw 29)) 30 (nw 30)) 28 1) 31 0) 32 0)))]) (ws' := [(mM, .inr (8, [.ref mN, .ref mR, .ref mA, .ref mP, .int ch, .ref mT, .int le, .int sp, .ref mD])), (mN, .inl (cyI, 515, .inl (upd (upd (upd (upd (upd nw 29 (nw 29)) 30 (nw 30)) 28 1) 31 0) 32 0)))]) (ad := [mM, mN]) (wr := []) (nn := 2) (ci := 8) (q0 := 0) X Y (c_tells8 l D cyC cyI mM mN mR mA mP mT mD ch le sp (upd (upd (upd (upd nw 29 (nw 29)) 30 (nw 30)) 28 1) 31 0) 1 12 0 (upd (upd (upd (upd (upd nw 29 (nw 29)) 30 (nw 30)) 28 1) 31 0) 32 0) (bTells (i := 32) (by decide) rfl) (bInD (by decide))) gX8_stepsCome_X8_tells rfl ⟨rfl, rfl⟩ hd_X8_tells ⟨(Nat.le_of_ble_eq_true rfl), (Nat.le_of_ble_eq_true rfl)⟩ rfl rfl rfl [0, 1] [] rfl rfl rfl rfl rfl rfl rfl rfl (by decide) rfl rfl hl.1 (Nat.le_of_ble_eq_true rfl) ⟨Nat.zero_le _, Nat.zero_le _⟩ dX8_stepsCome_145 (fun H locs Y => ?_)
    refine lv_iinc (v := 4) (lv' := [(4, .int 4), (2, .int 1), (6, .int (nw 30)), (5, .int (nw 29)), (3, .int 1), (0, .ref mM), (1, .int 1)]) hx hb dX8_stepsCome_148 hl (k := 0) rfl (by decide) (by decide) rfl (fun ls hl => ?_)
    refine lv_goto (tgt := 131) hx hb dX8_stepsCome_151 (by decide) ?_
    refine lv_iload hx hb dX8_stepsCome_131 (lv_at hl 0 rfl) ?_
    refine lv_iconst (v := 4) hx hb dX8_stepsCome_133 (by decide) ?_
    refine lv_icmp_ge (tgt := 154) hx hb dX8_stepsCome_134 (by decide) (fun _ => ?_) (fun c_ => absurd (by decide) c_)
    have h9 := (Prod.mk.inj hu).1
    subst h9
    exact bEndV X Y hr hlk dX8_stepsCome_154 rfl
  · have c_1 : (nw 29) = (nw 6) := c_1
    rw [if_pos c_1] at hu
    refine lv_aload_n hx hb dX8_stepsCome_61 rfl (lv_at hl 5 rfl) ?_
    refine lv_iload_n hx hb dX8_stepsCome_62 rfl (lv_at hl 6 rfl) ?_
    refine lv_bipush (v := 6) hx hb dX8_stepsCome_63 (by decide) ?_
    refine lv_aload_n hx hb dX8_stepsCome_65 rfl (lv_at hl 5 rfl) ?_
    refine lv_iload_n hx hb dX8_stepsCome_66 rfl (lv_at hl 6 rfl) ?_
    refine lv_bipush (v := 6) hx hb dX8_stepsCome_67 (by decide) ?_
    refine bVI0 (As := [.int 1, .int 6]) (rest := [.int 6, .int 1, .ref mM]) (wc := [(mM, .inr (8, [.ref mN, .ref mR, .ref mA, .ref mP, .int ch, .ref mT, .int le, .int sp, .ref mD])), (mN, .inl (cyI, 515, .inl nw))]) (ci := 8) (q0 := 0) X Y (c_of8 l D cyC cyI mM mN mR mA mP mT mD ch le sp nw 1 6 (nw 26) (bOf (i := 26) (by decide) rfl) (bInD (by decide))) gX8_stepsCome_X8_of rfl ⟨rfl, rfl⟩ hd_X8_of ⟨(Nat.le_of_ble_eq_true rfl), (Nat.le_of_ble_eq_true rfl)⟩ rfl rfl rfl [0, 1] rfl rfl rfl rfl hl.1 (Nat.le_of_ble_eq_true rfl) ⟨Nat.zero_le _, Nat.zero_le _⟩ dX8_stepsCome_69 (fun H locs Y => ?_)
    refine lv_iload hx hb dX8_stepsCome_72 (lv_at hl 0 rfl) ?_
    refine bAdd (v := (nw 26) + (nw 30)) X dX8_stepsCome_74 rfl ?_
    refine bVV (As := [.int 1, .int 6, .int ((nw 26) + (nw 30))]) (rest := []) (wc := [(mM, .inr (8, [.ref mN, .ref mR, .ref mA, .ref mP, .int ch, .ref mT, .int le, .int sp, .ref mD])), (mN, .inl (cyI, 515, .inl nw))]) (w1 := [(mM, .inr (8, [.ref mN, .ref mR, .ref mA, .ref mP, .int ch, .ref mT, .int le, .int sp, .ref mD])), (mN, .inl (cyI, 515, .inl (upd nw 26 ((nw 26) + (nw 30)))))]) (ws' := [(mM, .inr (8, [.ref mN, .ref mR, .ref mA, .ref mP, .int ch, .ref mT, .int le, .int sp, .ref mD])), (mN, .inl (cyI, 515, .inl (upd nw 26 ((nw 26) + (nw 30)))))]) (ad := [mM, mN]) (wr := []) (nn := 2) (ci := 8) (q0 := 0) X Y (c_tells8 l D cyC cyI mM mN mR mA mP mT mD ch le sp nw 1 6 ((nw 26) + (nw 30)) (upd nw 26 ((nw 26) + (nw 30))) (bTells (i := 26) (by decide) rfl) (bInD (by decide))) gX8_stepsCome_X8_tells rfl ⟨rfl, rfl⟩ hd_X8_tells ⟨(Nat.le_of_ble_eq_true rfl), (Nat.le_of_ble_eq_true rfl)⟩ rfl rfl rfl [0, 1] [] rfl rfl rfl rfl rfl rfl rfl rfl (by decide) rfl rfl hl.1 (Nat.le_of_ble_eq_true rfl) ⟨Nat.zero_le _, Nat.zero_le _⟩ dX8_stepsCome_75 (fun H locs Y => ?_)
    refine lv_goto (tgt := 112) hx hb dX8_stepsCome_78 (by decide) ?_
    refine lv_iinc (v := 1) (lv' := [(4, .int 1), (6, .int (nw 30)), (5, .int (nw 29)), (3, .int 1), (2, .int 0), (0, .ref mM), (1, .int 1)]) hx hb dX8_stepsCome_112 hl (k := 2) rfl (by decide) (by decide) rfl (fun ls hl => ?_)
    refine lv_goto (tgt := 13) hx hb dX8_stepsCome_115 (by decide) ?_
    refine lv_iload hx hb dX8_stepsCome_13 (lv_at hl 0 rfl) ?_
    refine lv_iload_n hx hb dX8_stepsCome_15 rfl (lv_at hl 3 rfl) ?_
    refine lv_icmp_ge (tgt := 118) hx hb dX8_stepsCome_16 (by decide) (fun _ => ?_) (fun c_ => absurd (by decide) c_)
    refine lv_aload_n hx hb dX8_stepsCome_118 rfl (lv_at hl 5 rfl) ?_
    refine lv_iload_n hx hb dX8_stepsCome_119 rfl (lv_at hl 6 rfl) ?_
    refine lv_bipush (v := 8) hx hb dX8_stepsCome_120 (by decide) ?_
    refine lv_iload_n hx hb dX8_stepsCome_122 rfl (lv_at hl 4 rfl) ?_
    refine bVV (As := [.int 1, .int 8, .int 0]) (rest := []) (wc := [(mM, .inr (8, [.ref mN, .ref mR, .ref mA, .ref mP, .int ch, .ref mT, .int le, .int sp, .ref mD])), (mN, .inl (cyI, 515, .inl (upd nw 26 ((nw 26) + (nw 30)))))]) (w1 := [(mM, .inr (8, [.ref mN, .ref mR, .ref mA, .ref mP, .int ch, .ref mT, .int le, .int sp, .ref mD])), (mN, .inl (cyI, 515, .inl (upd (upd nw 26 ((nw 26) + (nw 30))) 28 0)))]) (ws' := [(mM, .inr (8, [.ref mN, .ref mR, .ref mA, .ref mP, .int ch, .ref mT, .int le, .int sp, .ref mD])), (mN, .inl (cyI, 515, .inl (upd (upd nw 26 ((nw 26) + (nw 30))) 28 0)))]) (ad := [mM, mN]) (wr := []) (nn := 2) (ci := 8) (q0 := 0) X Y (c_tells8 l D cyC cyI mM mN mR mA mP mT mD ch le sp (upd nw 26 ((nw 26) + (nw 30))) 1 8 0 (upd (upd nw 26 ((nw 26) + (nw 30))) 28 0) (bTells (i := 28) (by decide) rfl) (bInD (by decide))) gX8_stepsCome_X8_tells rfl ⟨rfl, rfl⟩ hd_X8_tells ⟨(Nat.le_of_ble_eq_true rfl), (Nat.le_of_ble_eq_true rfl)⟩ rfl rfl rfl [0, 1] [] rfl rfl rfl rfl rfl rfl rfl rfl (by decide) rfl rfl hl.1 (Nat.le_of_ble_eq_true rfl) ⟨Nat.zero_le _, Nat.zero_le _⟩ dX8_stepsCome_123 (fun H locs Y => ?_)
    refine lv_iconst (v := 2) hx hb dX8_stepsCome_126 (by decide) ?_
    refine lv_iload_n hx hb dX8_stepsCome_127 rfl (lv_at hl 4 rfl) ?_
    refine bMul (v := 0) X dX8_stepsCome_128 (by decide) ?_
    refine lv_istore (lv' := [(4, .int 0), (6, .int (nw 30)), (5, .int (nw 29)), (3, .int 1), (2, .int 0), (0, .ref mM), (1, .int 1)]) hx hb dX8_stepsCome_129 hl (by decide) rfl (fun ls hl => ?_)
    refine lv_iload hx hb dX8_stepsCome_131 (lv_at hl 0 rfl) ?_
    refine lv_iconst (v := 4) hx hb dX8_stepsCome_133 (by decide) ?_
    refine lv_icmp_ge (tgt := 154) hx hb dX8_stepsCome_134 (by decide) (fun c_ => absurd c_ (by decide)) (fun _ => ?_)
    refine lv_aload_n hx hb dX8_stepsCome_137 rfl (lv_at hl 5 rfl) ?_
    refine lv_iload_n hx hb dX8_stepsCome_138 rfl (lv_at hl 6 rfl) ?_
    refine lv_bipush (v := 9) hx hb dX8_stepsCome_139 (by decide) ?_
    refine lv_iload hx hb dX8_stepsCome_141 (lv_at hl 0 rfl) ?_
    refine bAdd (v := 9) X dX8_stepsCome_143 (by decide) ?_
    refine lv_iconst (v := 0) hx hb dX8_stepsCome_144 (by decide) ?_
    refine bVV (As := [.int 1, .int 9, .int 0]) (rest := []) (wc := [(mM, .inr (8, [.ref mN, .ref mR, .ref mA, .ref mP, .int ch, .ref mT, .int le, .int sp, .ref mD])), (mN, .inl (cyI, 515, .inl (upd (upd nw 26 ((nw 26) + (nw 30))) 28 0)))]) (w1 := [(mM, .inr (8, [.ref mN, .ref mR, .ref mA, .ref mP, .int ch, .ref mT, .int le, .int sp, .ref mD])), (mN, .inl (cyI, 515, .inl (upd (upd (upd nw 26 ((nw 26) + (nw 30))) 28 0) 29 0)))]) (ws' := [(mM, .inr (8, [.ref mN, .ref mR, .ref mA, .ref mP, .int ch, .ref mT, .int le, .int sp, .ref mD])), (mN, .inl (cyI, 515, .inl (upd (upd (upd nw 26 ((nw 26) + (nw 30))) 28 0) 29 0)))]) (ad := [mM, mN]) (wr := []) (nn := 2) (ci := 8) (q0 := 0) X Y (c_tells8 l D cyC cyI mM mN mR mA mP mT mD ch le sp (upd (upd nw 26 ((nw 26) + (nw 30))) 28 0) 1 9 0 (upd (upd (upd nw 26 ((nw 26) + (nw 30))) 28 0) 29 0) (bTells (i := 29) (by decide) rfl) (bInD (by decide))) gX8_stepsCome_X8_tells rfl ⟨rfl, rfl⟩ hd_X8_tells ⟨(Nat.le_of_ble_eq_true rfl), (Nat.le_of_ble_eq_true rfl)⟩ rfl rfl rfl [0, 1] [] rfl rfl rfl rfl rfl rfl rfl rfl (by decide) rfl rfl hl.1 (Nat.le_of_ble_eq_true rfl) ⟨Nat.zero_le _, Nat.zero_le _⟩ dX8_stepsCome_145 (fun H locs Y => ?_)
    refine lv_iinc (v := 1) (lv' := [(4, .int 1), (6, .int (nw 30)), (5, .int (nw 29)), (3, .int 1), (2, .int 0), (0, .ref mM), (1, .int 1)]) hx hb dX8_stepsCome_148 hl (k := 0) rfl (by decide) (by decide) rfl (fun ls hl => ?_)
    refine lv_goto (tgt := 131) hx hb dX8_stepsCome_151 (by decide) ?_
    refine lv_iload hx hb dX8_stepsCome_131 (lv_at hl 0 rfl) ?_
    refine lv_iconst (v := 4) hx hb dX8_stepsCome_133 (by decide) ?_
    refine lv_icmp_ge (tgt := 154) hx hb dX8_stepsCome_134 (by decide) (fun c_ => absurd c_ (by decide)) (fun _ => ?_)
    refine lv_aload_n hx hb dX8_stepsCome_137 rfl (lv_at hl 5 rfl) ?_
    refine lv_iload_n hx hb dX8_stepsCome_138 rfl (lv_at hl 6 rfl) ?_
    refine lv_bipush (v := 9) hx hb dX8_stepsCome_139 (by decide) ?_
    refine lv_iload hx hb dX8_stepsCome_141 (lv_at hl 0 rfl) ?_
    refine bAdd (v := 10) X dX8_stepsCome_143 (by decide) ?_
    refine lv_iconst (v := 0) hx hb dX8_stepsCome_144 (by decide) ?_
    refine bVV (As := [.int 1, .int 10, .int 0]) (rest := []) (wc := [(mM, .inr (8, [.ref mN, .ref mR, .ref mA, .ref mP, .int ch, .ref mT, .int le, .int sp, .ref mD])), (mN, .inl (cyI, 515, .inl (upd (upd (upd nw 26 ((nw 26) + (nw 30))) 28 0) 29 0)))]) (w1 := [(mM, .inr (8, [.ref mN, .ref mR, .ref mA, .ref mP, .int ch, .ref mT, .int le, .int sp, .ref mD])), (mN, .inl (cyI, 515, .inl (upd (upd (upd (upd nw 26 ((nw 26) + (nw 30))) 28 0) 29 0) 30 0)))]) (ws' := [(mM, .inr (8, [.ref mN, .ref mR, .ref mA, .ref mP, .int ch, .ref mT, .int le, .int sp, .ref mD])), (mN, .inl (cyI, 515, .inl (upd (upd (upd (upd nw 26 ((nw 26) + (nw 30))) 28 0) 29 0) 30 0)))]) (ad := [mM, mN]) (wr := []) (nn := 2) (ci := 8) (q0 := 0) X Y (c_tells8 l D cyC cyI mM mN mR mA mP mT mD ch le sp (upd (upd (upd nw 26 ((nw 26) + (nw 30))) 28 0) 29 0) 1 10 0 (upd (upd (upd (upd nw 26 ((nw 26) + (nw 30))) 28 0) 29 0) 30 0) (bTells (i := 30) (by decide) rfl) (bInD (by decide))) gX8_stepsCome_X8_tells rfl ⟨rfl, rfl⟩ hd_X8_tells ⟨(Nat.le_of_ble_eq_true rfl), (Nat.le_of_ble_eq_true rfl)⟩ rfl rfl rfl [0, 1] [] rfl rfl rfl rfl rfl rfl rfl rfl (by decide) rfl rfl hl.1 (Nat.le_of_ble_eq_true rfl) ⟨Nat.zero_le _, Nat.zero_le _⟩ dX8_stepsCome_145 (fun H locs Y => ?_)
    refine lv_iinc (v := 2) (lv' := [(4, .int 2), (6, .int (nw 30)), (5, .int (nw 29)), (3, .int 1), (2, .int 0), (0, .ref mM), (1, .int 1)]) hx hb dX8_stepsCome_148 hl (k := 0) rfl (by decide) (by decide) rfl (fun ls hl => ?_)
    refine lv_goto (tgt := 131) hx hb dX8_stepsCome_151 (by decide) ?_
    refine lv_iload hx hb dX8_stepsCome_131 (lv_at hl 0 rfl) ?_
    refine lv_iconst (v := 4) hx hb dX8_stepsCome_133 (by decide) ?_
    refine lv_icmp_ge (tgt := 154) hx hb dX8_stepsCome_134 (by decide) (fun c_ => absurd c_ (by decide)) (fun _ => ?_)
    refine lv_aload_n hx hb dX8_stepsCome_137 rfl (lv_at hl 5 rfl) ?_
    refine lv_iload_n hx hb dX8_stepsCome_138 rfl (lv_at hl 6 rfl) ?_
    refine lv_bipush (v := 9) hx hb dX8_stepsCome_139 (by decide) ?_
    refine lv_iload hx hb dX8_stepsCome_141 (lv_at hl 0 rfl) ?_
    refine bAdd (v := 11) X dX8_stepsCome_143 (by decide) ?_
    refine lv_iconst (v := 0) hx hb dX8_stepsCome_144 (by decide) ?_
    refine bVV (As := [.int 1, .int 11, .int 0]) (rest := []) (wc := [(mM, .inr (8, [.ref mN, .ref mR, .ref mA, .ref mP, .int ch, .ref mT, .int le, .int sp, .ref mD])), (mN, .inl (cyI, 515, .inl (upd (upd (upd (upd nw 26 ((nw 26) + (nw 30))) 28 0) 29 0) 30 0)))]) (w1 := [(mM, .inr (8, [.ref mN, .ref mR, .ref mA, .ref mP, .int ch, .ref mT, .int le, .int sp, .ref mD])), (mN, .inl (cyI, 515, .inl (upd (upd (upd (upd (upd nw 26 ((nw 26) + (nw 30))) 28 0) 29 0) 30 0) 31 0)))]) (ws' := [(mM, .inr (8, [.ref mN, .ref mR, .ref mA, .ref mP, .int ch, .ref mT, .int le, .int sp, .ref mD])), (mN, .inl (cyI, 515, .inl (upd (upd (upd (upd (upd nw 26 ((nw 26) + (nw 30))) 28 0) 29 0) 30 0) 31 0)))]) (ad := [mM, mN]) (wr := []) (nn := 2) (ci := 8) (q0 := 0) X Y (c_tells8 l D cyC cyI mM mN mR mA mP mT mD ch le sp (upd (upd (upd (upd nw 26 ((nw 26) + (nw 30))) 28 0) 29 0) 30 0) 1 11 0 (upd (upd (upd (upd (upd nw 26 ((nw 26) + (nw 30))) 28 0) 29 0) 30 0) 31 0) (bTells (i := 31) (by decide) rfl) (bInD (by decide))) gX8_stepsCome_X8_tells rfl ⟨rfl, rfl⟩ hd_X8_tells ⟨(Nat.le_of_ble_eq_true rfl), (Nat.le_of_ble_eq_true rfl)⟩ rfl rfl rfl [0, 1] [] rfl rfl rfl rfl rfl rfl rfl rfl (by decide) rfl rfl hl.1 (Nat.le_of_ble_eq_true rfl) ⟨Nat.zero_le _, Nat.zero_le _⟩ dX8_stepsCome_145 (fun H locs Y => ?_)
    refine lv_iinc (v := 3) (lv' := [(4, .int 3), (6, .int (nw 30)), (5, .int (nw 29)), (3, .int 1), (2, .int 0), (0, .ref mM), (1, .int 1)]) hx hb dX8_stepsCome_148 hl (k := 0) rfl (by decide) (by decide) rfl (fun ls hl => ?_)
    refine lv_goto (tgt := 131) hx hb dX8_stepsCome_151 (by decide) ?_
    refine lv_iload hx hb dX8_stepsCome_131 (lv_at hl 0 rfl) ?_
    refine lv_iconst (v := 4) hx hb dX8_stepsCome_133 (by decide) ?_
    refine lv_icmp_ge (tgt := 154) hx hb dX8_stepsCome_134 (by decide) (fun c_ => absurd c_ (by decide)) (fun _ => ?_)
    refine lv_aload_n hx hb dX8_stepsCome_137 rfl (lv_at hl 5 rfl) ?_
    refine lv_iload_n hx hb dX8_stepsCome_138 rfl (lv_at hl 6 rfl) ?_
    refine lv_bipush (v := 9) hx hb dX8_stepsCome_139 (by decide) ?_
    refine lv_iload hx hb dX8_stepsCome_141 (lv_at hl 0 rfl) ?_
    refine bAdd (v := 12) X dX8_stepsCome_143 (by decide) ?_
    refine lv_iconst (v := 0) hx hb dX8_stepsCome_144 (by decide) ?_
    refine bVV (As := [.int 1, .int 12, .int 0]) (rest := []) (wc := [(mM, .inr (8, [.ref mN, .ref mR, .ref mA, .ref mP, .int ch, .ref mT, .int le, .int sp, .ref mD])), (mN, .inl (cyI, 515, .inl (upd (upd (upd (upd (upd nw 26 ((nw 26) + (nw 30))) 28 0) 29 0) 30 0) 31 0)))]) (w1 := [(mM, .inr (8, [.ref mN, .ref mR, .ref mA, .ref mP, .int ch, .ref mT, .int le, .int sp, .ref mD])), (mN, .inl (cyI, 515, .inl (upd (upd (upd (upd (upd (upd nw 26 ((nw 26) + (nw 30))) 28 0) 29 0) 30 0) 31 0) 32 0)))]) (ws' := [(mM, .inr (8, [.ref mN, .ref mR, .ref mA, .ref mP, .int ch, .ref mT, .int le, .int sp, .ref mD])), (mN, .inl (cyI, 515, .inl (upd (upd (upd (upd (upd (upd nw 26 ((nw 26) + (nw 30))) 28 0) 29 0) 30 0) 31 0) 32 0)))]) (ad := [mM, mN]) (wr := []) (nn := 2) (ci := 8) (q0 := 0) X Y (c_tells8 l D cyC cyI mM mN mR mA mP mT mD ch le sp (upd (upd (upd (upd (upd nw 26 ((nw 26) + (nw 30))) 28 0) 29 0) 30 0) 31 0) 1 12 0 (upd (upd (upd (upd (upd (upd nw 26 ((nw 26) + (nw 30))) 28 0) 29 0) 30 0) 31 0) 32 0) (bTells (i := 32) (by decide) rfl) (bInD (by decide))) gX8_stepsCome_X8_tells rfl ⟨rfl, rfl⟩ hd_X8_tells ⟨(Nat.le_of_ble_eq_true rfl), (Nat.le_of_ble_eq_true rfl)⟩ rfl rfl rfl [0, 1] [] rfl rfl rfl rfl rfl rfl rfl rfl (by decide) rfl rfl hl.1 (Nat.le_of_ble_eq_true rfl) ⟨Nat.zero_le _, Nat.zero_le _⟩ dX8_stepsCome_145 (fun H locs Y => ?_)
    refine lv_iinc (v := 4) (lv' := [(4, .int 4), (6, .int (nw 30)), (5, .int (nw 29)), (3, .int 1), (2, .int 0), (0, .ref mM), (1, .int 1)]) hx hb dX8_stepsCome_148 hl (k := 0) rfl (by decide) (by decide) rfl (fun ls hl => ?_)
    refine lv_goto (tgt := 131) hx hb dX8_stepsCome_151 (by decide) ?_
    refine lv_iload hx hb dX8_stepsCome_131 (lv_at hl 0 rfl) ?_
    refine lv_iconst (v := 4) hx hb dX8_stepsCome_133 (by decide) ?_
    refine lv_icmp_ge (tgt := 154) hx hb dX8_stepsCome_134 (by decide) (fun _ => ?_) (fun c_ => absurd (by decide) c_)
    have h9 := (Prod.mk.inj hu).1
    subst h9
    exact bEndV X Y hr hlk dX8_stepsCome_154 rfl
def s_stepsCome8_12 (nw : Nat → Int32) : (Nat → Int32) × Unit :=
  if (nw 29) = (nw 6) then
    if (nw 31) = (nw 6) then
      (upd (upd (upd (upd (upd (upd (upd nw 26 ((nw 26) + (nw 30))) 26 (((nw 26) + (nw 30)) + (nw 32))) 28 0) 29 0) 30 0) 31 0) 32 0, ())
    else
      (upd (upd (upd (upd (upd (upd nw 26 ((nw 26) + (nw 30))) 29 (nw 31)) 30 (nw 32)) 28 1) 31 0) 32 0, ())
  else
    if (nw 31) = (nw 6) then
      (upd (upd (upd (upd (upd (upd nw 29 (nw 29)) 30 (nw 30)) 26 ((nw 26) + (nw 32))) 28 1) 31 0) 32 0, ())
    else
      (upd (upd (upd (upd (upd nw 29 (nw 29)) 30 (nw 30)) 31 (nw 31)) 32 (nw 32)) 28 2, ())
set_option maxHeartbeats 4000000 in
set_option maxRecDepth 100000 in
theorem c_stepsCome8_12 (l : Launch) (D : va_G) (cyC cyI : ClassId) (mM : Nat) (mN : Nat) (mR : Nat) (mA : Nat) (mP : Nat) (mT : Nat) (mD : Nat) (ch : Int32) (le : Int32) (sp : Int32) (nw : Nat → Int32) (o0 : Nat → Int32) (hu : s_stepsCome8_12 nw = (o0, ())) (hk : nw 28 = 2) : CV l yX8_stepsCome wsX8_stepsCome { frames := 1, cells := 0, slots := 0, locals := 23 } D cyC cyI [.ref mM, .int 1] [(mM, .inr (8, [.ref mN, .ref mR, .ref mA, .ref mP, .int ch, .ref mT, .int le, .int sp, .ref mD])), (mN, .inl (cyI, 515, .inl nw))] [(mM, .inr (8, [.ref mN, .ref mR, .ref mA, .ref mP, .int ch, .ref mT, .int le, .int sp, .ref mD])), (mN, .inl (cyI, 515, .inl o0))] := by
  refine CV.of (cc := cX8_stepsCome) (n := 7) (ret := none) (by decide +kernel) rfl (Nat.le_of_ble_eq_true rfl) ?_
  intro p_ e_ s_ m_ bl_ me_ cd_ A_ ls X Y hr hlk hl
  have hx := X.1.1
  have hb := X.1.2.1
  have hl : lv_has ls 7 [(0, .ref mM), (1, .int 1)] := hl
  unfold s_stepsCome8_12 at hu
  refine lv_iconst (v := 0) hx hb dX8_stepsCome_0 (by decide) ?_
  refine lv_istore_n (lv' := [(2, .int 0), (0, .ref mM), (1, .int 1)]) hx hb dX8_stepsCome_1 rfl hl (by decide) rfl (fun ls hl => ?_)
  refine lv_aload_n hx hb dX8_stepsCome_2 rfl (lv_at hl 1 rfl) ?_
  refine lv_iload_n hx hb dX8_stepsCome_3 rfl (lv_at hl 2 rfl) ?_
  refine lv_bipush (v := 8) hx hb dX8_stepsCome_4 (by decide) ?_
  refine bVI0 (As := [.int 1, .int 8]) (rest := []) (wc := [(mM, .inr (8, [.ref mN, .ref mR, .ref mA, .ref mP, .int ch, .ref mT, .int le, .int sp, .ref mD])), (mN, .inl (cyI, 515, .inl nw))]) (ci := 8) (q0 := 0) X Y (c_of8 l D cyC cyI mM mN mR mA mP mT mD ch le sp nw 1 8 2 (bOf (i := 28) (by decide) hk) (bInD (by decide))) gX8_stepsCome_X8_of rfl ⟨rfl, rfl⟩ hd_X8_of ⟨(Nat.le_of_ble_eq_true rfl), (Nat.le_of_ble_eq_true rfl)⟩ rfl rfl rfl [0, 1] rfl rfl rfl rfl hl.1 (Nat.le_of_ble_eq_true rfl) ⟨Nat.zero_le _, Nat.zero_le _⟩ dX8_stepsCome_6 (fun H locs Y => ?_)
  refine lv_istore_n (lv' := [(3, .int 2), (2, .int 0), (0, .ref mM), (1, .int 1)]) hx hb dX8_stepsCome_9 rfl hl (by decide) rfl (fun ls hl => ?_)
  refine lv_iconst (v := 0) hx hb dX8_stepsCome_10 (by decide) ?_
  refine lv_istore (lv' := [(4, .int 0), (3, .int 2), (2, .int 0), (0, .ref mM), (1, .int 1)]) hx hb dX8_stepsCome_11 hl (by decide) rfl (fun ls hl => ?_)
  refine lv_iload hx hb dX8_stepsCome_13 (lv_at hl 0 rfl) ?_
  refine lv_iload_n hx hb dX8_stepsCome_15 rfl (lv_at hl 1 rfl) ?_
  refine lv_icmp_ge (tgt := 118) hx hb dX8_stepsCome_16 (by decide) (fun c_ => absurd c_ (by decide)) (fun _ => ?_)
  refine lv_aload_n hx hb dX8_stepsCome_19 rfl (lv_at hl 3 rfl) ?_
  refine lv_iload_n hx hb dX8_stepsCome_20 rfl (lv_at hl 4 rfl) ?_
  refine lv_bipush (v := 9) hx hb dX8_stepsCome_21 (by decide) ?_
  refine lv_iconst (v := 2) hx hb dX8_stepsCome_23 (by decide) ?_
  refine lv_iload hx hb dX8_stepsCome_24 (lv_at hl 0 rfl) ?_
  refine bMul (v := 0) X dX8_stepsCome_26 (by decide) ?_
  refine bAdd (v := 9) X dX8_stepsCome_27 (by decide) ?_
  refine bVI0 (As := [.int 1, .int 9]) (rest := []) (wc := [(mM, .inr (8, [.ref mN, .ref mR, .ref mA, .ref mP, .int ch, .ref mT, .int le, .int sp, .ref mD])), (mN, .inl (cyI, 515, .inl nw))]) (ci := 8) (q0 := 0) X Y (c_of8 l D cyC cyI mM mN mR mA mP mT mD ch le sp nw 1 9 (nw 29) (bOf (i := 29) (by decide) rfl) (bInD (by decide))) gX8_stepsCome_X8_of rfl ⟨rfl, rfl⟩ hd_X8_of ⟨(Nat.le_of_ble_eq_true rfl), (Nat.le_of_ble_eq_true rfl)⟩ rfl rfl rfl [0, 1] rfl rfl rfl rfl hl.1 (Nat.le_of_ble_eq_true rfl) ⟨Nat.zero_le _, Nat.zero_le _⟩ dX8_stepsCome_28 (fun H locs Y => ?_)
  refine lv_istore (lv' := [(5, .int (nw 29)), (4, .int 0), (3, .int 2), (2, .int 0), (0, .ref mM), (1, .int 1)]) hx hb dX8_stepsCome_31 hl (by decide) rfl (fun ls hl => ?_)
  refine lv_aload_n hx hb dX8_stepsCome_33 rfl (lv_at hl 4 rfl) ?_
  refine lv_iload_n hx hb dX8_stepsCome_34 rfl (lv_at hl 5 rfl) ?_
  refine lv_bipush (v := 9) hx hb dX8_stepsCome_35 (by decide) ?_
  refine lv_iconst (v := 2) hx hb dX8_stepsCome_37 (by decide) ?_
  refine lv_iload hx hb dX8_stepsCome_38 (lv_at hl 1 rfl) ?_
  refine bMul (v := 0) X dX8_stepsCome_40 (by decide) ?_
  refine bAdd (v := 9) X dX8_stepsCome_41 (by decide) ?_
  refine lv_iconst (v := 1) hx hb dX8_stepsCome_42 (by decide) ?_
  refine bAdd (v := 10) X dX8_stepsCome_43 (by decide) ?_
  refine bVI0 (As := [.int 1, .int 10]) (rest := []) (wc := [(mM, .inr (8, [.ref mN, .ref mR, .ref mA, .ref mP, .int ch, .ref mT, .int le, .int sp, .ref mD])), (mN, .inl (cyI, 515, .inl nw))]) (ci := 8) (q0 := 0) X Y (c_of8 l D cyC cyI mM mN mR mA mP mT mD ch le sp nw 1 10 (nw 30) (bOf (i := 30) (by decide) rfl) (bInD (by decide))) gX8_stepsCome_X8_of rfl ⟨rfl, rfl⟩ hd_X8_of ⟨(Nat.le_of_ble_eq_true rfl), (Nat.le_of_ble_eq_true rfl)⟩ rfl rfl rfl [0, 1] rfl rfl rfl rfl hl.1 (Nat.le_of_ble_eq_true rfl) ⟨Nat.zero_le _, Nat.zero_le _⟩ dX8_stepsCome_44 (fun H locs Y => ?_)
  refine lv_istore (lv' := [(6, .int (nw 30)), (5, .int (nw 29)), (4, .int 0), (3, .int 2), (2, .int 0), (0, .ref mM), (1, .int 1)]) hx hb dX8_stepsCome_47 hl (by decide) rfl (fun ls hl => ?_)
  refine lv_iload hx hb dX8_stepsCome_49 (lv_at hl 1 rfl) ?_
  refine lv_aload_n hx hb dX8_stepsCome_51 rfl (lv_at hl 5 rfl) ?_
  refine bGet (v := .ref mN) (T := TX8) (N := 9) (ci := 8) X Y i_X8_stepsCome_X8 0 rfl rfl 0 (Nat.le_of_ble_eq_true rfl) f_X8_stepsCome_7 rfl rfl dX8_stepsCome_52 ?_
  refine lv_bipush (v := 6) hx hb dX8_stepsCome_55 (by decide) ?_
  refine bIald (v := nw 6) X Y 1 rfl (bInD (by decide)) dX8_stepsCome_57 rfl ?_
  refine lv_icmp_ne (tgt := 81) hx hb dX8_stepsCome_58 (by decide) (fun c_1 => ?_) (fun c_1 => ?_)
  · have c_1 : ¬ ((nw 29) = (nw 6)) := c_1
    rw [if_neg c_1] at hu
    refine lv_aload_n hx hb dX8_stepsCome_81 rfl (lv_at hl 5 rfl) ?_
    refine lv_iload_n hx hb dX8_stepsCome_82 rfl (lv_at hl 6 rfl) ?_
    refine lv_bipush (v := 9) hx hb dX8_stepsCome_83 (by decide) ?_
    refine lv_iconst (v := 2) hx hb dX8_stepsCome_85 (by decide) ?_
    refine lv_iload_n hx hb dX8_stepsCome_86 rfl (lv_at hl 4 rfl) ?_
    refine bMul (v := 0) X dX8_stepsCome_87 (by decide) ?_
    refine bAdd (v := 9) X dX8_stepsCome_88 (by decide) ?_
    refine lv_iload hx hb dX8_stepsCome_89 (lv_at hl 1 rfl) ?_
    refine bVV (As := [.int 1, .int 9, .int (nw 29)]) (rest := []) (wc := [(mM, .inr (8, [.ref mN, .ref mR, .ref mA, .ref mP, .int ch, .ref mT, .int le, .int sp, .ref mD])), (mN, .inl (cyI, 515, .inl nw))]) (w1 := [(mM, .inr (8, [.ref mN, .ref mR, .ref mA, .ref mP, .int ch, .ref mT, .int le, .int sp, .ref mD])), (mN, .inl (cyI, 515, .inl (upd nw 29 (nw 29))))]) (ws' := [(mM, .inr (8, [.ref mN, .ref mR, .ref mA, .ref mP, .int ch, .ref mT, .int le, .int sp, .ref mD])), (mN, .inl (cyI, 515, .inl (upd nw 29 (nw 29))))]) (ad := [mM, mN]) (wr := []) (nn := 2) (ci := 8) (q0 := 0) X Y (c_tells8 l D cyC cyI mM mN mR mA mP mT mD ch le sp nw 1 9 (nw 29) (upd nw 29 (nw 29)) (bTells (i := 29) (by decide) rfl) (bInD (by decide))) gX8_stepsCome_X8_tells rfl ⟨rfl, rfl⟩ hd_X8_tells ⟨(Nat.le_of_ble_eq_true rfl), (Nat.le_of_ble_eq_true rfl)⟩ rfl rfl rfl [0, 1] [] rfl rfl rfl rfl rfl rfl rfl rfl (by decide) rfl rfl hl.1 (Nat.le_of_ble_eq_true rfl) ⟨Nat.zero_le _, Nat.zero_le _⟩ dX8_stepsCome_91 (fun H locs Y => ?_)
    refine lv_aload_n hx hb dX8_stepsCome_94 rfl (lv_at hl 5 rfl) ?_
    refine lv_iload_n hx hb dX8_stepsCome_95 rfl (lv_at hl 6 rfl) ?_
    refine lv_bipush (v := 9) hx hb dX8_stepsCome_96 (by decide) ?_
    refine lv_iconst (v := 2) hx hb dX8_stepsCome_98 (by decide) ?_
    refine lv_iload_n hx hb dX8_stepsCome_99 rfl (lv_at hl 4 rfl) ?_
    refine bMul (v := 0) X dX8_stepsCome_100 (by decide) ?_
    refine bAdd (v := 9) X dX8_stepsCome_101 (by decide) ?_
    refine lv_iconst (v := 1) hx hb dX8_stepsCome_102 (by decide) ?_
    refine bAdd (v := 10) X dX8_stepsCome_103 (by decide) ?_
    refine lv_iload hx hb dX8_stepsCome_104 (lv_at hl 0 rfl) ?_
    refine bVV (As := [.int 1, .int 10, .int (nw 30)]) (rest := []) (wc := [(mM, .inr (8, [.ref mN, .ref mR, .ref mA, .ref mP, .int ch, .ref mT, .int le, .int sp, .ref mD])), (mN, .inl (cyI, 515, .inl (upd nw 29 (nw 29))))]) (w1 := [(mM, .inr (8, [.ref mN, .ref mR, .ref mA, .ref mP, .int ch, .ref mT, .int le, .int sp, .ref mD])), (mN, .inl (cyI, 515, .inl (upd (upd nw 29 (nw 29)) 30 (nw 30))))]) (ws' := [(mM, .inr (8, [.ref mN, .ref mR, .ref mA, .ref mP, .int ch, .ref mT, .int le, .int sp, .ref mD])), (mN, .inl (cyI, 515, .inl (upd (upd nw 29 (nw 29)) 30 (nw 30))))]) (ad := [mM, mN]) (wr := []) (nn := 2) (ci := 8) (q0 := 0) X Y (c_tells8 l D cyC cyI mM mN mR mA mP mT mD ch le sp (upd nw 29 (nw 29)) 1 10 (nw 30) (upd (upd nw 29 (nw 29)) 30 (nw 30)) (bTells (i := 30) (by decide) rfl) (bInD (by decide))) gX8_stepsCome_X8_tells rfl ⟨rfl, rfl⟩ hd_X8_tells ⟨(Nat.le_of_ble_eq_true rfl), (Nat.le_of_ble_eq_true rfl)⟩ rfl rfl rfl [0, 1] [] rfl rfl rfl rfl rfl rfl rfl rfl (by decide) rfl rfl hl.1 (Nat.le_of_ble_eq_true rfl) ⟨Nat.zero_le _, Nat.zero_le _⟩ dX8_stepsCome_106 (fun H locs Y => ?_)
    refine lv_iinc (v := 1) (lv' := [(2, .int 1), (6, .int (nw 30)), (5, .int (nw 29)), (4, .int 0), (3, .int 2), (0, .ref mM), (1, .int 1)]) hx hb dX8_stepsCome_109 hl (k := 4) rfl (by decide) (by decide) rfl (fun ls hl => ?_)
    refine lv_iinc (v := 1) (lv' := [(4, .int 1), (2, .int 1), (6, .int (nw 30)), (5, .int (nw 29)), (3, .int 2), (0, .ref mM), (1, .int 1)]) hx hb dX8_stepsCome_112 hl (k := 3) rfl (by decide) (by decide) rfl (fun ls hl => ?_)
    refine lv_goto (tgt := 13) hx hb dX8_stepsCome_115 (by decide) ?_
    refine lv_iload hx hb dX8_stepsCome_13 (lv_at hl 0 rfl) ?_
    refine lv_iload_n hx hb dX8_stepsCome_15 rfl (lv_at hl 4 rfl) ?_
    refine lv_icmp_ge (tgt := 118) hx hb dX8_stepsCome_16 (by decide) (fun c_ => absurd c_ (by decide)) (fun _ => ?_)
    refine lv_aload_n hx hb dX8_stepsCome_19 rfl (lv_at hl 5 rfl) ?_
    refine lv_iload_n hx hb dX8_stepsCome_20 rfl (lv_at hl 6 rfl) ?_
    refine lv_bipush (v := 9) hx hb dX8_stepsCome_21 (by decide) ?_
    refine lv_iconst (v := 2) hx hb dX8_stepsCome_23 (by decide) ?_
    refine lv_iload hx hb dX8_stepsCome_24 (lv_at hl 0 rfl) ?_
    refine bMul (v := 2) X dX8_stepsCome_26 (by decide) ?_
    refine bAdd (v := 11) X dX8_stepsCome_27 (by decide) ?_
    refine bVI0 (As := [.int 1, .int 11]) (rest := []) (wc := [(mM, .inr (8, [.ref mN, .ref mR, .ref mA, .ref mP, .int ch, .ref mT, .int le, .int sp, .ref mD])), (mN, .inl (cyI, 515, .inl (upd (upd nw 29 (nw 29)) 30 (nw 30))))]) (ci := 8) (q0 := 0) X Y (c_of8 l D cyC cyI mM mN mR mA mP mT mD ch le sp (upd (upd nw 29 (nw 29)) 30 (nw 30)) 1 11 (nw 31) (bOf (i := 31) (by decide) ((upd_ne (by decide)).trans ((upd_ne (by decide)).trans rfl))) (bInD (by decide))) gX8_stepsCome_X8_of rfl ⟨rfl, rfl⟩ hd_X8_of ⟨(Nat.le_of_ble_eq_true rfl), (Nat.le_of_ble_eq_true rfl)⟩ rfl rfl rfl [0, 1] rfl rfl rfl rfl hl.1 (Nat.le_of_ble_eq_true rfl) ⟨Nat.zero_le _, Nat.zero_le _⟩ dX8_stepsCome_28 (fun H locs Y => ?_)
    refine lv_istore (lv' := [(5, .int (nw 31)), (4, .int 1), (2, .int 1), (6, .int (nw 30)), (3, .int 2), (0, .ref mM), (1, .int 1)]) hx hb dX8_stepsCome_31 hl (by decide) rfl (fun ls hl => ?_)
    refine lv_aload_n hx hb dX8_stepsCome_33 rfl (lv_at hl 5 rfl) ?_
    refine lv_iload_n hx hb dX8_stepsCome_34 rfl (lv_at hl 6 rfl) ?_
    refine lv_bipush (v := 9) hx hb dX8_stepsCome_35 (by decide) ?_
    refine lv_iconst (v := 2) hx hb dX8_stepsCome_37 (by decide) ?_
    refine lv_iload hx hb dX8_stepsCome_38 (lv_at hl 1 rfl) ?_
    refine bMul (v := 2) X dX8_stepsCome_40 (by decide) ?_
    refine bAdd (v := 11) X dX8_stepsCome_41 (by decide) ?_
    refine lv_iconst (v := 1) hx hb dX8_stepsCome_42 (by decide) ?_
    refine bAdd (v := 12) X dX8_stepsCome_43 (by decide) ?_
    refine bVI0 (As := [.int 1, .int 12]) (rest := []) (wc := [(mM, .inr (8, [.ref mN, .ref mR, .ref mA, .ref mP, .int ch, .ref mT, .int le, .int sp, .ref mD])), (mN, .inl (cyI, 515, .inl (upd (upd nw 29 (nw 29)) 30 (nw 30))))]) (ci := 8) (q0 := 0) X Y (c_of8 l D cyC cyI mM mN mR mA mP mT mD ch le sp (upd (upd nw 29 (nw 29)) 30 (nw 30)) 1 12 (nw 32) (bOf (i := 32) (by decide) ((upd_ne (by decide)).trans ((upd_ne (by decide)).trans rfl))) (bInD (by decide))) gX8_stepsCome_X8_of rfl ⟨rfl, rfl⟩ hd_X8_of ⟨(Nat.le_of_ble_eq_true rfl), (Nat.le_of_ble_eq_true rfl)⟩ rfl rfl rfl [0, 1] rfl rfl rfl rfl hl.1 (Nat.le_of_ble_eq_true rfl) ⟨Nat.zero_le _, Nat.zero_le _⟩ dX8_stepsCome_44 (fun H locs Y => ?_)
    refine lv_istore (lv' := [(6, .int (nw 32)), (5, .int (nw 31)), (4, .int 1), (2, .int 1), (3, .int 2), (0, .ref mM), (1, .int 1)]) hx hb dX8_stepsCome_47 hl (by decide) rfl (fun ls hl => ?_)
    refine lv_iload hx hb dX8_stepsCome_49 (lv_at hl 1 rfl) ?_
    refine lv_aload_n hx hb dX8_stepsCome_51 rfl (lv_at hl 5 rfl) ?_
    refine bGet (v := .ref mN) (T := TX8) (N := 9) (ci := 8) X Y i_X8_stepsCome_X8 0 rfl rfl 0 (Nat.le_of_ble_eq_true rfl) f_X8_stepsCome_7 rfl rfl dX8_stepsCome_52 ?_
    refine lv_bipush (v := 6) hx hb dX8_stepsCome_55 (by decide) ?_
    refine bIald (v := nw 6) X Y 1 rfl (bInD (by decide)) dX8_stepsCome_57 ((upd_ne (by decide)).trans ((upd_ne (by decide)).trans rfl)) ?_
    refine lv_icmp_ne (tgt := 81) hx hb dX8_stepsCome_58 (by decide) (fun c_2 => ?_) (fun c_2 => ?_)
    · have c_2 : ¬ ((nw 31) = (nw 6)) := c_2
      rw [if_neg c_2] at hu
      refine lv_aload_n hx hb dX8_stepsCome_81 rfl (lv_at hl 5 rfl) ?_
      refine lv_iload_n hx hb dX8_stepsCome_82 rfl (lv_at hl 6 rfl) ?_
      refine lv_bipush (v := 9) hx hb dX8_stepsCome_83 (by decide) ?_
      refine lv_iconst (v := 2) hx hb dX8_stepsCome_85 (by decide) ?_
      refine lv_iload_n hx hb dX8_stepsCome_86 rfl (lv_at hl 3 rfl) ?_
      refine bMul (v := 2) X dX8_stepsCome_87 (by decide) ?_
      refine bAdd (v := 11) X dX8_stepsCome_88 (by decide) ?_
      refine lv_iload hx hb dX8_stepsCome_89 (lv_at hl 1 rfl) ?_
      refine bVV (As := [.int 1, .int 11, .int (nw 31)]) (rest := []) (wc := [(mM, .inr (8, [.ref mN, .ref mR, .ref mA, .ref mP, .int ch, .ref mT, .int le, .int sp, .ref mD])), (mN, .inl (cyI, 515, .inl (upd (upd nw 29 (nw 29)) 30 (nw 30))))]) (w1 := [(mM, .inr (8, [.ref mN, .ref mR, .ref mA, .ref mP, .int ch, .ref mT, .int le, .int sp, .ref mD])), (mN, .inl (cyI, 515, .inl (upd (upd (upd nw 29 (nw 29)) 30 (nw 30)) 31 (nw 31))))]) (ws' := [(mM, .inr (8, [.ref mN, .ref mR, .ref mA, .ref mP, .int ch, .ref mT, .int le, .int sp, .ref mD])), (mN, .inl (cyI, 515, .inl (upd (upd (upd nw 29 (nw 29)) 30 (nw 30)) 31 (nw 31))))]) (ad := [mM, mN]) (wr := []) (nn := 2) (ci := 8) (q0 := 0) X Y (c_tells8 l D cyC cyI mM mN mR mA mP mT mD ch le sp (upd (upd nw 29 (nw 29)) 30 (nw 30)) 1 11 (nw 31) (upd (upd (upd nw 29 (nw 29)) 30 (nw 30)) 31 (nw 31)) (bTells (i := 31) (by decide) rfl) (bInD (by decide))) gX8_stepsCome_X8_tells rfl ⟨rfl, rfl⟩ hd_X8_tells ⟨(Nat.le_of_ble_eq_true rfl), (Nat.le_of_ble_eq_true rfl)⟩ rfl rfl rfl [0, 1] [] rfl rfl rfl rfl rfl rfl rfl rfl (by decide) rfl rfl hl.1 (Nat.le_of_ble_eq_true rfl) ⟨Nat.zero_le _, Nat.zero_le _⟩ dX8_stepsCome_91 (fun H locs Y => ?_)
      refine lv_aload_n hx hb dX8_stepsCome_94 rfl (lv_at hl 5 rfl) ?_
      refine lv_iload_n hx hb dX8_stepsCome_95 rfl (lv_at hl 6 rfl) ?_
      refine lv_bipush (v := 9) hx hb dX8_stepsCome_96 (by decide) ?_
      refine lv_iconst (v := 2) hx hb dX8_stepsCome_98 (by decide) ?_
      refine lv_iload_n hx hb dX8_stepsCome_99 rfl (lv_at hl 3 rfl) ?_
      refine bMul (v := 2) X dX8_stepsCome_100 (by decide) ?_
      refine bAdd (v := 11) X dX8_stepsCome_101 (by decide) ?_
      refine lv_iconst (v := 1) hx hb dX8_stepsCome_102 (by decide) ?_
      refine bAdd (v := 12) X dX8_stepsCome_103 (by decide) ?_
      refine lv_iload hx hb dX8_stepsCome_104 (lv_at hl 0 rfl) ?_
      refine bVV (As := [.int 1, .int 12, .int (nw 32)]) (rest := []) (wc := [(mM, .inr (8, [.ref mN, .ref mR, .ref mA, .ref mP, .int ch, .ref mT, .int le, .int sp, .ref mD])), (mN, .inl (cyI, 515, .inl (upd (upd (upd nw 29 (nw 29)) 30 (nw 30)) 31 (nw 31))))]) (w1 := [(mM, .inr (8, [.ref mN, .ref mR, .ref mA, .ref mP, .int ch, .ref mT, .int le, .int sp, .ref mD])), (mN, .inl (cyI, 515, .inl (upd (upd (upd (upd nw 29 (nw 29)) 30 (nw 30)) 31 (nw 31)) 32 (nw 32))))]) (ws' := [(mM, .inr (8, [.ref mN, .ref mR, .ref mA, .ref mP, .int ch, .ref mT, .int le, .int sp, .ref mD])), (mN, .inl (cyI, 515, .inl (upd (upd (upd (upd nw 29 (nw 29)) 30 (nw 30)) 31 (nw 31)) 32 (nw 32))))]) (ad := [mM, mN]) (wr := []) (nn := 2) (ci := 8) (q0 := 0) X Y (c_tells8 l D cyC cyI mM mN mR mA mP mT mD ch le sp (upd (upd (upd nw 29 (nw 29)) 30 (nw 30)) 31 (nw 31)) 1 12 (nw 32) (upd (upd (upd (upd nw 29 (nw 29)) 30 (nw 30)) 31 (nw 31)) 32 (nw 32)) (bTells (i := 32) (by decide) rfl) (bInD (by decide))) gX8_stepsCome_X8_tells rfl ⟨rfl, rfl⟩ hd_X8_tells ⟨(Nat.le_of_ble_eq_true rfl), (Nat.le_of_ble_eq_true rfl)⟩ rfl rfl rfl [0, 1] [] rfl rfl rfl rfl rfl rfl rfl rfl (by decide) rfl rfl hl.1 (Nat.le_of_ble_eq_true rfl) ⟨Nat.zero_le _, Nat.zero_le _⟩ dX8_stepsCome_106 (fun H locs Y => ?_)
      refine lv_iinc (v := 2) (lv' := [(2, .int 2), (6, .int (nw 32)), (5, .int (nw 31)), (4, .int 1), (3, .int 2), (0, .ref mM), (1, .int 1)]) hx hb dX8_stepsCome_109 hl (k := 3) rfl (by decide) (by decide) rfl (fun ls hl => ?_)
      refine lv_iinc (v := 2) (lv' := [(4, .int 2), (2, .int 2), (6, .int (nw 32)), (5, .int (nw 31)), (3, .int 2), (0, .ref mM), (1, .int 1)]) hx hb dX8_stepsCome_112 hl (k := 3) rfl (by decide) (by decide) rfl (fun ls hl => ?_)
      refine lv_goto (tgt := 13) hx hb dX8_stepsCome_115 (by decide) ?_
      refine lv_iload hx hb dX8_stepsCome_13 (lv_at hl 0 rfl) ?_
      refine lv_iload_n hx hb dX8_stepsCome_15 rfl (lv_at hl 4 rfl) ?_
      refine lv_icmp_ge (tgt := 118) hx hb dX8_stepsCome_16 (by decide) (fun _ => ?_) (fun c_ => absurd (by decide) c_)
      refine lv_aload_n hx hb dX8_stepsCome_118 rfl (lv_at hl 5 rfl) ?_
      refine lv_iload_n hx hb dX8_stepsCome_119 rfl (lv_at hl 6 rfl) ?_
      refine lv_bipush (v := 8) hx hb dX8_stepsCome_120 (by decide) ?_
      refine lv_iload_n hx hb dX8_stepsCome_122 rfl (lv_at hl 1 rfl) ?_
      refine bVV (As := [.int 1, .int 8, .int 2]) (rest := []) (wc := [(mM, .inr (8, [.ref mN, .ref mR, .ref mA, .ref mP, .int ch, .ref mT, .int le, .int sp, .ref mD])), (mN, .inl (cyI, 515, .inl (upd (upd (upd (upd nw 29 (nw 29)) 30 (nw 30)) 31 (nw 31)) 32 (nw 32))))]) (w1 := [(mM, .inr (8, [.ref mN, .ref mR, .ref mA, .ref mP, .int ch, .ref mT, .int le, .int sp, .ref mD])), (mN, .inl (cyI, 515, .inl (upd (upd (upd (upd (upd nw 29 (nw 29)) 30 (nw 30)) 31 (nw 31)) 32 (nw 32)) 28 2)))]) (ws' := [(mM, .inr (8, [.ref mN, .ref mR, .ref mA, .ref mP, .int ch, .ref mT, .int le, .int sp, .ref mD])), (mN, .inl (cyI, 515, .inl (upd (upd (upd (upd (upd nw 29 (nw 29)) 30 (nw 30)) 31 (nw 31)) 32 (nw 32)) 28 2)))]) (ad := [mM, mN]) (wr := []) (nn := 2) (ci := 8) (q0 := 0) X Y (c_tells8 l D cyC cyI mM mN mR mA mP mT mD ch le sp (upd (upd (upd (upd nw 29 (nw 29)) 30 (nw 30)) 31 (nw 31)) 32 (nw 32)) 1 8 2 (upd (upd (upd (upd (upd nw 29 (nw 29)) 30 (nw 30)) 31 (nw 31)) 32 (nw 32)) 28 2) (bTells (i := 28) (by decide) rfl) (bInD (by decide))) gX8_stepsCome_X8_tells rfl ⟨rfl, rfl⟩ hd_X8_tells ⟨(Nat.le_of_ble_eq_true rfl), (Nat.le_of_ble_eq_true rfl)⟩ rfl rfl rfl [0, 1] [] rfl rfl rfl rfl rfl rfl rfl rfl (by decide) rfl rfl hl.1 (Nat.le_of_ble_eq_true rfl) ⟨Nat.zero_le _, Nat.zero_le _⟩ dX8_stepsCome_123 (fun H locs Y => ?_)
      refine lv_iconst (v := 2) hx hb dX8_stepsCome_126 (by decide) ?_
      refine lv_iload_n hx hb dX8_stepsCome_127 rfl (lv_at hl 1 rfl) ?_
      refine bMul (v := 4) X dX8_stepsCome_128 (by decide) ?_
      refine lv_istore (lv' := [(4, .int 4), (2, .int 2), (6, .int (nw 32)), (5, .int (nw 31)), (3, .int 2), (0, .ref mM), (1, .int 1)]) hx hb dX8_stepsCome_129 hl (by decide) rfl (fun ls hl => ?_)
      refine lv_iload hx hb dX8_stepsCome_131 (lv_at hl 0 rfl) ?_
      refine lv_iconst (v := 4) hx hb dX8_stepsCome_133 (by decide) ?_
      refine lv_icmp_ge (tgt := 154) hx hb dX8_stepsCome_134 (by decide) (fun _ => ?_) (fun c_ => absurd (by decide) c_)
      have h9 := (Prod.mk.inj hu).1
      subst h9
      exact bEndV X Y hr hlk dX8_stepsCome_154 rfl
    · have c_2 : (nw 31) = (nw 6) := c_2
      rw [if_pos c_2] at hu
      refine lv_aload_n hx hb dX8_stepsCome_61 rfl (lv_at hl 5 rfl) ?_
      refine lv_iload_n hx hb dX8_stepsCome_62 rfl (lv_at hl 6 rfl) ?_
      refine lv_bipush (v := 6) hx hb dX8_stepsCome_63 (by decide) ?_
      refine lv_aload_n hx hb dX8_stepsCome_65 rfl (lv_at hl 5 rfl) ?_
      refine lv_iload_n hx hb dX8_stepsCome_66 rfl (lv_at hl 6 rfl) ?_
      refine lv_bipush (v := 6) hx hb dX8_stepsCome_67 (by decide) ?_
      refine bVI0 (As := [.int 1, .int 6]) (rest := [.int 6, .int 1, .ref mM]) (wc := [(mM, .inr (8, [.ref mN, .ref mR, .ref mA, .ref mP, .int ch, .ref mT, .int le, .int sp, .ref mD])), (mN, .inl (cyI, 515, .inl (upd (upd nw 29 (nw 29)) 30 (nw 30))))]) (ci := 8) (q0 := 0) X Y (c_of8 l D cyC cyI mM mN mR mA mP mT mD ch le sp (upd (upd nw 29 (nw 29)) 30 (nw 30)) 1 6 (nw 26) (bOf (i := 26) (by decide) ((upd_ne (by decide)).trans ((upd_ne (by decide)).trans rfl))) (bInD (by decide))) gX8_stepsCome_X8_of rfl ⟨rfl, rfl⟩ hd_X8_of ⟨(Nat.le_of_ble_eq_true rfl), (Nat.le_of_ble_eq_true rfl)⟩ rfl rfl rfl [0, 1] rfl rfl rfl rfl hl.1 (Nat.le_of_ble_eq_true rfl) ⟨Nat.zero_le _, Nat.zero_le _⟩ dX8_stepsCome_69 (fun H locs Y => ?_)
      refine lv_iload hx hb dX8_stepsCome_72 (lv_at hl 0 rfl) ?_
      refine bAdd (v := (nw 26) + (nw 32)) X dX8_stepsCome_74 rfl ?_
      refine bVV (As := [.int 1, .int 6, .int ((nw 26) + (nw 32))]) (rest := []) (wc := [(mM, .inr (8, [.ref mN, .ref mR, .ref mA, .ref mP, .int ch, .ref mT, .int le, .int sp, .ref mD])), (mN, .inl (cyI, 515, .inl (upd (upd nw 29 (nw 29)) 30 (nw 30))))]) (w1 := [(mM, .inr (8, [.ref mN, .ref mR, .ref mA, .ref mP, .int ch, .ref mT, .int le, .int sp, .ref mD])), (mN, .inl (cyI, 515, .inl (upd (upd (upd nw 29 (nw 29)) 30 (nw 30)) 26 ((nw 26) + (nw 32)))))]) (ws' := [(mM, .inr (8, [.ref mN, .ref mR, .ref mA, .ref mP, .int ch, .ref mT, .int le, .int sp, .ref mD])), (mN, .inl (cyI, 515, .inl (upd (upd (upd nw 29 (nw 29)) 30 (nw 30)) 26 ((nw 26) + (nw 32)))))]) (ad := [mM, mN]) (wr := []) (nn := 2) (ci := 8) (q0 := 0) X Y (c_tells8 l D cyC cyI mM mN mR mA mP mT mD ch le sp (upd (upd nw 29 (nw 29)) 30 (nw 30)) 1 6 ((nw 26) + (nw 32)) (upd (upd (upd nw 29 (nw 29)) 30 (nw 30)) 26 ((nw 26) + (nw 32))) (bTells (i := 26) (by decide) rfl) (bInD (by decide))) gX8_stepsCome_X8_tells rfl ⟨rfl, rfl⟩ hd_X8_tells ⟨(Nat.le_of_ble_eq_true rfl), (Nat.le_of_ble_eq_true rfl)⟩ rfl rfl rfl [0, 1] [] rfl rfl rfl rfl rfl rfl rfl rfl (by decide) rfl rfl hl.1 (Nat.le_of_ble_eq_true rfl) ⟨Nat.zero_le _, Nat.zero_le _⟩ dX8_stepsCome_75 (fun H locs Y => ?_)
      refine lv_goto (tgt := 112) hx hb dX8_stepsCome_78 (by decide) ?_
      refine lv_iinc (v := 2) (lv' := [(4, .int 2), (6, .int (nw 32)), (5, .int (nw 31)), (2, .int 1), (3, .int 2), (0, .ref mM), (1, .int 1)]) hx hb dX8_stepsCome_112 hl (k := 2) rfl (by decide) (by decide) rfl (fun ls hl => ?_)
      refine lv_goto (tgt := 13) hx hb dX8_stepsCome_115 (by decide) ?_
      refine lv_iload hx hb dX8_stepsCome_13 (lv_at hl 0 rfl) ?_
      refine lv_iload_n hx hb dX8_stepsCome_15 rfl (lv_at hl 4 rfl) ?_
      refine lv_icmp_ge (tgt := 118) hx hb dX8_stepsCome_16 (by decide) (fun _ => ?_) (fun c_ => absurd (by decide) c_)
      refine lv_aload_n hx hb dX8_stepsCome_118 rfl (lv_at hl 5 rfl) ?_
      refine lv_iload_n hx hb dX8_stepsCome_119 rfl (lv_at hl 6 rfl) ?_
      refine lv_bipush (v := 8) hx hb dX8_stepsCome_120 (by decide) ?_
      refine lv_iload_n hx hb dX8_stepsCome_122 rfl (lv_at hl 3 rfl) ?_
      refine bVV (As := [.int 1, .int 8, .int 1]) (rest := []) (wc := [(mM, .inr (8, [.ref mN, .ref mR, .ref mA, .ref mP, .int ch, .ref mT, .int le, .int sp, .ref mD])), (mN, .inl (cyI, 515, .inl (upd (upd (upd nw 29 (nw 29)) 30 (nw 30)) 26 ((nw 26) + (nw 32)))))]) (w1 := [(mM, .inr (8, [.ref mN, .ref mR, .ref mA, .ref mP, .int ch, .ref mT, .int le, .int sp, .ref mD])), (mN, .inl (cyI, 515, .inl (upd (upd (upd (upd nw 29 (nw 29)) 30 (nw 30)) 26 ((nw 26) + (nw 32))) 28 1)))]) (ws' := [(mM, .inr (8, [.ref mN, .ref mR, .ref mA, .ref mP, .int ch, .ref mT, .int le, .int sp, .ref mD])), (mN, .inl (cyI, 515, .inl (upd (upd (upd (upd nw 29 (nw 29)) 30 (nw 30)) 26 ((nw 26) + (nw 32))) 28 1)))]) (ad := [mM, mN]) (wr := []) (nn := 2) (ci := 8) (q0 := 0) X Y (c_tells8 l D cyC cyI mM mN mR mA mP mT mD ch le sp (upd (upd (upd nw 29 (nw 29)) 30 (nw 30)) 26 ((nw 26) + (nw 32))) 1 8 1 (upd (upd (upd (upd nw 29 (nw 29)) 30 (nw 30)) 26 ((nw 26) + (nw 32))) 28 1) (bTells (i := 28) (by decide) rfl) (bInD (by decide))) gX8_stepsCome_X8_tells rfl ⟨rfl, rfl⟩ hd_X8_tells ⟨(Nat.le_of_ble_eq_true rfl), (Nat.le_of_ble_eq_true rfl)⟩ rfl rfl rfl [0, 1] [] rfl rfl rfl rfl rfl rfl rfl rfl (by decide) rfl rfl hl.1 (Nat.le_of_ble_eq_true rfl) ⟨Nat.zero_le _, Nat.zero_le _⟩ dX8_stepsCome_123 (fun H locs Y => ?_)
      refine lv_iconst (v := 2) hx hb dX8_stepsCome_126 (by decide) ?_
      refine lv_iload_n hx hb dX8_stepsCome_127 rfl (lv_at hl 3 rfl) ?_
      refine bMul (v := 2) X dX8_stepsCome_128 (by decide) ?_
      refine lv_istore (lv' := [(4, .int 2), (6, .int (nw 32)), (5, .int (nw 31)), (2, .int 1), (3, .int 2), (0, .ref mM), (1, .int 1)]) hx hb dX8_stepsCome_129 hl (by decide) rfl (fun ls hl => ?_)
      refine lv_iload hx hb dX8_stepsCome_131 (lv_at hl 0 rfl) ?_
      refine lv_iconst (v := 4) hx hb dX8_stepsCome_133 (by decide) ?_
      refine lv_icmp_ge (tgt := 154) hx hb dX8_stepsCome_134 (by decide) (fun c_ => absurd c_ (by decide)) (fun _ => ?_)
      refine lv_aload_n hx hb dX8_stepsCome_137 rfl (lv_at hl 5 rfl) ?_
      refine lv_iload_n hx hb dX8_stepsCome_138 rfl (lv_at hl 6 rfl) ?_
      refine lv_bipush (v := 9) hx hb dX8_stepsCome_139 (by decide) ?_
      refine lv_iload hx hb dX8_stepsCome_141 (lv_at hl 0 rfl) ?_
      refine bAdd (v := 11) X dX8_stepsCome_143 (by decide) ?_
      refine lv_iconst (v := 0) hx hb dX8_stepsCome_144 (by decide) ?_
      refine bVV (As := [.int 1, .int 11, .int 0]) (rest := []) (wc := [(mM, .inr (8, [.ref mN, .ref mR, .ref mA, .ref mP, .int ch, .ref mT, .int le, .int sp, .ref mD])), (mN, .inl (cyI, 515, .inl (upd (upd (upd (upd nw 29 (nw 29)) 30 (nw 30)) 26 ((nw 26) + (nw 32))) 28 1)))]) (w1 := [(mM, .inr (8, [.ref mN, .ref mR, .ref mA, .ref mP, .int ch, .ref mT, .int le, .int sp, .ref mD])), (mN, .inl (cyI, 515, .inl (upd (upd (upd (upd (upd nw 29 (nw 29)) 30 (nw 30)) 26 ((nw 26) + (nw 32))) 28 1) 31 0)))]) (ws' := [(mM, .inr (8, [.ref mN, .ref mR, .ref mA, .ref mP, .int ch, .ref mT, .int le, .int sp, .ref mD])), (mN, .inl (cyI, 515, .inl (upd (upd (upd (upd (upd nw 29 (nw 29)) 30 (nw 30)) 26 ((nw 26) + (nw 32))) 28 1) 31 0)))]) (ad := [mM, mN]) (wr := []) (nn := 2) (ci := 8) (q0 := 0) X Y (c_tells8 l D cyC cyI mM mN mR mA mP mT mD ch le sp (upd (upd (upd (upd nw 29 (nw 29)) 30 (nw 30)) 26 ((nw 26) + (nw 32))) 28 1) 1 11 0 (upd (upd (upd (upd (upd nw 29 (nw 29)) 30 (nw 30)) 26 ((nw 26) + (nw 32))) 28 1) 31 0) (bTells (i := 31) (by decide) rfl) (bInD (by decide))) gX8_stepsCome_X8_tells rfl ⟨rfl, rfl⟩ hd_X8_tells ⟨(Nat.le_of_ble_eq_true rfl), (Nat.le_of_ble_eq_true rfl)⟩ rfl rfl rfl [0, 1] [] rfl rfl rfl rfl rfl rfl rfl rfl (by decide) rfl rfl hl.1 (Nat.le_of_ble_eq_true rfl) ⟨Nat.zero_le _, Nat.zero_le _⟩ dX8_stepsCome_145 (fun H locs Y => ?_)
      refine lv_iinc (v := 3) (lv' := [(4, .int 3), (6, .int (nw 32)), (5, .int (nw 31)), (2, .int 1), (3, .int 2), (0, .ref mM), (1, .int 1)]) hx hb dX8_stepsCome_148 hl (k := 0) rfl (by decide) (by decide) rfl (fun ls hl => ?_)
      refine lv_goto (tgt := 131) hx hb dX8_stepsCome_151 (by decide) ?_
      refine lv_iload hx hb dX8_stepsCome_131 (lv_at hl 0 rfl) ?_
      refine lv_iconst (v := 4) hx hb dX8_stepsCome_133 (by decide) ?_
      refine lv_icmp_ge (tgt := 154) hx hb dX8_stepsCome_134 (by decide) (fun c_ => absurd c_ (by decide)) (fun _ => ?_)
      refine lv_aload_n hx hb dX8_stepsCome_137 rfl (lv_at hl 5 rfl) ?_
      refine lv_iload_n hx hb dX8_stepsCome_138 rfl (lv_at hl 6 rfl) ?_
      refine lv_bipush (v := 9) hx hb dX8_stepsCome_139 (by decide) ?_
      refine lv_iload hx hb dX8_stepsCome_141 (lv_at hl 0 rfl) ?_
      refine bAdd (v := 12) X dX8_stepsCome_143 (by decide) ?_
      refine lv_iconst (v := 0) hx hb dX8_stepsCome_144 (by decide) ?_
      refine bVV (As := [.int 1, .int 12, .int 0]) (rest := []) (wc := [(mM, .inr (8, [.ref mN, .ref mR, .ref mA, .ref mP, .int ch, .ref mT, .int le, .int sp, .ref mD])), (mN, .inl (cyI, 515, .inl (upd (upd (upd (upd (upd nw 29 (nw 29)) 30 (nw 30)) 26 ((nw 26) + (nw 32))) 28 1) 31 0)))]) (w1 := [(mM, .inr (8, [.ref mN, .ref mR, .ref mA, .ref mP, .int ch, .ref mT, .int le, .int sp, .ref mD])), (mN, .inl (cyI, 515, .inl (upd (upd (upd (upd (upd (upd nw 29 (nw 29)) 30 (nw 30)) 26 ((nw 26) + (nw 32))) 28 1) 31 0) 32 0)))]) (ws' := [(mM, .inr (8, [.ref mN, .ref mR, .ref mA, .ref mP, .int ch, .ref mT, .int le, .int sp, .ref mD])), (mN, .inl (cyI, 515, .inl (upd (upd (upd (upd (upd (upd nw 29 (nw 29)) 30 (nw 30)) 26 ((nw 26) + (nw 32))) 28 1) 31 0) 32 0)))]) (ad := [mM, mN]) (wr := []) (nn := 2) (ci := 8) (q0 := 0) X Y (c_tells8 l D cyC cyI mM mN mR mA mP mT mD ch le sp (upd (upd (upd (upd (upd nw 29 (nw 29)) 30 (nw 30)) 26 ((nw 26) + (nw 32))) 28 1) 31 0) 1 12 0 (upd (upd (upd (upd (upd (upd nw 29 (nw 29)) 30 (nw 30)) 26 ((nw 26) + (nw 32))) 28 1) 31 0) 32 0) (bTells (i := 32) (by decide) rfl) (bInD (by decide))) gX8_stepsCome_X8_tells rfl ⟨rfl, rfl⟩ hd_X8_tells ⟨(Nat.le_of_ble_eq_true rfl), (Nat.le_of_ble_eq_true rfl)⟩ rfl rfl rfl [0, 1] [] rfl rfl rfl rfl rfl rfl rfl rfl (by decide) rfl rfl hl.1 (Nat.le_of_ble_eq_true rfl) ⟨Nat.zero_le _, Nat.zero_le _⟩ dX8_stepsCome_145 (fun H locs Y => ?_)
      refine lv_iinc (v := 4) (lv' := [(4, .int 4), (6, .int (nw 32)), (5, .int (nw 31)), (2, .int 1), (3, .int 2), (0, .ref mM), (1, .int 1)]) hx hb dX8_stepsCome_148 hl (k := 0) rfl (by decide) (by decide) rfl (fun ls hl => ?_)
      refine lv_goto (tgt := 131) hx hb dX8_stepsCome_151 (by decide) ?_
      refine lv_iload hx hb dX8_stepsCome_131 (lv_at hl 0 rfl) ?_
      refine lv_iconst (v := 4) hx hb dX8_stepsCome_133 (by decide) ?_
      refine lv_icmp_ge (tgt := 154) hx hb dX8_stepsCome_134 (by decide) (fun _ => ?_) (fun c_ => absurd (by decide) c_)
      have h9 := (Prod.mk.inj hu).1
      subst h9
      exact bEndV X Y hr hlk dX8_stepsCome_154 rfl
  · have c_1 : (nw 29) = (nw 6) := c_1
    rw [if_pos c_1] at hu
    refine lv_aload_n hx hb dX8_stepsCome_61 rfl (lv_at hl 5 rfl) ?_
    refine lv_iload_n hx hb dX8_stepsCome_62 rfl (lv_at hl 6 rfl) ?_
    refine lv_bipush (v := 6) hx hb dX8_stepsCome_63 (by decide) ?_
    refine lv_aload_n hx hb dX8_stepsCome_65 rfl (lv_at hl 5 rfl) ?_
    refine lv_iload_n hx hb dX8_stepsCome_66 rfl (lv_at hl 6 rfl) ?_
    refine lv_bipush (v := 6) hx hb dX8_stepsCome_67 (by decide) ?_
    refine bVI0 (As := [.int 1, .int 6]) (rest := [.int 6, .int 1, .ref mM]) (wc := [(mM, .inr (8, [.ref mN, .ref mR, .ref mA, .ref mP, .int ch, .ref mT, .int le, .int sp, .ref mD])), (mN, .inl (cyI, 515, .inl nw))]) (ci := 8) (q0 := 0) X Y (c_of8 l D cyC cyI mM mN mR mA mP mT mD ch le sp nw 1 6 (nw 26) (bOf (i := 26) (by decide) rfl) (bInD (by decide))) gX8_stepsCome_X8_of rfl ⟨rfl, rfl⟩ hd_X8_of ⟨(Nat.le_of_ble_eq_true rfl), (Nat.le_of_ble_eq_true rfl)⟩ rfl rfl rfl [0, 1] rfl rfl rfl rfl hl.1 (Nat.le_of_ble_eq_true rfl) ⟨Nat.zero_le _, Nat.zero_le _⟩ dX8_stepsCome_69 (fun H locs Y => ?_)
    refine lv_iload hx hb dX8_stepsCome_72 (lv_at hl 0 rfl) ?_
    refine bAdd (v := (nw 26) + (nw 30)) X dX8_stepsCome_74 rfl ?_
    refine bVV (As := [.int 1, .int 6, .int ((nw 26) + (nw 30))]) (rest := []) (wc := [(mM, .inr (8, [.ref mN, .ref mR, .ref mA, .ref mP, .int ch, .ref mT, .int le, .int sp, .ref mD])), (mN, .inl (cyI, 515, .inl nw))]) (w1 := [(mM, .inr (8, [.ref mN, .ref mR, .ref mA, .ref mP, .int ch, .ref mT, .int le, .int sp, .ref mD])), (mN, .inl (cyI, 515, .inl (upd nw 26 ((nw 26) + (nw 30)))))]) (ws' := [(mM, .inr (8, [.ref mN, .ref mR, .ref mA, .ref mP, .int ch, .ref mT, .int le, .int sp, .ref mD])), (mN, .inl (cyI, 515, .inl (upd nw 26 ((nw 26) + (nw 30)))))]) (ad := [mM, mN]) (wr := []) (nn := 2) (ci := 8) (q0 := 0) X Y (c_tells8 l D cyC cyI mM mN mR mA mP mT mD ch le sp nw 1 6 ((nw 26) + (nw 30)) (upd nw 26 ((nw 26) + (nw 30))) (bTells (i := 26) (by decide) rfl) (bInD (by decide))) gX8_stepsCome_X8_tells rfl ⟨rfl, rfl⟩ hd_X8_tells ⟨(Nat.le_of_ble_eq_true rfl), (Nat.le_of_ble_eq_true rfl)⟩ rfl rfl rfl [0, 1] [] rfl rfl rfl rfl rfl rfl rfl rfl (by decide) rfl rfl hl.1 (Nat.le_of_ble_eq_true rfl) ⟨Nat.zero_le _, Nat.zero_le _⟩ dX8_stepsCome_75 (fun H locs Y => ?_)
    refine lv_goto (tgt := 112) hx hb dX8_stepsCome_78 (by decide) ?_
    refine lv_iinc (v := 1) (lv' := [(4, .int 1), (6, .int (nw 30)), (5, .int (nw 29)), (3, .int 2), (2, .int 0), (0, .ref mM), (1, .int 1)]) hx hb dX8_stepsCome_112 hl (k := 2) rfl (by decide) (by decide) rfl (fun ls hl => ?_)
    refine lv_goto (tgt := 13) hx hb dX8_stepsCome_115 (by decide) ?_
    refine lv_iload hx hb dX8_stepsCome_13 (lv_at hl 0 rfl) ?_
    refine lv_iload_n hx hb dX8_stepsCome_15 rfl (lv_at hl 3 rfl) ?_
    refine lv_icmp_ge (tgt := 118) hx hb dX8_stepsCome_16 (by decide) (fun c_ => absurd c_ (by decide)) (fun _ => ?_)
    refine lv_aload_n hx hb dX8_stepsCome_19 rfl (lv_at hl 5 rfl) ?_
    refine lv_iload_n hx hb dX8_stepsCome_20 rfl (lv_at hl 6 rfl) ?_
    refine lv_bipush (v := 9) hx hb dX8_stepsCome_21 (by decide) ?_
    refine lv_iconst (v := 2) hx hb dX8_stepsCome_23 (by decide) ?_
    refine lv_iload hx hb dX8_stepsCome_24 (lv_at hl 0 rfl) ?_
    refine bMul (v := 2) X dX8_stepsCome_26 (by decide) ?_
    refine bAdd (v := 11) X dX8_stepsCome_27 (by decide) ?_
    refine bVI0 (As := [.int 1, .int 11]) (rest := []) (wc := [(mM, .inr (8, [.ref mN, .ref mR, .ref mA, .ref mP, .int ch, .ref mT, .int le, .int sp, .ref mD])), (mN, .inl (cyI, 515, .inl (upd nw 26 ((nw 26) + (nw 30)))))]) (ci := 8) (q0 := 0) X Y (c_of8 l D cyC cyI mM mN mR mA mP mT mD ch le sp (upd nw 26 ((nw 26) + (nw 30))) 1 11 (nw 31) (bOf (i := 31) (by decide) ((upd_ne (by decide)).trans rfl)) (bInD (by decide))) gX8_stepsCome_X8_of rfl ⟨rfl, rfl⟩ hd_X8_of ⟨(Nat.le_of_ble_eq_true rfl), (Nat.le_of_ble_eq_true rfl)⟩ rfl rfl rfl [0, 1] rfl rfl rfl rfl hl.1 (Nat.le_of_ble_eq_true rfl) ⟨Nat.zero_le _, Nat.zero_le _⟩ dX8_stepsCome_28 (fun H locs Y => ?_)
    refine lv_istore (lv' := [(5, .int (nw 31)), (4, .int 1), (6, .int (nw 30)), (3, .int 2), (2, .int 0), (0, .ref mM), (1, .int 1)]) hx hb dX8_stepsCome_31 hl (by decide) rfl (fun ls hl => ?_)
    refine lv_aload_n hx hb dX8_stepsCome_33 rfl (lv_at hl 5 rfl) ?_
    refine lv_iload_n hx hb dX8_stepsCome_34 rfl (lv_at hl 6 rfl) ?_
    refine lv_bipush (v := 9) hx hb dX8_stepsCome_35 (by decide) ?_
    refine lv_iconst (v := 2) hx hb dX8_stepsCome_37 (by decide) ?_
    refine lv_iload hx hb dX8_stepsCome_38 (lv_at hl 1 rfl) ?_
    refine bMul (v := 2) X dX8_stepsCome_40 (by decide) ?_
    refine bAdd (v := 11) X dX8_stepsCome_41 (by decide) ?_
    refine lv_iconst (v := 1) hx hb dX8_stepsCome_42 (by decide) ?_
    refine bAdd (v := 12) X dX8_stepsCome_43 (by decide) ?_
    refine bVI0 (As := [.int 1, .int 12]) (rest := []) (wc := [(mM, .inr (8, [.ref mN, .ref mR, .ref mA, .ref mP, .int ch, .ref mT, .int le, .int sp, .ref mD])), (mN, .inl (cyI, 515, .inl (upd nw 26 ((nw 26) + (nw 30)))))]) (ci := 8) (q0 := 0) X Y (c_of8 l D cyC cyI mM mN mR mA mP mT mD ch le sp (upd nw 26 ((nw 26) + (nw 30))) 1 12 (nw 32) (bOf (i := 32) (by decide) ((upd_ne (by decide)).trans rfl)) (bInD (by decide))) gX8_stepsCome_X8_of rfl ⟨rfl, rfl⟩ hd_X8_of ⟨(Nat.le_of_ble_eq_true rfl), (Nat.le_of_ble_eq_true rfl)⟩ rfl rfl rfl [0, 1] rfl rfl rfl rfl hl.1 (Nat.le_of_ble_eq_true rfl) ⟨Nat.zero_le _, Nat.zero_le _⟩ dX8_stepsCome_44 (fun H locs Y => ?_)
    refine lv_istore (lv' := [(6, .int (nw 32)), (5, .int (nw 31)), (4, .int 1), (3, .int 2), (2, .int 0), (0, .ref mM), (1, .int 1)]) hx hb dX8_stepsCome_47 hl (by decide) rfl (fun ls hl => ?_)
    refine lv_iload hx hb dX8_stepsCome_49 (lv_at hl 1 rfl) ?_
    refine lv_aload_n hx hb dX8_stepsCome_51 rfl (lv_at hl 5 rfl) ?_
    refine bGet (v := .ref mN) (T := TX8) (N := 9) (ci := 8) X Y i_X8_stepsCome_X8 0 rfl rfl 0 (Nat.le_of_ble_eq_true rfl) f_X8_stepsCome_7 rfl rfl dX8_stepsCome_52 ?_
    refine lv_bipush (v := 6) hx hb dX8_stepsCome_55 (by decide) ?_
    refine bIald (v := nw 6) X Y 1 rfl (bInD (by decide)) dX8_stepsCome_57 ((upd_ne (by decide)).trans rfl) ?_
    refine lv_icmp_ne (tgt := 81) hx hb dX8_stepsCome_58 (by decide) (fun c_3 => ?_) (fun c_3 => ?_)
    · have c_3 : ¬ ((nw 31) = (nw 6)) := c_3
      rw [if_neg c_3] at hu
      refine lv_aload_n hx hb dX8_stepsCome_81 rfl (lv_at hl 5 rfl) ?_
      refine lv_iload_n hx hb dX8_stepsCome_82 rfl (lv_at hl 6 rfl) ?_
      refine lv_bipush (v := 9) hx hb dX8_stepsCome_83 (by decide) ?_
      refine lv_iconst (v := 2) hx hb dX8_stepsCome_85 (by decide) ?_
      refine lv_iload_n hx hb dX8_stepsCome_86 rfl (lv_at hl 4 rfl) ?_
      refine bMul (v := 0) X dX8_stepsCome_87 (by decide) ?_
      refine bAdd (v := 9) X dX8_stepsCome_88 (by decide) ?_
      refine lv_iload hx hb dX8_stepsCome_89 (lv_at hl 1 rfl) ?_
      refine bVV (As := [.int 1, .int 9, .int (nw 31)]) (rest := []) (wc := [(mM, .inr (8, [.ref mN, .ref mR, .ref mA, .ref mP, .int ch, .ref mT, .int le, .int sp, .ref mD])), (mN, .inl (cyI, 515, .inl (upd nw 26 ((nw 26) + (nw 30)))))]) (w1 := [(mM, .inr (8, [.ref mN, .ref mR, .ref mA, .ref mP, .int ch, .ref mT, .int le, .int sp, .ref mD])), (mN, .inl (cyI, 515, .inl (upd (upd nw 26 ((nw 26) + (nw 30))) 29 (nw 31))))]) (ws' := [(mM, .inr (8, [.ref mN, .ref mR, .ref mA, .ref mP, .int ch, .ref mT, .int le, .int sp, .ref mD])), (mN, .inl (cyI, 515, .inl (upd (upd nw 26 ((nw 26) + (nw 30))) 29 (nw 31))))]) (ad := [mM, mN]) (wr := []) (nn := 2) (ci := 8) (q0 := 0) X Y (c_tells8 l D cyC cyI mM mN mR mA mP mT mD ch le sp (upd nw 26 ((nw 26) + (nw 30))) 1 9 (nw 31) (upd (upd nw 26 ((nw 26) + (nw 30))) 29 (nw 31)) (bTells (i := 29) (by decide) rfl) (bInD (by decide))) gX8_stepsCome_X8_tells rfl ⟨rfl, rfl⟩ hd_X8_tells ⟨(Nat.le_of_ble_eq_true rfl), (Nat.le_of_ble_eq_true rfl)⟩ rfl rfl rfl [0, 1] [] rfl rfl rfl rfl rfl rfl rfl rfl (by decide) rfl rfl hl.1 (Nat.le_of_ble_eq_true rfl) ⟨Nat.zero_le _, Nat.zero_le _⟩ dX8_stepsCome_91 (fun H locs Y => ?_)
      refine lv_aload_n hx hb dX8_stepsCome_94 rfl (lv_at hl 5 rfl) ?_
      refine lv_iload_n hx hb dX8_stepsCome_95 rfl (lv_at hl 6 rfl) ?_
      refine lv_bipush (v := 9) hx hb dX8_stepsCome_96 (by decide) ?_
      refine lv_iconst (v := 2) hx hb dX8_stepsCome_98 (by decide) ?_
      refine lv_iload_n hx hb dX8_stepsCome_99 rfl (lv_at hl 4 rfl) ?_
      refine bMul (v := 0) X dX8_stepsCome_100 (by decide) ?_
      refine bAdd (v := 9) X dX8_stepsCome_101 (by decide) ?_
      refine lv_iconst (v := 1) hx hb dX8_stepsCome_102 (by decide) ?_
      refine bAdd (v := 10) X dX8_stepsCome_103 (by decide) ?_
      refine lv_iload hx hb dX8_stepsCome_104 (lv_at hl 0 rfl) ?_
      refine bVV (As := [.int 1, .int 10, .int (nw 32)]) (rest := []) (wc := [(mM, .inr (8, [.ref mN, .ref mR, .ref mA, .ref mP, .int ch, .ref mT, .int le, .int sp, .ref mD])), (mN, .inl (cyI, 515, .inl (upd (upd nw 26 ((nw 26) + (nw 30))) 29 (nw 31))))]) (w1 := [(mM, .inr (8, [.ref mN, .ref mR, .ref mA, .ref mP, .int ch, .ref mT, .int le, .int sp, .ref mD])), (mN, .inl (cyI, 515, .inl (upd (upd (upd nw 26 ((nw 26) + (nw 30))) 29 (nw 31)) 30 (nw 32))))]) (ws' := [(mM, .inr (8, [.ref mN, .ref mR, .ref mA, .ref mP, .int ch, .ref mT, .int le, .int sp, .ref mD])), (mN, .inl (cyI, 515, .inl (upd (upd (upd nw 26 ((nw 26) + (nw 30))) 29 (nw 31)) 30 (nw 32))))]) (ad := [mM, mN]) (wr := []) (nn := 2) (ci := 8) (q0 := 0) X Y (c_tells8 l D cyC cyI mM mN mR mA mP mT mD ch le sp (upd (upd nw 26 ((nw 26) + (nw 30))) 29 (nw 31)) 1 10 (nw 32) (upd (upd (upd nw 26 ((nw 26) + (nw 30))) 29 (nw 31)) 30 (nw 32)) (bTells (i := 30) (by decide) rfl) (bInD (by decide))) gX8_stepsCome_X8_tells rfl ⟨rfl, rfl⟩ hd_X8_tells ⟨(Nat.le_of_ble_eq_true rfl), (Nat.le_of_ble_eq_true rfl)⟩ rfl rfl rfl [0, 1] [] rfl rfl rfl rfl rfl rfl rfl rfl (by decide) rfl rfl hl.1 (Nat.le_of_ble_eq_true rfl) ⟨Nat.zero_le _, Nat.zero_le _⟩ dX8_stepsCome_106 (fun H locs Y => ?_)
      refine lv_iinc (v := 1) (lv' := [(2, .int 1), (6, .int (nw 32)), (5, .int (nw 31)), (4, .int 1), (3, .int 2), (0, .ref mM), (1, .int 1)]) hx hb dX8_stepsCome_109 hl (k := 4) rfl (by decide) (by decide) rfl (fun ls hl => ?_)
      refine lv_iinc (v := 2) (lv' := [(4, .int 2), (2, .int 1), (6, .int (nw 32)), (5, .int (nw 31)), (3, .int 2), (0, .ref mM), (1, .int 1)]) hx hb dX8_stepsCome_112 hl (k := 3) rfl (by decide) (by decide) rfl (fun ls hl => ?_)
      refine lv_goto (tgt := 13) hx hb dX8_stepsCome_115 (by decide) ?_
      refine lv_iload hx hb dX8_stepsCome_13 (lv_at hl 0 rfl) ?_
      refine lv_iload_n hx hb dX8_stepsCome_15 rfl (lv_at hl 4 rfl) ?_
      refine lv_icmp_ge (tgt := 118) hx hb dX8_stepsCome_16 (by decide) (fun _ => ?_) (fun c_ => absurd (by decide) c_)
      refine lv_aload_n hx hb dX8_stepsCome_118 rfl (lv_at hl 5 rfl) ?_
      refine lv_iload_n hx hb dX8_stepsCome_119 rfl (lv_at hl 6 rfl) ?_
      refine lv_bipush (v := 8) hx hb dX8_stepsCome_120 (by decide) ?_
      refine lv_iload_n hx hb dX8_stepsCome_122 rfl (lv_at hl 1 rfl) ?_
      refine bVV (As := [.int 1, .int 8, .int 1]) (rest := []) (wc := [(mM, .inr (8, [.ref mN, .ref mR, .ref mA, .ref mP, .int ch, .ref mT, .int le, .int sp, .ref mD])), (mN, .inl (cyI, 515, .inl (upd (upd (upd nw 26 ((nw 26) + (nw 30))) 29 (nw 31)) 30 (nw 32))))]) (w1 := [(mM, .inr (8, [.ref mN, .ref mR, .ref mA, .ref mP, .int ch, .ref mT, .int le, .int sp, .ref mD])), (mN, .inl (cyI, 515, .inl (upd (upd (upd (upd nw 26 ((nw 26) + (nw 30))) 29 (nw 31)) 30 (nw 32)) 28 1)))]) (ws' := [(mM, .inr (8, [.ref mN, .ref mR, .ref mA, .ref mP, .int ch, .ref mT, .int le, .int sp, .ref mD])), (mN, .inl (cyI, 515, .inl (upd (upd (upd (upd nw 26 ((nw 26) + (nw 30))) 29 (nw 31)) 30 (nw 32)) 28 1)))]) (ad := [mM, mN]) (wr := []) (nn := 2) (ci := 8) (q0 := 0) X Y (c_tells8 l D cyC cyI mM mN mR mA mP mT mD ch le sp (upd (upd (upd nw 26 ((nw 26) + (nw 30))) 29 (nw 31)) 30 (nw 32)) 1 8 1 (upd (upd (upd (upd nw 26 ((nw 26) + (nw 30))) 29 (nw 31)) 30 (nw 32)) 28 1) (bTells (i := 28) (by decide) rfl) (bInD (by decide))) gX8_stepsCome_X8_tells rfl ⟨rfl, rfl⟩ hd_X8_tells ⟨(Nat.le_of_ble_eq_true rfl), (Nat.le_of_ble_eq_true rfl)⟩ rfl rfl rfl [0, 1] [] rfl rfl rfl rfl rfl rfl rfl rfl (by decide) rfl rfl hl.1 (Nat.le_of_ble_eq_true rfl) ⟨Nat.zero_le _, Nat.zero_le _⟩ dX8_stepsCome_123 (fun H locs Y => ?_)
      refine lv_iconst (v := 2) hx hb dX8_stepsCome_126 (by decide) ?_
      refine lv_iload_n hx hb dX8_stepsCome_127 rfl (lv_at hl 1 rfl) ?_
      refine bMul (v := 2) X dX8_stepsCome_128 (by decide) ?_
      refine lv_istore (lv' := [(4, .int 2), (2, .int 1), (6, .int (nw 32)), (5, .int (nw 31)), (3, .int 2), (0, .ref mM), (1, .int 1)]) hx hb dX8_stepsCome_129 hl (by decide) rfl (fun ls hl => ?_)
      refine lv_iload hx hb dX8_stepsCome_131 (lv_at hl 0 rfl) ?_
      refine lv_iconst (v := 4) hx hb dX8_stepsCome_133 (by decide) ?_
      refine lv_icmp_ge (tgt := 154) hx hb dX8_stepsCome_134 (by decide) (fun c_ => absurd c_ (by decide)) (fun _ => ?_)
      refine lv_aload_n hx hb dX8_stepsCome_137 rfl (lv_at hl 5 rfl) ?_
      refine lv_iload_n hx hb dX8_stepsCome_138 rfl (lv_at hl 6 rfl) ?_
      refine lv_bipush (v := 9) hx hb dX8_stepsCome_139 (by decide) ?_
      refine lv_iload hx hb dX8_stepsCome_141 (lv_at hl 0 rfl) ?_
      refine bAdd (v := 11) X dX8_stepsCome_143 (by decide) ?_
      refine lv_iconst (v := 0) hx hb dX8_stepsCome_144 (by decide) ?_
      refine bVV (As := [.int 1, .int 11, .int 0]) (rest := []) (wc := [(mM, .inr (8, [.ref mN, .ref mR, .ref mA, .ref mP, .int ch, .ref mT, .int le, .int sp, .ref mD])), (mN, .inl (cyI, 515, .inl (upd (upd (upd (upd nw 26 ((nw 26) + (nw 30))) 29 (nw 31)) 30 (nw 32)) 28 1)))]) (w1 := [(mM, .inr (8, [.ref mN, .ref mR, .ref mA, .ref mP, .int ch, .ref mT, .int le, .int sp, .ref mD])), (mN, .inl (cyI, 515, .inl (upd (upd (upd (upd (upd nw 26 ((nw 26) + (nw 30))) 29 (nw 31)) 30 (nw 32)) 28 1) 31 0)))]) (ws' := [(mM, .inr (8, [.ref mN, .ref mR, .ref mA, .ref mP, .int ch, .ref mT, .int le, .int sp, .ref mD])), (mN, .inl (cyI, 515, .inl (upd (upd (upd (upd (upd nw 26 ((nw 26) + (nw 30))) 29 (nw 31)) 30 (nw 32)) 28 1) 31 0)))]) (ad := [mM, mN]) (wr := []) (nn := 2) (ci := 8) (q0 := 0) X Y (c_tells8 l D cyC cyI mM mN mR mA mP mT mD ch le sp (upd (upd (upd (upd nw 26 ((nw 26) + (nw 30))) 29 (nw 31)) 30 (nw 32)) 28 1) 1 11 0 (upd (upd (upd (upd (upd nw 26 ((nw 26) + (nw 30))) 29 (nw 31)) 30 (nw 32)) 28 1) 31 0) (bTells (i := 31) (by decide) rfl) (bInD (by decide))) gX8_stepsCome_X8_tells rfl ⟨rfl, rfl⟩ hd_X8_tells ⟨(Nat.le_of_ble_eq_true rfl), (Nat.le_of_ble_eq_true rfl)⟩ rfl rfl rfl [0, 1] [] rfl rfl rfl rfl rfl rfl rfl rfl (by decide) rfl rfl hl.1 (Nat.le_of_ble_eq_true rfl) ⟨Nat.zero_le _, Nat.zero_le _⟩ dX8_stepsCome_145 (fun H locs Y => ?_)
      refine lv_iinc (v := 3) (lv' := [(4, .int 3), (2, .int 1), (6, .int (nw 32)), (5, .int (nw 31)), (3, .int 2), (0, .ref mM), (1, .int 1)]) hx hb dX8_stepsCome_148 hl (k := 0) rfl (by decide) (by decide) rfl (fun ls hl => ?_)
      refine lv_goto (tgt := 131) hx hb dX8_stepsCome_151 (by decide) ?_
      refine lv_iload hx hb dX8_stepsCome_131 (lv_at hl 0 rfl) ?_
      refine lv_iconst (v := 4) hx hb dX8_stepsCome_133 (by decide) ?_
      refine lv_icmp_ge (tgt := 154) hx hb dX8_stepsCome_134 (by decide) (fun c_ => absurd c_ (by decide)) (fun _ => ?_)
      refine lv_aload_n hx hb dX8_stepsCome_137 rfl (lv_at hl 5 rfl) ?_
      refine lv_iload_n hx hb dX8_stepsCome_138 rfl (lv_at hl 6 rfl) ?_
      refine lv_bipush (v := 9) hx hb dX8_stepsCome_139 (by decide) ?_
      refine lv_iload hx hb dX8_stepsCome_141 (lv_at hl 0 rfl) ?_
      refine bAdd (v := 12) X dX8_stepsCome_143 (by decide) ?_
      refine lv_iconst (v := 0) hx hb dX8_stepsCome_144 (by decide) ?_
      refine bVV (As := [.int 1, .int 12, .int 0]) (rest := []) (wc := [(mM, .inr (8, [.ref mN, .ref mR, .ref mA, .ref mP, .int ch, .ref mT, .int le, .int sp, .ref mD])), (mN, .inl (cyI, 515, .inl (upd (upd (upd (upd (upd nw 26 ((nw 26) + (nw 30))) 29 (nw 31)) 30 (nw 32)) 28 1) 31 0)))]) (w1 := [(mM, .inr (8, [.ref mN, .ref mR, .ref mA, .ref mP, .int ch, .ref mT, .int le, .int sp, .ref mD])), (mN, .inl (cyI, 515, .inl (upd (upd (upd (upd (upd (upd nw 26 ((nw 26) + (nw 30))) 29 (nw 31)) 30 (nw 32)) 28 1) 31 0) 32 0)))]) (ws' := [(mM, .inr (8, [.ref mN, .ref mR, .ref mA, .ref mP, .int ch, .ref mT, .int le, .int sp, .ref mD])), (mN, .inl (cyI, 515, .inl (upd (upd (upd (upd (upd (upd nw 26 ((nw 26) + (nw 30))) 29 (nw 31)) 30 (nw 32)) 28 1) 31 0) 32 0)))]) (ad := [mM, mN]) (wr := []) (nn := 2) (ci := 8) (q0 := 0) X Y (c_tells8 l D cyC cyI mM mN mR mA mP mT mD ch le sp (upd (upd (upd (upd (upd nw 26 ((nw 26) + (nw 30))) 29 (nw 31)) 30 (nw 32)) 28 1) 31 0) 1 12 0 (upd (upd (upd (upd (upd (upd nw 26 ((nw 26) + (nw 30))) 29 (nw 31)) 30 (nw 32)) 28 1) 31 0) 32 0) (bTells (i := 32) (by decide) rfl) (bInD (by decide))) gX8_stepsCome_X8_tells rfl ⟨rfl, rfl⟩ hd_X8_tells ⟨(Nat.le_of_ble_eq_true rfl), (Nat.le_of_ble_eq_true rfl)⟩ rfl rfl rfl [0, 1] [] rfl rfl rfl rfl rfl rfl rfl rfl (by decide) rfl rfl hl.1 (Nat.le_of_ble_eq_true rfl) ⟨Nat.zero_le _, Nat.zero_le _⟩ dX8_stepsCome_145 (fun H locs Y => ?_)
      refine lv_iinc (v := 4) (lv' := [(4, .int 4), (2, .int 1), (6, .int (nw 32)), (5, .int (nw 31)), (3, .int 2), (0, .ref mM), (1, .int 1)]) hx hb dX8_stepsCome_148 hl (k := 0) rfl (by decide) (by decide) rfl (fun ls hl => ?_)
      refine lv_goto (tgt := 131) hx hb dX8_stepsCome_151 (by decide) ?_
      refine lv_iload hx hb dX8_stepsCome_131 (lv_at hl 0 rfl) ?_
      refine lv_iconst (v := 4) hx hb dX8_stepsCome_133 (by decide) ?_
      refine lv_icmp_ge (tgt := 154) hx hb dX8_stepsCome_134 (by decide) (fun _ => ?_) (fun c_ => absurd (by decide) c_)
      have h9 := (Prod.mk.inj hu).1
      subst h9
      exact bEndV X Y hr hlk dX8_stepsCome_154 rfl
    · have c_3 : (nw 31) = (nw 6) := c_3
      rw [if_pos c_3] at hu
      refine lv_aload_n hx hb dX8_stepsCome_61 rfl (lv_at hl 5 rfl) ?_
      refine lv_iload_n hx hb dX8_stepsCome_62 rfl (lv_at hl 6 rfl) ?_
      refine lv_bipush (v := 6) hx hb dX8_stepsCome_63 (by decide) ?_
      refine lv_aload_n hx hb dX8_stepsCome_65 rfl (lv_at hl 5 rfl) ?_
      refine lv_iload_n hx hb dX8_stepsCome_66 rfl (lv_at hl 6 rfl) ?_
      refine lv_bipush (v := 6) hx hb dX8_stepsCome_67 (by decide) ?_
      refine bVI0 (As := [.int 1, .int 6]) (rest := [.int 6, .int 1, .ref mM]) (wc := [(mM, .inr (8, [.ref mN, .ref mR, .ref mA, .ref mP, .int ch, .ref mT, .int le, .int sp, .ref mD])), (mN, .inl (cyI, 515, .inl (upd nw 26 ((nw 26) + (nw 30)))))]) (ci := 8) (q0 := 0) X Y (c_of8 l D cyC cyI mM mN mR mA mP mT mD ch le sp (upd nw 26 ((nw 26) + (nw 30))) 1 6 ((nw 26) + (nw 30)) (bOf (i := 26) (by decide) upd_eq) (bInD (by decide))) gX8_stepsCome_X8_of rfl ⟨rfl, rfl⟩ hd_X8_of ⟨(Nat.le_of_ble_eq_true rfl), (Nat.le_of_ble_eq_true rfl)⟩ rfl rfl rfl [0, 1] rfl rfl rfl rfl hl.1 (Nat.le_of_ble_eq_true rfl) ⟨Nat.zero_le _, Nat.zero_le _⟩ dX8_stepsCome_69 (fun H locs Y => ?_)
      refine lv_iload hx hb dX8_stepsCome_72 (lv_at hl 0 rfl) ?_
      refine bAdd (v := ((nw 26) + (nw 30)) + (nw 32)) X dX8_stepsCome_74 rfl ?_
      refine bVV (As := [.int 1, .int 6, .int (((nw 26) + (nw 30)) + (nw 32))]) (rest := []) (wc := [(mM, .inr (8, [.ref mN, .ref mR, .ref mA, .ref mP, .int ch, .ref mT, .int le, .int sp, .ref mD])), (mN, .inl (cyI, 515, .inl (upd nw 26 ((nw 26) + (nw 30)))))]) (w1 := [(mM, .inr (8, [.ref mN, .ref mR, .ref mA, .ref mP, .int ch, .ref mT, .int le, .int sp, .ref mD])), (mN, .inl (cyI, 515, .inl (upd (upd nw 26 ((nw 26) + (nw 30))) 26 (((nw 26) + (nw 30)) + (nw 32)))))]) (ws' := [(mM, .inr (8, [.ref mN, .ref mR, .ref mA, .ref mP, .int ch, .ref mT, .int le, .int sp, .ref mD])), (mN, .inl (cyI, 515, .inl (upd (upd nw 26 ((nw 26) + (nw 30))) 26 (((nw 26) + (nw 30)) + (nw 32)))))]) (ad := [mM, mN]) (wr := []) (nn := 2) (ci := 8) (q0 := 0) X Y (c_tells8 l D cyC cyI mM mN mR mA mP mT mD ch le sp (upd nw 26 ((nw 26) + (nw 30))) 1 6 (((nw 26) + (nw 30)) + (nw 32)) (upd (upd nw 26 ((nw 26) + (nw 30))) 26 (((nw 26) + (nw 30)) + (nw 32))) (bTells (i := 26) (by decide) rfl) (bInD (by decide))) gX8_stepsCome_X8_tells rfl ⟨rfl, rfl⟩ hd_X8_tells ⟨(Nat.le_of_ble_eq_true rfl), (Nat.le_of_ble_eq_true rfl)⟩ rfl rfl rfl [0, 1] [] rfl rfl rfl rfl rfl rfl rfl rfl (by decide) rfl rfl hl.1 (Nat.le_of_ble_eq_true rfl) ⟨Nat.zero_le _, Nat.zero_le _⟩ dX8_stepsCome_75 (fun H locs Y => ?_)
      refine lv_goto (tgt := 112) hx hb dX8_stepsCome_78 (by decide) ?_
      refine lv_iinc (v := 2) (lv' := [(4, .int 2), (6, .int (nw 32)), (5, .int (nw 31)), (3, .int 2), (2, .int 0), (0, .ref mM), (1, .int 1)]) hx hb dX8_stepsCome_112 hl (k := 2) rfl (by decide) (by decide) rfl (fun ls hl => ?_)
      refine lv_goto (tgt := 13) hx hb dX8_stepsCome_115 (by decide) ?_
      refine lv_iload hx hb dX8_stepsCome_13 (lv_at hl 0 rfl) ?_
      refine lv_iload_n hx hb dX8_stepsCome_15 rfl (lv_at hl 3 rfl) ?_
      refine lv_icmp_ge (tgt := 118) hx hb dX8_stepsCome_16 (by decide) (fun _ => ?_) (fun c_ => absurd (by decide) c_)
      refine lv_aload_n hx hb dX8_stepsCome_118 rfl (lv_at hl 5 rfl) ?_
      refine lv_iload_n hx hb dX8_stepsCome_119 rfl (lv_at hl 6 rfl) ?_
      refine lv_bipush (v := 8) hx hb dX8_stepsCome_120 (by decide) ?_
      refine lv_iload_n hx hb dX8_stepsCome_122 rfl (lv_at hl 4 rfl) ?_
      refine bVV (As := [.int 1, .int 8, .int 0]) (rest := []) (wc := [(mM, .inr (8, [.ref mN, .ref mR, .ref mA, .ref mP, .int ch, .ref mT, .int le, .int sp, .ref mD])), (mN, .inl (cyI, 515, .inl (upd (upd nw 26 ((nw 26) + (nw 30))) 26 (((nw 26) + (nw 30)) + (nw 32)))))]) (w1 := [(mM, .inr (8, [.ref mN, .ref mR, .ref mA, .ref mP, .int ch, .ref mT, .int le, .int sp, .ref mD])), (mN, .inl (cyI, 515, .inl (upd (upd (upd nw 26 ((nw 26) + (nw 30))) 26 (((nw 26) + (nw 30)) + (nw 32))) 28 0)))]) (ws' := [(mM, .inr (8, [.ref mN, .ref mR, .ref mA, .ref mP, .int ch, .ref mT, .int le, .int sp, .ref mD])), (mN, .inl (cyI, 515, .inl (upd (upd (upd nw 26 ((nw 26) + (nw 30))) 26 (((nw 26) + (nw 30)) + (nw 32))) 28 0)))]) (ad := [mM, mN]) (wr := []) (nn := 2) (ci := 8) (q0 := 0) X Y (c_tells8 l D cyC cyI mM mN mR mA mP mT mD ch le sp (upd (upd nw 26 ((nw 26) + (nw 30))) 26 (((nw 26) + (nw 30)) + (nw 32))) 1 8 0 (upd (upd (upd nw 26 ((nw 26) + (nw 30))) 26 (((nw 26) + (nw 30)) + (nw 32))) 28 0) (bTells (i := 28) (by decide) rfl) (bInD (by decide))) gX8_stepsCome_X8_tells rfl ⟨rfl, rfl⟩ hd_X8_tells ⟨(Nat.le_of_ble_eq_true rfl), (Nat.le_of_ble_eq_true rfl)⟩ rfl rfl rfl [0, 1] [] rfl rfl rfl rfl rfl rfl rfl rfl (by decide) rfl rfl hl.1 (Nat.le_of_ble_eq_true rfl) ⟨Nat.zero_le _, Nat.zero_le _⟩ dX8_stepsCome_123 (fun H locs Y => ?_)
      refine lv_iconst (v := 2) hx hb dX8_stepsCome_126 (by decide) ?_
      refine lv_iload_n hx hb dX8_stepsCome_127 rfl (lv_at hl 4 rfl) ?_
      refine bMul (v := 0) X dX8_stepsCome_128 (by decide) ?_
      refine lv_istore (lv' := [(4, .int 0), (6, .int (nw 32)), (5, .int (nw 31)), (3, .int 2), (2, .int 0), (0, .ref mM), (1, .int 1)]) hx hb dX8_stepsCome_129 hl (by decide) rfl (fun ls hl => ?_)
      refine lv_iload hx hb dX8_stepsCome_131 (lv_at hl 0 rfl) ?_
      refine lv_iconst (v := 4) hx hb dX8_stepsCome_133 (by decide) ?_
      refine lv_icmp_ge (tgt := 154) hx hb dX8_stepsCome_134 (by decide) (fun c_ => absurd c_ (by decide)) (fun _ => ?_)
      refine lv_aload_n hx hb dX8_stepsCome_137 rfl (lv_at hl 5 rfl) ?_
      refine lv_iload_n hx hb dX8_stepsCome_138 rfl (lv_at hl 6 rfl) ?_
      refine lv_bipush (v := 9) hx hb dX8_stepsCome_139 (by decide) ?_
      refine lv_iload hx hb dX8_stepsCome_141 (lv_at hl 0 rfl) ?_
      refine bAdd (v := 9) X dX8_stepsCome_143 (by decide) ?_
      refine lv_iconst (v := 0) hx hb dX8_stepsCome_144 (by decide) ?_
      refine bVV (As := [.int 1, .int 9, .int 0]) (rest := []) (wc := [(mM, .inr (8, [.ref mN, .ref mR, .ref mA, .ref mP, .int ch, .ref mT, .int le, .int sp, .ref mD])), (mN, .inl (cyI, 515, .inl (upd (upd (upd nw 26 ((nw 26) + (nw 30))) 26 (((nw 26) + (nw 30)) + (nw 32))) 28 0)))]) (w1 := [(mM, .inr (8, [.ref mN, .ref mR, .ref mA, .ref mP, .int ch, .ref mT, .int le, .int sp, .ref mD])), (mN, .inl (cyI, 515, .inl (upd (upd (upd (upd nw 26 ((nw 26) + (nw 30))) 26 (((nw 26) + (nw 30)) + (nw 32))) 28 0) 29 0)))]) (ws' := [(mM, .inr (8, [.ref mN, .ref mR, .ref mA, .ref mP, .int ch, .ref mT, .int le, .int sp, .ref mD])), (mN, .inl (cyI, 515, .inl (upd (upd (upd (upd nw 26 ((nw 26) + (nw 30))) 26 (((nw 26) + (nw 30)) + (nw 32))) 28 0) 29 0)))]) (ad := [mM, mN]) (wr := []) (nn := 2) (ci := 8) (q0 := 0) X Y (c_tells8 l D cyC cyI mM mN mR mA mP mT mD ch le sp (upd (upd (upd nw 26 ((nw 26) + (nw 30))) 26 (((nw 26) + (nw 30)) + (nw 32))) 28 0) 1 9 0 (upd (upd (upd (upd nw 26 ((nw 26) + (nw 30))) 26 (((nw 26) + (nw 30)) + (nw 32))) 28 0) 29 0) (bTells (i := 29) (by decide) rfl) (bInD (by decide))) gX8_stepsCome_X8_tells rfl ⟨rfl, rfl⟩ hd_X8_tells ⟨(Nat.le_of_ble_eq_true rfl), (Nat.le_of_ble_eq_true rfl)⟩ rfl rfl rfl [0, 1] [] rfl rfl rfl rfl rfl rfl rfl rfl (by decide) rfl rfl hl.1 (Nat.le_of_ble_eq_true rfl) ⟨Nat.zero_le _, Nat.zero_le _⟩ dX8_stepsCome_145 (fun H locs Y => ?_)
      refine lv_iinc (v := 1) (lv' := [(4, .int 1), (6, .int (nw 32)), (5, .int (nw 31)), (3, .int 2), (2, .int 0), (0, .ref mM), (1, .int 1)]) hx hb dX8_stepsCome_148 hl (k := 0) rfl (by decide) (by decide) rfl (fun ls hl => ?_)
      refine lv_goto (tgt := 131) hx hb dX8_stepsCome_151 (by decide) ?_
      refine lv_iload hx hb dX8_stepsCome_131 (lv_at hl 0 rfl) ?_
      refine lv_iconst (v := 4) hx hb dX8_stepsCome_133 (by decide) ?_
      refine lv_icmp_ge (tgt := 154) hx hb dX8_stepsCome_134 (by decide) (fun c_ => absurd c_ (by decide)) (fun _ => ?_)
      refine lv_aload_n hx hb dX8_stepsCome_137 rfl (lv_at hl 5 rfl) ?_
      refine lv_iload_n hx hb dX8_stepsCome_138 rfl (lv_at hl 6 rfl) ?_
      refine lv_bipush (v := 9) hx hb dX8_stepsCome_139 (by decide) ?_
      refine lv_iload hx hb dX8_stepsCome_141 (lv_at hl 0 rfl) ?_
      refine bAdd (v := 10) X dX8_stepsCome_143 (by decide) ?_
      refine lv_iconst (v := 0) hx hb dX8_stepsCome_144 (by decide) ?_
      refine bVV (As := [.int 1, .int 10, .int 0]) (rest := []) (wc := [(mM, .inr (8, [.ref mN, .ref mR, .ref mA, .ref mP, .int ch, .ref mT, .int le, .int sp, .ref mD])), (mN, .inl (cyI, 515, .inl (upd (upd (upd (upd nw 26 ((nw 26) + (nw 30))) 26 (((nw 26) + (nw 30)) + (nw 32))) 28 0) 29 0)))]) (w1 := [(mM, .inr (8, [.ref mN, .ref mR, .ref mA, .ref mP, .int ch, .ref mT, .int le, .int sp, .ref mD])), (mN, .inl (cyI, 515, .inl (upd (upd (upd (upd (upd nw 26 ((nw 26) + (nw 30))) 26 (((nw 26) + (nw 30)) + (nw 32))) 28 0) 29 0) 30 0)))]) (ws' := [(mM, .inr (8, [.ref mN, .ref mR, .ref mA, .ref mP, .int ch, .ref mT, .int le, .int sp, .ref mD])), (mN, .inl (cyI, 515, .inl (upd (upd (upd (upd (upd nw 26 ((nw 26) + (nw 30))) 26 (((nw 26) + (nw 30)) + (nw 32))) 28 0) 29 0) 30 0)))]) (ad := [mM, mN]) (wr := []) (nn := 2) (ci := 8) (q0 := 0) X Y (c_tells8 l D cyC cyI mM mN mR mA mP mT mD ch le sp (upd (upd (upd (upd nw 26 ((nw 26) + (nw 30))) 26 (((nw 26) + (nw 30)) + (nw 32))) 28 0) 29 0) 1 10 0 (upd (upd (upd (upd (upd nw 26 ((nw 26) + (nw 30))) 26 (((nw 26) + (nw 30)) + (nw 32))) 28 0) 29 0) 30 0) (bTells (i := 30) (by decide) rfl) (bInD (by decide))) gX8_stepsCome_X8_tells rfl ⟨rfl, rfl⟩ hd_X8_tells ⟨(Nat.le_of_ble_eq_true rfl), (Nat.le_of_ble_eq_true rfl)⟩ rfl rfl rfl [0, 1] [] rfl rfl rfl rfl rfl rfl rfl rfl (by decide) rfl rfl hl.1 (Nat.le_of_ble_eq_true rfl) ⟨Nat.zero_le _, Nat.zero_le _⟩ dX8_stepsCome_145 (fun H locs Y => ?_)
      refine lv_iinc (v := 2) (lv' := [(4, .int 2), (6, .int (nw 32)), (5, .int (nw 31)), (3, .int 2), (2, .int 0), (0, .ref mM), (1, .int 1)]) hx hb dX8_stepsCome_148 hl (k := 0) rfl (by decide) (by decide) rfl (fun ls hl => ?_)
      refine lv_goto (tgt := 131) hx hb dX8_stepsCome_151 (by decide) ?_
      refine lv_iload hx hb dX8_stepsCome_131 (lv_at hl 0 rfl) ?_
      refine lv_iconst (v := 4) hx hb dX8_stepsCome_133 (by decide) ?_
      refine lv_icmp_ge (tgt := 154) hx hb dX8_stepsCome_134 (by decide) (fun c_ => absurd c_ (by decide)) (fun _ => ?_)
      refine lv_aload_n hx hb dX8_stepsCome_137 rfl (lv_at hl 5 rfl) ?_
      refine lv_iload_n hx hb dX8_stepsCome_138 rfl (lv_at hl 6 rfl) ?_
      refine lv_bipush (v := 9) hx hb dX8_stepsCome_139 (by decide) ?_
      refine lv_iload hx hb dX8_stepsCome_141 (lv_at hl 0 rfl) ?_
      refine bAdd (v := 11) X dX8_stepsCome_143 (by decide) ?_
      refine lv_iconst (v := 0) hx hb dX8_stepsCome_144 (by decide) ?_
      refine bVV (As := [.int 1, .int 11, .int 0]) (rest := []) (wc := [(mM, .inr (8, [.ref mN, .ref mR, .ref mA, .ref mP, .int ch, .ref mT, .int le, .int sp, .ref mD])), (mN, .inl (cyI, 515, .inl (upd (upd (upd (upd (upd nw 26 ((nw 26) + (nw 30))) 26 (((nw 26) + (nw 30)) + (nw 32))) 28 0) 29 0) 30 0)))]) (w1 := [(mM, .inr (8, [.ref mN, .ref mR, .ref mA, .ref mP, .int ch, .ref mT, .int le, .int sp, .ref mD])), (mN, .inl (cyI, 515, .inl (upd (upd (upd (upd (upd (upd nw 26 ((nw 26) + (nw 30))) 26 (((nw 26) + (nw 30)) + (nw 32))) 28 0) 29 0) 30 0) 31 0)))]) (ws' := [(mM, .inr (8, [.ref mN, .ref mR, .ref mA, .ref mP, .int ch, .ref mT, .int le, .int sp, .ref mD])), (mN, .inl (cyI, 515, .inl (upd (upd (upd (upd (upd (upd nw 26 ((nw 26) + (nw 30))) 26 (((nw 26) + (nw 30)) + (nw 32))) 28 0) 29 0) 30 0) 31 0)))]) (ad := [mM, mN]) (wr := []) (nn := 2) (ci := 8) (q0 := 0) X Y (c_tells8 l D cyC cyI mM mN mR mA mP mT mD ch le sp (upd (upd (upd (upd (upd nw 26 ((nw 26) + (nw 30))) 26 (((nw 26) + (nw 30)) + (nw 32))) 28 0) 29 0) 30 0) 1 11 0 (upd (upd (upd (upd (upd (upd nw 26 ((nw 26) + (nw 30))) 26 (((nw 26) + (nw 30)) + (nw 32))) 28 0) 29 0) 30 0) 31 0) (bTells (i := 31) (by decide) rfl) (bInD (by decide))) gX8_stepsCome_X8_tells rfl ⟨rfl, rfl⟩ hd_X8_tells ⟨(Nat.le_of_ble_eq_true rfl), (Nat.le_of_ble_eq_true rfl)⟩ rfl rfl rfl [0, 1] [] rfl rfl rfl rfl rfl rfl rfl rfl (by decide) rfl rfl hl.1 (Nat.le_of_ble_eq_true rfl) ⟨Nat.zero_le _, Nat.zero_le _⟩ dX8_stepsCome_145 (fun H locs Y => ?_)
      refine lv_iinc (v := 3) (lv' := [(4, .int 3), (6, .int (nw 32)), (5, .int (nw 31)), (3, .int 2), (2, .int 0), (0, .ref mM), (1, .int 1)]) hx hb dX8_stepsCome_148 hl (k := 0) rfl (by decide) (by decide) rfl (fun ls hl => ?_)
      refine lv_goto (tgt := 131) hx hb dX8_stepsCome_151 (by decide) ?_
      refine lv_iload hx hb dX8_stepsCome_131 (lv_at hl 0 rfl) ?_
      refine lv_iconst (v := 4) hx hb dX8_stepsCome_133 (by decide) ?_
      refine lv_icmp_ge (tgt := 154) hx hb dX8_stepsCome_134 (by decide) (fun c_ => absurd c_ (by decide)) (fun _ => ?_)
      refine lv_aload_n hx hb dX8_stepsCome_137 rfl (lv_at hl 5 rfl) ?_
      refine lv_iload_n hx hb dX8_stepsCome_138 rfl (lv_at hl 6 rfl) ?_
      refine lv_bipush (v := 9) hx hb dX8_stepsCome_139 (by decide) ?_
      refine lv_iload hx hb dX8_stepsCome_141 (lv_at hl 0 rfl) ?_
      refine bAdd (v := 12) X dX8_stepsCome_143 (by decide) ?_
      refine lv_iconst (v := 0) hx hb dX8_stepsCome_144 (by decide) ?_
      refine bVV (As := [.int 1, .int 12, .int 0]) (rest := []) (wc := [(mM, .inr (8, [.ref mN, .ref mR, .ref mA, .ref mP, .int ch, .ref mT, .int le, .int sp, .ref mD])), (mN, .inl (cyI, 515, .inl (upd (upd (upd (upd (upd (upd nw 26 ((nw 26) + (nw 30))) 26 (((nw 26) + (nw 30)) + (nw 32))) 28 0) 29 0) 30 0) 31 0)))]) (w1 := [(mM, .inr (8, [.ref mN, .ref mR, .ref mA, .ref mP, .int ch, .ref mT, .int le, .int sp, .ref mD])), (mN, .inl (cyI, 515, .inl (upd (upd (upd (upd (upd (upd (upd nw 26 ((nw 26) + (nw 30))) 26 (((nw 26) + (nw 30)) + (nw 32))) 28 0) 29 0) 30 0) 31 0) 32 0)))]) (ws' := [(mM, .inr (8, [.ref mN, .ref mR, .ref mA, .ref mP, .int ch, .ref mT, .int le, .int sp, .ref mD])), (mN, .inl (cyI, 515, .inl (upd (upd (upd (upd (upd (upd (upd nw 26 ((nw 26) + (nw 30))) 26 (((nw 26) + (nw 30)) + (nw 32))) 28 0) 29 0) 30 0) 31 0) 32 0)))]) (ad := [mM, mN]) (wr := []) (nn := 2) (ci := 8) (q0 := 0) X Y (c_tells8 l D cyC cyI mM mN mR mA mP mT mD ch le sp (upd (upd (upd (upd (upd (upd nw 26 ((nw 26) + (nw 30))) 26 (((nw 26) + (nw 30)) + (nw 32))) 28 0) 29 0) 30 0) 31 0) 1 12 0 (upd (upd (upd (upd (upd (upd (upd nw 26 ((nw 26) + (nw 30))) 26 (((nw 26) + (nw 30)) + (nw 32))) 28 0) 29 0) 30 0) 31 0) 32 0) (bTells (i := 32) (by decide) rfl) (bInD (by decide))) gX8_stepsCome_X8_tells rfl ⟨rfl, rfl⟩ hd_X8_tells ⟨(Nat.le_of_ble_eq_true rfl), (Nat.le_of_ble_eq_true rfl)⟩ rfl rfl rfl [0, 1] [] rfl rfl rfl rfl rfl rfl rfl rfl (by decide) rfl rfl hl.1 (Nat.le_of_ble_eq_true rfl) ⟨Nat.zero_le _, Nat.zero_le _⟩ dX8_stepsCome_145 (fun H locs Y => ?_)
      refine lv_iinc (v := 4) (lv' := [(4, .int 4), (6, .int (nw 32)), (5, .int (nw 31)), (3, .int 2), (2, .int 0), (0, .ref mM), (1, .int 1)]) hx hb dX8_stepsCome_148 hl (k := 0) rfl (by decide) (by decide) rfl (fun ls hl => ?_)
      refine lv_goto (tgt := 131) hx hb dX8_stepsCome_151 (by decide) ?_
      refine lv_iload hx hb dX8_stepsCome_131 (lv_at hl 0 rfl) ?_
      refine lv_iconst (v := 4) hx hb dX8_stepsCome_133 (by decide) ?_
      refine lv_icmp_ge (tgt := 154) hx hb dX8_stepsCome_134 (by decide) (fun _ => ?_) (fun c_ => absurd (by decide) c_)
      have h9 := (Prod.mk.inj hu).1
      subst h9
      exact bEndV X Y hr hlk dX8_stepsCome_154 rfl
def s_stepsCome8_0 (nw : Nat → Int32) : (Nat → Int32) × Unit := if nw 15 = 0 then s_stepsCome8_00 nw else if nw 15 = 1 then s_stepsCome8_01 nw else s_stepsCome8_02 nw
theorem c_stepsCome8_0 (l : Launch) (D : va_G) (cyC cyI : ClassId) (mM : Nat) (mN : Nat) (mR : Nat) (mA : Nat) (mP : Nat) (mT : Nat) (mD : Nat) (ch : Int32) (le : Int32) (sp : Int32) (nw : Nat → Int32) (o0 : Nat → Int32) (hu : s_stepsCome8_0 nw = (o0, ())) (hst : nw 15 = 0 ∨ nw 15 = 1 ∨ nw 15 = 2) : CV l yX8_stepsCome wsX8_stepsCome { frames := 1, cells := 0, slots := 0, locals := 23 } D cyC cyI [.ref mM, .int 0] [(mM, .inr (8, [.ref mN, .ref mR, .ref mA, .ref mP, .int ch, .ref mT, .int le, .int sp, .ref mD])), (mN, .inl (cyI, 515, .inl nw))] [(mM, .inr (8, [.ref mN, .ref mR, .ref mA, .ref mP, .int ch, .ref mT, .int le, .int sp, .ref mD])), (mN, .inl (cyI, 515, .inl o0))] := by
  unfold s_stepsCome8_0 at hu
  rcases hst with h9 | h9 | h9
  · rw [if_pos h9] at hu
    exact c_stepsCome8_00 l D cyC cyI mM mN mR mA mP mT mD ch le sp nw o0 hu h9
  · rw [if_neg (by rw [h9]; decide), if_pos h9] at hu
    exact c_stepsCome8_01 l D cyC cyI mM mN mR mA mP mT mD ch le sp nw o0 hu h9
  · rw [if_neg (by rw [h9]; decide), if_neg (by rw [h9]; decide)] at hu
    exact c_stepsCome8_02 l D cyC cyI mM mN mR mA mP mT mD ch le sp nw o0 hu h9
def s_stepsCome8_1 (nw : Nat → Int32) : (Nat → Int32) × Unit := if nw 28 = 0 then s_stepsCome8_10 nw else if nw 28 = 1 then s_stepsCome8_11 nw else s_stepsCome8_12 nw
theorem c_stepsCome8_1 (l : Launch) (D : va_G) (cyC cyI : ClassId) (mM : Nat) (mN : Nat) (mR : Nat) (mA : Nat) (mP : Nat) (mT : Nat) (mD : Nat) (ch : Int32) (le : Int32) (sp : Int32) (nw : Nat → Int32) (o0 : Nat → Int32) (hu : s_stepsCome8_1 nw = (o0, ())) (hst : nw 28 = 0 ∨ nw 28 = 1 ∨ nw 28 = 2) : CV l yX8_stepsCome wsX8_stepsCome { frames := 1, cells := 0, slots := 0, locals := 23 } D cyC cyI [.ref mM, .int 1] [(mM, .inr (8, [.ref mN, .ref mR, .ref mA, .ref mP, .int ch, .ref mT, .int le, .int sp, .ref mD])), (mN, .inl (cyI, 515, .inl nw))] [(mM, .inr (8, [.ref mN, .ref mR, .ref mA, .ref mP, .int ch, .ref mT, .int le, .int sp, .ref mD])), (mN, .inl (cyI, 515, .inl o0))] := by
  unfold s_stepsCome8_1 at hu
  rcases hst with h9 | h9 | h9
  · rw [if_pos h9] at hu
    exact c_stepsCome8_10 l D cyC cyI mM mN mR mA mP mT mD ch le sp nw o0 hu h9
  · rw [if_neg (by rw [h9]; decide), if_pos h9] at hu
    exact c_stepsCome8_11 l D cyC cyI mM mN mR mA mP mT mD ch le sp nw o0 hu h9
  · rw [if_neg (by rw [h9]; decide), if_neg (by rw [h9]; decide)] at hu
    exact c_stepsCome8_12 l D cyC cyI mM mN mR mA mP mT mD ch le sp nw o0 hu h9
theorem hd_X8_limitOf : bD1 yX8_limitOf RX8 1 := by decide +kernel
theorem i_X8_wanted_X8 : ∀ w ∈ wsX80, w ∈ wsX8_wanted := by decide +kernel
theorem f_X8_wanted_7 : Cond.fieldLink RX8 7 "SwingCranesModel" "now" "[I" ∈ wsX8_wanted := by decide +kernel
def s_wanted8_0 (nw : Nat → Int32) : Int32 :=
  if (nw 13) ≤ (s_limitOf8_0 nw) then
    if (-(s_limitOf8_0 nw)) ≤ (nw 13) then
      if (nw 13) - (nw 8) ≤ (nw 2) then
        if (-(nw 2)) ≤ (nw 13) - (nw 8) then
          (nw 8) + ((nw 13) - (nw 8))
        else
          (nw 8) + (-(nw 2))
      else
        (nw 8) + (nw 2)
    else
      if (-(s_limitOf8_0 nw)) - (nw 8) ≤ (nw 2) then
        if (-(nw 2)) ≤ (-(s_limitOf8_0 nw)) - (nw 8) then
          (nw 8) + ((-(s_limitOf8_0 nw)) - (nw 8))
        else
          (nw 8) + (-(nw 2))
      else
        (nw 8) + (nw 2)
  else
    if (s_limitOf8_0 nw) - (nw 8) ≤ (nw 2) then
      if (-(nw 2)) ≤ (s_limitOf8_0 nw) - (nw 8) then
        (nw 8) + ((s_limitOf8_0 nw) - (nw 8))
      else
        (nw 8) + (-(nw 2))
    else
      (nw 8) + (nw 2)
set_option maxHeartbeats 4000000 in
set_option maxRecDepth 100000 in
theorem c_wanted8_0 (l : Launch) (D : va_G) (cyC cyI : ClassId) (mM : Nat) (mN : Nat) (mR : Nat) (mA : Nat) (mP : Nat) (mT : Nat) (mD : Nat) (ch : Int32) (le : Int32) (sp : Int32) (nw : Nat → Int32) (o0 : Int32) (hu : s_wanted8_0 nw = o0) : CI l yX8_wanted wsX8_wanted { frames := 2, cells := 0, slots := 0, locals := 44 } D cyC cyI [.ref mM, .int 0] [(mM, .inr (8, [.ref mN, .ref mR, .ref mA, .ref mP, .int ch, .ref mT, .int le, .int sp, .ref mD])), (mN, .inl (cyI, 515, .inl nw))] o0 [(mM, .inr (8, [.ref mN, .ref mR, .ref mA, .ref mP, .int ch, .ref mT, .int le, .int sp, .ref mD])), (mN, .inl (cyI, 515, .inl nw))] := by
  refine CI.of (cc := cX8_wanted) (n := 6) (ret := (some .int)) (by decide +kernel) rfl (Nat.le_of_ble_eq_true rfl) ?_
  intro p_ e_ s_ m_ bl_ me_ cd_ A_ ls X Y hr hlk hl
  have hx := X.1.1
  have hb := X.1.2.1
  have hl : lv_has ls 6 [(0, .ref mM), (1, .int 0)] := hl
  unfold s_wanted8_0 at hu
  refine lv_aload_n hx hb dX8_wanted_0 rfl (lv_at hl 0 rfl) ?_
  refine lv_iload_n hx hb dX8_wanted_1 rfl (lv_at hl 1 rfl) ?_
  refine bVI0 (As := [.int 0]) (rest := []) (wc := [(mM, .inr (8, [.ref mN, .ref mR, .ref mA, .ref mP, .int ch, .ref mT, .int le, .int sp, .ref mD])), (mN, .inl (cyI, 515, .inl nw))]) (ci := 8) (q0 := 0) X Y (c_limitOf8_0 l D cyC cyI mM mN mR mA mP mT mD ch le sp nw (s_limitOf8_0 nw) rfl) gX8_wanted_X8_limitOf rfl ⟨rfl, rfl⟩ hd_X8_limitOf ⟨(Nat.le_of_ble_eq_true rfl), (Nat.le_of_ble_eq_true rfl)⟩ rfl rfl rfl [0, 1] rfl rfl rfl rfl hl.1 (Nat.le_of_ble_eq_true rfl) ⟨Nat.zero_le _, Nat.zero_le _⟩ dX8_wanted_2 (fun H locs Y => ?_)
  refine lv_istore_n (lv' := [(2, .int (s_limitOf8_0 nw)), (0, .ref mM), (1, .int 0)]) hx hb dX8_wanted_5 rfl hl (by decide) rfl (fun ls hl => ?_)
  refine lv_aload_n hx hb dX8_wanted_6 rfl (lv_at hl 1 rfl) ?_
  refine lv_iload_n hx hb dX8_wanted_7 rfl (lv_at hl 2 rfl) ?_
  refine lv_bipush (v := 6) hx hb dX8_wanted_8 (by decide) ?_
  refine bVI0 (As := [.int 0, .int 6]) (rest := []) (wc := [(mM, .inr (8, [.ref mN, .ref mR, .ref mA, .ref mP, .int ch, .ref mT, .int le, .int sp, .ref mD])), (mN, .inl (cyI, 515, .inl nw))]) (ci := 8) (q0 := 0) X Y (c_of8 l D cyC cyI mM mN mR mA mP mT mD ch le sp nw 0 6 (nw 13) (bOf (i := 13) (by decide) rfl) (bInD (by decide))) gX8_wanted_X8_of rfl ⟨rfl, rfl⟩ hd_X8_of ⟨(Nat.le_of_ble_eq_true rfl), (Nat.le_of_ble_eq_true rfl)⟩ rfl rfl rfl [0, 1] rfl rfl rfl rfl hl.1 (Nat.le_of_ble_eq_true rfl) ⟨Nat.zero_le _, Nat.zero_le _⟩ dX8_wanted_10 (fun H locs Y => ?_)
  refine lv_istore_n (lv' := [(3, .int (nw 13)), (2, .int (s_limitOf8_0 nw)), (0, .ref mM), (1, .int 0)]) hx hb dX8_wanted_13 rfl hl (by decide) rfl (fun ls hl => ?_)
  refine lv_iload_n hx hb dX8_wanted_14 rfl (lv_at hl 0 rfl) ?_
  refine lv_iload_n hx hb dX8_wanted_15 rfl (lv_at hl 1 rfl) ?_
  refine lv_icmp_le (tgt := 23) hx hb dX8_wanted_16 (by decide) (fun c_1 => ?_) (fun c_1 => ?_)
  · have c_1 : (nw 13) ≤ (s_limitOf8_0 nw) := c_1
    rw [if_pos c_1] at hu
    refine lv_iload_n hx hb dX8_wanted_23 rfl (lv_at hl 0 rfl) ?_
    refine lv_iload_n hx hb dX8_wanted_24 rfl (lv_at hl 1 rfl) ?_
    refine bNeg (v := -(s_limitOf8_0 nw)) X dX8_wanted_25 rfl ?_
    refine lv_icmp_ge (tgt := 34) hx hb dX8_wanted_26 (by decide) (fun c_2 => ?_) (fun c_2 => ?_)
    · have c_2 : (-(s_limitOf8_0 nw)) ≤ (nw 13) := c_2
      rw [if_pos c_2] at hu
      refine lv_iload_n hx hb dX8_wanted_34 rfl (lv_at hl 0 rfl) ?_
      refine lv_istore_n (lv' := [(3, .int (nw 13)), (2, .int (s_limitOf8_0 nw)), (0, .ref mM), (1, .int 0)]) hx hb dX8_wanted_35 rfl hl (by decide) rfl (fun ls hl => ?_)
      refine lv_aload_n hx hb dX8_wanted_36 rfl (lv_at hl 2 rfl) ?_
      refine lv_iload_n hx hb dX8_wanted_37 rfl (lv_at hl 3 rfl) ?_
      refine lv_iconst (v := 1) hx hb dX8_wanted_38 (by decide) ?_
      refine bVI0 (As := [.int 0, .int 1]) (rest := []) (wc := [(mM, .inr (8, [.ref mN, .ref mR, .ref mA, .ref mP, .int ch, .ref mT, .int le, .int sp, .ref mD])), (mN, .inl (cyI, 515, .inl nw))]) (ci := 8) (q0 := 0) X Y (c_of8 l D cyC cyI mM mN mR mA mP mT mD ch le sp nw 0 1 (nw 8) (bOf (i := 8) (by decide) rfl) (bInD (by decide))) gX8_wanted_X8_of rfl ⟨rfl, rfl⟩ hd_X8_of ⟨(Nat.le_of_ble_eq_true rfl), (Nat.le_of_ble_eq_true rfl)⟩ rfl rfl rfl [0, 1] rfl rfl rfl rfl hl.1 (Nat.le_of_ble_eq_true rfl) ⟨Nat.zero_le _, Nat.zero_le _⟩ dX8_wanted_39 (fun H locs Y => ?_)
      refine lv_istore (lv' := [(4, .int (nw 8)), (3, .int (nw 13)), (2, .int (s_limitOf8_0 nw)), (0, .ref mM), (1, .int 0)]) hx hb dX8_wanted_42 hl (by decide) rfl (fun ls hl => ?_)
      refine lv_iload_n hx hb dX8_wanted_44 rfl (lv_at hl 1 rfl) ?_
      refine lv_iload hx hb dX8_wanted_45 (lv_at hl 0 rfl) ?_
      refine bSub (v := (nw 13) - (nw 8)) X dX8_wanted_47 rfl ?_
      refine lv_istore (lv' := [(5, .int ((nw 13) - (nw 8))), (4, .int (nw 8)), (3, .int (nw 13)), (2, .int (s_limitOf8_0 nw)), (0, .ref mM), (1, .int 0)]) hx hb dX8_wanted_48 hl (by decide) rfl (fun ls hl => ?_)
      refine lv_iload hx hb dX8_wanted_50 (lv_at hl 0 rfl) ?_
      refine lv_aload_n hx hb dX8_wanted_52 rfl (lv_at hl 4 rfl) ?_
      refine bGet (v := .ref mN) (T := TX8) (N := 9) (ci := 8) X Y i_X8_wanted_X8 0 rfl rfl 0 (Nat.le_of_ble_eq_true rfl) f_X8_wanted_7 rfl rfl dX8_wanted_53 ?_
      refine lv_iconst (v := 2) hx hb dX8_wanted_56 (by decide) ?_
      refine bIald (v := nw 2) X Y 1 rfl (bInD (by decide)) dX8_wanted_57 rfl ?_
      refine lv_icmp_le (tgt := 70) hx hb dX8_wanted_58 (by decide) (fun c_3 => ?_) (fun c_3 => ?_)
      · have c_3 : (nw 13) - (nw 8) ≤ (nw 2) := c_3
        rw [if_pos c_3] at hu
        refine lv_iload hx hb dX8_wanted_70 (lv_at hl 0 rfl) ?_
        refine lv_aload_n hx hb dX8_wanted_72 rfl (lv_at hl 4 rfl) ?_
        refine bGet (v := .ref mN) (T := TX8) (N := 9) (ci := 8) X Y i_X8_wanted_X8 0 rfl rfl 0 (Nat.le_of_ble_eq_true rfl) f_X8_wanted_7 rfl rfl dX8_wanted_73 ?_
        refine lv_iconst (v := 2) hx hb dX8_wanted_76 (by decide) ?_
        refine bIald (v := nw 2) X Y 1 rfl (bInD (by decide)) dX8_wanted_77 rfl ?_
        refine bNeg (v := -(nw 2)) X dX8_wanted_78 rfl ?_
        refine lv_icmp_ge (tgt := 92) hx hb dX8_wanted_79 (by decide) (fun c_4 => ?_) (fun c_4 => ?_)
        · have c_4 : (-(nw 2)) ≤ (nw 13) - (nw 8) := c_4
          rw [if_pos c_4] at hu
          refine lv_iload hx hb dX8_wanted_92 (lv_at hl 0 rfl) ?_
          refine lv_istore (lv' := [(5, .int ((nw 13) - (nw 8))), (4, .int (nw 8)), (3, .int (nw 13)), (2, .int (s_limitOf8_0 nw)), (0, .ref mM), (1, .int 0)]) hx hb dX8_wanted_94 hl (by decide) rfl (fun ls hl => ?_)
          refine lv_iload hx hb dX8_wanted_96 (lv_at hl 1 rfl) ?_
          refine lv_iload hx hb dX8_wanted_98 (lv_at hl 0 rfl) ?_
          refine bAdd (v := (nw 8) + ((nw 13) - (nw 8))) X dX8_wanted_100 rfl ?_
          subst hu
          exact bEndI X Y hr hlk dX8_wanted_101 rfl rfl
        · have c_4 : ¬ ((-(nw 2)) ≤ (nw 13) - (nw 8)) := c_4
          rw [if_neg c_4] at hu
          refine lv_aload_n hx hb dX8_wanted_82 rfl (lv_at hl 4 rfl) ?_
          refine bGet (v := .ref mN) (T := TX8) (N := 9) (ci := 8) X Y i_X8_wanted_X8 0 rfl rfl 0 (Nat.le_of_ble_eq_true rfl) f_X8_wanted_7 rfl rfl dX8_wanted_83 ?_
          refine lv_iconst (v := 2) hx hb dX8_wanted_86 (by decide) ?_
          refine bIald (v := nw 2) X Y 1 rfl (bInD (by decide)) dX8_wanted_87 rfl ?_
          refine bNeg (v := -(nw 2)) X dX8_wanted_88 rfl ?_
          refine lv_goto (tgt := 94) hx hb dX8_wanted_89 (by decide) ?_
          refine lv_istore (lv' := [(5, .int (-(nw 2))), (4, .int (nw 8)), (3, .int (nw 13)), (2, .int (s_limitOf8_0 nw)), (0, .ref mM), (1, .int 0)]) hx hb dX8_wanted_94 hl (by decide) rfl (fun ls hl => ?_)
          refine lv_iload hx hb dX8_wanted_96 (lv_at hl 1 rfl) ?_
          refine lv_iload hx hb dX8_wanted_98 (lv_at hl 0 rfl) ?_
          refine bAdd (v := (nw 8) + (-(nw 2))) X dX8_wanted_100 rfl ?_
          subst hu
          exact bEndI X Y hr hlk dX8_wanted_101 rfl rfl
      · have c_3 : ¬ ((nw 13) - (nw 8) ≤ (nw 2)) := c_3
        rw [if_neg c_3] at hu
        refine lv_aload_n hx hb dX8_wanted_61 rfl (lv_at hl 4 rfl) ?_
        refine bGet (v := .ref mN) (T := TX8) (N := 9) (ci := 8) X Y i_X8_wanted_X8 0 rfl rfl 0 (Nat.le_of_ble_eq_true rfl) f_X8_wanted_7 rfl rfl dX8_wanted_62 ?_
        refine lv_iconst (v := 2) hx hb dX8_wanted_65 (by decide) ?_
        refine bIald (v := nw 2) X Y 1 rfl (bInD (by decide)) dX8_wanted_66 rfl ?_
        refine lv_goto (tgt := 94) hx hb dX8_wanted_67 (by decide) ?_
        refine lv_istore (lv' := [(5, .int (nw 2)), (4, .int (nw 8)), (3, .int (nw 13)), (2, .int (s_limitOf8_0 nw)), (0, .ref mM), (1, .int 0)]) hx hb dX8_wanted_94 hl (by decide) rfl (fun ls hl => ?_)
        refine lv_iload hx hb dX8_wanted_96 (lv_at hl 1 rfl) ?_
        refine lv_iload hx hb dX8_wanted_98 (lv_at hl 0 rfl) ?_
        refine bAdd (v := (nw 8) + (nw 2)) X dX8_wanted_100 rfl ?_
        subst hu
        exact bEndI X Y hr hlk dX8_wanted_101 rfl rfl
    · have c_2 : ¬ ((-(s_limitOf8_0 nw)) ≤ (nw 13)) := c_2
      rw [if_neg c_2] at hu
      refine lv_iload_n hx hb dX8_wanted_29 rfl (lv_at hl 1 rfl) ?_
      refine bNeg (v := -(s_limitOf8_0 nw)) X dX8_wanted_30 rfl ?_
      refine lv_goto (tgt := 35) hx hb dX8_wanted_31 (by decide) ?_
      refine lv_istore_n (lv' := [(3, .int (-(s_limitOf8_0 nw))), (2, .int (s_limitOf8_0 nw)), (0, .ref mM), (1, .int 0)]) hx hb dX8_wanted_35 rfl hl (by decide) rfl (fun ls hl => ?_)
      refine lv_aload_n hx hb dX8_wanted_36 rfl (lv_at hl 2 rfl) ?_
      refine lv_iload_n hx hb dX8_wanted_37 rfl (lv_at hl 3 rfl) ?_
      refine lv_iconst (v := 1) hx hb dX8_wanted_38 (by decide) ?_
      refine bVI0 (As := [.int 0, .int 1]) (rest := []) (wc := [(mM, .inr (8, [.ref mN, .ref mR, .ref mA, .ref mP, .int ch, .ref mT, .int le, .int sp, .ref mD])), (mN, .inl (cyI, 515, .inl nw))]) (ci := 8) (q0 := 0) X Y (c_of8 l D cyC cyI mM mN mR mA mP mT mD ch le sp nw 0 1 (nw 8) (bOf (i := 8) (by decide) rfl) (bInD (by decide))) gX8_wanted_X8_of rfl ⟨rfl, rfl⟩ hd_X8_of ⟨(Nat.le_of_ble_eq_true rfl), (Nat.le_of_ble_eq_true rfl)⟩ rfl rfl rfl [0, 1] rfl rfl rfl rfl hl.1 (Nat.le_of_ble_eq_true rfl) ⟨Nat.zero_le _, Nat.zero_le _⟩ dX8_wanted_39 (fun H locs Y => ?_)
      refine lv_istore (lv' := [(4, .int (nw 8)), (3, .int (-(s_limitOf8_0 nw))), (2, .int (s_limitOf8_0 nw)), (0, .ref mM), (1, .int 0)]) hx hb dX8_wanted_42 hl (by decide) rfl (fun ls hl => ?_)
      refine lv_iload_n hx hb dX8_wanted_44 rfl (lv_at hl 1 rfl) ?_
      refine lv_iload hx hb dX8_wanted_45 (lv_at hl 0 rfl) ?_
      refine bSub (v := (-(s_limitOf8_0 nw)) - (nw 8)) X dX8_wanted_47 rfl ?_
      refine lv_istore (lv' := [(5, .int ((-(s_limitOf8_0 nw)) - (nw 8))), (4, .int (nw 8)), (3, .int (-(s_limitOf8_0 nw))), (2, .int (s_limitOf8_0 nw)), (0, .ref mM), (1, .int 0)]) hx hb dX8_wanted_48 hl (by decide) rfl (fun ls hl => ?_)
      refine lv_iload hx hb dX8_wanted_50 (lv_at hl 0 rfl) ?_
      refine lv_aload_n hx hb dX8_wanted_52 rfl (lv_at hl 4 rfl) ?_
      refine bGet (v := .ref mN) (T := TX8) (N := 9) (ci := 8) X Y i_X8_wanted_X8 0 rfl rfl 0 (Nat.le_of_ble_eq_true rfl) f_X8_wanted_7 rfl rfl dX8_wanted_53 ?_
      refine lv_iconst (v := 2) hx hb dX8_wanted_56 (by decide) ?_
      refine bIald (v := nw 2) X Y 1 rfl (bInD (by decide)) dX8_wanted_57 rfl ?_
      refine lv_icmp_le (tgt := 70) hx hb dX8_wanted_58 (by decide) (fun c_5 => ?_) (fun c_5 => ?_)
      · have c_5 : (-(s_limitOf8_0 nw)) - (nw 8) ≤ (nw 2) := c_5
        rw [if_pos c_5] at hu
        refine lv_iload hx hb dX8_wanted_70 (lv_at hl 0 rfl) ?_
        refine lv_aload_n hx hb dX8_wanted_72 rfl (lv_at hl 4 rfl) ?_
        refine bGet (v := .ref mN) (T := TX8) (N := 9) (ci := 8) X Y i_X8_wanted_X8 0 rfl rfl 0 (Nat.le_of_ble_eq_true rfl) f_X8_wanted_7 rfl rfl dX8_wanted_73 ?_
        refine lv_iconst (v := 2) hx hb dX8_wanted_76 (by decide) ?_
        refine bIald (v := nw 2) X Y 1 rfl (bInD (by decide)) dX8_wanted_77 rfl ?_
        refine bNeg (v := -(nw 2)) X dX8_wanted_78 rfl ?_
        refine lv_icmp_ge (tgt := 92) hx hb dX8_wanted_79 (by decide) (fun c_6 => ?_) (fun c_6 => ?_)
        · have c_6 : (-(nw 2)) ≤ (-(s_limitOf8_0 nw)) - (nw 8) := c_6
          rw [if_pos c_6] at hu
          refine lv_iload hx hb dX8_wanted_92 (lv_at hl 0 rfl) ?_
          refine lv_istore (lv' := [(5, .int ((-(s_limitOf8_0 nw)) - (nw 8))), (4, .int (nw 8)), (3, .int (-(s_limitOf8_0 nw))), (2, .int (s_limitOf8_0 nw)), (0, .ref mM), (1, .int 0)]) hx hb dX8_wanted_94 hl (by decide) rfl (fun ls hl => ?_)
          refine lv_iload hx hb dX8_wanted_96 (lv_at hl 1 rfl) ?_
          refine lv_iload hx hb dX8_wanted_98 (lv_at hl 0 rfl) ?_
          refine bAdd (v := (nw 8) + ((-(s_limitOf8_0 nw)) - (nw 8))) X dX8_wanted_100 rfl ?_
          subst hu
          exact bEndI X Y hr hlk dX8_wanted_101 rfl rfl
        · have c_6 : ¬ ((-(nw 2)) ≤ (-(s_limitOf8_0 nw)) - (nw 8)) := c_6
          rw [if_neg c_6] at hu
          refine lv_aload_n hx hb dX8_wanted_82 rfl (lv_at hl 4 rfl) ?_
          refine bGet (v := .ref mN) (T := TX8) (N := 9) (ci := 8) X Y i_X8_wanted_X8 0 rfl rfl 0 (Nat.le_of_ble_eq_true rfl) f_X8_wanted_7 rfl rfl dX8_wanted_83 ?_
          refine lv_iconst (v := 2) hx hb dX8_wanted_86 (by decide) ?_
          refine bIald (v := nw 2) X Y 1 rfl (bInD (by decide)) dX8_wanted_87 rfl ?_
          refine bNeg (v := -(nw 2)) X dX8_wanted_88 rfl ?_
          refine lv_goto (tgt := 94) hx hb dX8_wanted_89 (by decide) ?_
          refine lv_istore (lv' := [(5, .int (-(nw 2))), (4, .int (nw 8)), (3, .int (-(s_limitOf8_0 nw))), (2, .int (s_limitOf8_0 nw)), (0, .ref mM), (1, .int 0)]) hx hb dX8_wanted_94 hl (by decide) rfl (fun ls hl => ?_)
          refine lv_iload hx hb dX8_wanted_96 (lv_at hl 1 rfl) ?_
          refine lv_iload hx hb dX8_wanted_98 (lv_at hl 0 rfl) ?_
          refine bAdd (v := (nw 8) + (-(nw 2))) X dX8_wanted_100 rfl ?_
          subst hu
          exact bEndI X Y hr hlk dX8_wanted_101 rfl rfl
      · have c_5 : ¬ ((-(s_limitOf8_0 nw)) - (nw 8) ≤ (nw 2)) := c_5
        rw [if_neg c_5] at hu
        refine lv_aload_n hx hb dX8_wanted_61 rfl (lv_at hl 4 rfl) ?_
        refine bGet (v := .ref mN) (T := TX8) (N := 9) (ci := 8) X Y i_X8_wanted_X8 0 rfl rfl 0 (Nat.le_of_ble_eq_true rfl) f_X8_wanted_7 rfl rfl dX8_wanted_62 ?_
        refine lv_iconst (v := 2) hx hb dX8_wanted_65 (by decide) ?_
        refine bIald (v := nw 2) X Y 1 rfl (bInD (by decide)) dX8_wanted_66 rfl ?_
        refine lv_goto (tgt := 94) hx hb dX8_wanted_67 (by decide) ?_
        refine lv_istore (lv' := [(5, .int (nw 2)), (4, .int (nw 8)), (3, .int (-(s_limitOf8_0 nw))), (2, .int (s_limitOf8_0 nw)), (0, .ref mM), (1, .int 0)]) hx hb dX8_wanted_94 hl (by decide) rfl (fun ls hl => ?_)
        refine lv_iload hx hb dX8_wanted_96 (lv_at hl 1 rfl) ?_
        refine lv_iload hx hb dX8_wanted_98 (lv_at hl 0 rfl) ?_
        refine bAdd (v := (nw 8) + (nw 2)) X dX8_wanted_100 rfl ?_
        subst hu
        exact bEndI X Y hr hlk dX8_wanted_101 rfl rfl
  · have c_1 : ¬ ((nw 13) ≤ (s_limitOf8_0 nw)) := c_1
    rw [if_neg c_1] at hu
    refine lv_iload_n hx hb dX8_wanted_19 rfl (lv_at hl 1 rfl) ?_
    refine lv_goto (tgt := 35) hx hb dX8_wanted_20 (by decide) ?_
    refine lv_istore_n (lv' := [(3, .int (s_limitOf8_0 nw)), (2, .int (s_limitOf8_0 nw)), (0, .ref mM), (1, .int 0)]) hx hb dX8_wanted_35 rfl hl (by decide) rfl (fun ls hl => ?_)
    refine lv_aload_n hx hb dX8_wanted_36 rfl (lv_at hl 2 rfl) ?_
    refine lv_iload_n hx hb dX8_wanted_37 rfl (lv_at hl 3 rfl) ?_
    refine lv_iconst (v := 1) hx hb dX8_wanted_38 (by decide) ?_
    refine bVI0 (As := [.int 0, .int 1]) (rest := []) (wc := [(mM, .inr (8, [.ref mN, .ref mR, .ref mA, .ref mP, .int ch, .ref mT, .int le, .int sp, .ref mD])), (mN, .inl (cyI, 515, .inl nw))]) (ci := 8) (q0 := 0) X Y (c_of8 l D cyC cyI mM mN mR mA mP mT mD ch le sp nw 0 1 (nw 8) (bOf (i := 8) (by decide) rfl) (bInD (by decide))) gX8_wanted_X8_of rfl ⟨rfl, rfl⟩ hd_X8_of ⟨(Nat.le_of_ble_eq_true rfl), (Nat.le_of_ble_eq_true rfl)⟩ rfl rfl rfl [0, 1] rfl rfl rfl rfl hl.1 (Nat.le_of_ble_eq_true rfl) ⟨Nat.zero_le _, Nat.zero_le _⟩ dX8_wanted_39 (fun H locs Y => ?_)
    refine lv_istore (lv' := [(4, .int (nw 8)), (3, .int (s_limitOf8_0 nw)), (2, .int (s_limitOf8_0 nw)), (0, .ref mM), (1, .int 0)]) hx hb dX8_wanted_42 hl (by decide) rfl (fun ls hl => ?_)
    refine lv_iload_n hx hb dX8_wanted_44 rfl (lv_at hl 1 rfl) ?_
    refine lv_iload hx hb dX8_wanted_45 (lv_at hl 0 rfl) ?_
    refine bSub (v := (s_limitOf8_0 nw) - (nw 8)) X dX8_wanted_47 rfl ?_
    refine lv_istore (lv' := [(5, .int ((s_limitOf8_0 nw) - (nw 8))), (4, .int (nw 8)), (3, .int (s_limitOf8_0 nw)), (2, .int (s_limitOf8_0 nw)), (0, .ref mM), (1, .int 0)]) hx hb dX8_wanted_48 hl (by decide) rfl (fun ls hl => ?_)
    refine lv_iload hx hb dX8_wanted_50 (lv_at hl 0 rfl) ?_
    refine lv_aload_n hx hb dX8_wanted_52 rfl (lv_at hl 4 rfl) ?_
    refine bGet (v := .ref mN) (T := TX8) (N := 9) (ci := 8) X Y i_X8_wanted_X8 0 rfl rfl 0 (Nat.le_of_ble_eq_true rfl) f_X8_wanted_7 rfl rfl dX8_wanted_53 ?_
    refine lv_iconst (v := 2) hx hb dX8_wanted_56 (by decide) ?_
    refine bIald (v := nw 2) X Y 1 rfl (bInD (by decide)) dX8_wanted_57 rfl ?_
    refine lv_icmp_le (tgt := 70) hx hb dX8_wanted_58 (by decide) (fun c_7 => ?_) (fun c_7 => ?_)
    · have c_7 : (s_limitOf8_0 nw) - (nw 8) ≤ (nw 2) := c_7
      rw [if_pos c_7] at hu
      refine lv_iload hx hb dX8_wanted_70 (lv_at hl 0 rfl) ?_
      refine lv_aload_n hx hb dX8_wanted_72 rfl (lv_at hl 4 rfl) ?_
      refine bGet (v := .ref mN) (T := TX8) (N := 9) (ci := 8) X Y i_X8_wanted_X8 0 rfl rfl 0 (Nat.le_of_ble_eq_true rfl) f_X8_wanted_7 rfl rfl dX8_wanted_73 ?_
      refine lv_iconst (v := 2) hx hb dX8_wanted_76 (by decide) ?_
      refine bIald (v := nw 2) X Y 1 rfl (bInD (by decide)) dX8_wanted_77 rfl ?_
      refine bNeg (v := -(nw 2)) X dX8_wanted_78 rfl ?_
      refine lv_icmp_ge (tgt := 92) hx hb dX8_wanted_79 (by decide) (fun c_8 => ?_) (fun c_8 => ?_)
      · have c_8 : (-(nw 2)) ≤ (s_limitOf8_0 nw) - (nw 8) := c_8
        rw [if_pos c_8] at hu
        refine lv_iload hx hb dX8_wanted_92 (lv_at hl 0 rfl) ?_
        refine lv_istore (lv' := [(5, .int ((s_limitOf8_0 nw) - (nw 8))), (4, .int (nw 8)), (3, .int (s_limitOf8_0 nw)), (2, .int (s_limitOf8_0 nw)), (0, .ref mM), (1, .int 0)]) hx hb dX8_wanted_94 hl (by decide) rfl (fun ls hl => ?_)
        refine lv_iload hx hb dX8_wanted_96 (lv_at hl 1 rfl) ?_
        refine lv_iload hx hb dX8_wanted_98 (lv_at hl 0 rfl) ?_
        refine bAdd (v := (nw 8) + ((s_limitOf8_0 nw) - (nw 8))) X dX8_wanted_100 rfl ?_
        subst hu
        exact bEndI X Y hr hlk dX8_wanted_101 rfl rfl
      · have c_8 : ¬ ((-(nw 2)) ≤ (s_limitOf8_0 nw) - (nw 8)) := c_8
        rw [if_neg c_8] at hu
        refine lv_aload_n hx hb dX8_wanted_82 rfl (lv_at hl 4 rfl) ?_
        refine bGet (v := .ref mN) (T := TX8) (N := 9) (ci := 8) X Y i_X8_wanted_X8 0 rfl rfl 0 (Nat.le_of_ble_eq_true rfl) f_X8_wanted_7 rfl rfl dX8_wanted_83 ?_
        refine lv_iconst (v := 2) hx hb dX8_wanted_86 (by decide) ?_
        refine bIald (v := nw 2) X Y 1 rfl (bInD (by decide)) dX8_wanted_87 rfl ?_
        refine bNeg (v := -(nw 2)) X dX8_wanted_88 rfl ?_
        refine lv_goto (tgt := 94) hx hb dX8_wanted_89 (by decide) ?_
        refine lv_istore (lv' := [(5, .int (-(nw 2))), (4, .int (nw 8)), (3, .int (s_limitOf8_0 nw)), (2, .int (s_limitOf8_0 nw)), (0, .ref mM), (1, .int 0)]) hx hb dX8_wanted_94 hl (by decide) rfl (fun ls hl => ?_)
        refine lv_iload hx hb dX8_wanted_96 (lv_at hl 1 rfl) ?_
        refine lv_iload hx hb dX8_wanted_98 (lv_at hl 0 rfl) ?_
        refine bAdd (v := (nw 8) + (-(nw 2))) X dX8_wanted_100 rfl ?_
        subst hu
        exact bEndI X Y hr hlk dX8_wanted_101 rfl rfl
    · have c_7 : ¬ ((s_limitOf8_0 nw) - (nw 8) ≤ (nw 2)) := c_7
      rw [if_neg c_7] at hu
      refine lv_aload_n hx hb dX8_wanted_61 rfl (lv_at hl 4 rfl) ?_
      refine bGet (v := .ref mN) (T := TX8) (N := 9) (ci := 8) X Y i_X8_wanted_X8 0 rfl rfl 0 (Nat.le_of_ble_eq_true rfl) f_X8_wanted_7 rfl rfl dX8_wanted_62 ?_
      refine lv_iconst (v := 2) hx hb dX8_wanted_65 (by decide) ?_
      refine bIald (v := nw 2) X Y 1 rfl (bInD (by decide)) dX8_wanted_66 rfl ?_
      refine lv_goto (tgt := 94) hx hb dX8_wanted_67 (by decide) ?_
      refine lv_istore (lv' := [(5, .int (nw 2)), (4, .int (nw 8)), (3, .int (s_limitOf8_0 nw)), (2, .int (s_limitOf8_0 nw)), (0, .ref mM), (1, .int 0)]) hx hb dX8_wanted_94 hl (by decide) rfl (fun ls hl => ?_)
      refine lv_iload hx hb dX8_wanted_96 (lv_at hl 1 rfl) ?_
      refine lv_iload hx hb dX8_wanted_98 (lv_at hl 0 rfl) ?_
      refine bAdd (v := (nw 8) + (nw 2)) X dX8_wanted_100 rfl ?_
      subst hu
      exact bEndI X Y hr hlk dX8_wanted_101 rfl rfl
def s_wanted8_1 (nw : Nat → Int32) : Int32 :=
  if (nw 26) ≤ (s_limitOf8_1 nw) then
    if (-(s_limitOf8_1 nw)) ≤ (nw 26) then
      if (nw 26) - (nw 21) ≤ (nw 2) then
        if (-(nw 2)) ≤ (nw 26) - (nw 21) then
          (nw 21) + ((nw 26) - (nw 21))
        else
          (nw 21) + (-(nw 2))
      else
        (nw 21) + (nw 2)
    else
      if (-(s_limitOf8_1 nw)) - (nw 21) ≤ (nw 2) then
        if (-(nw 2)) ≤ (-(s_limitOf8_1 nw)) - (nw 21) then
          (nw 21) + ((-(s_limitOf8_1 nw)) - (nw 21))
        else
          (nw 21) + (-(nw 2))
      else
        (nw 21) + (nw 2)
  else
    if (s_limitOf8_1 nw) - (nw 21) ≤ (nw 2) then
      if (-(nw 2)) ≤ (s_limitOf8_1 nw) - (nw 21) then
        (nw 21) + ((s_limitOf8_1 nw) - (nw 21))
      else
        (nw 21) + (-(nw 2))
    else
      (nw 21) + (nw 2)
set_option maxHeartbeats 4000000 in
set_option maxRecDepth 100000 in
theorem c_wanted8_1 (l : Launch) (D : va_G) (cyC cyI : ClassId) (mM : Nat) (mN : Nat) (mR : Nat) (mA : Nat) (mP : Nat) (mT : Nat) (mD : Nat) (ch : Int32) (le : Int32) (sp : Int32) (nw : Nat → Int32) (o0 : Int32) (hu : s_wanted8_1 nw = o0) : CI l yX8_wanted wsX8_wanted { frames := 2, cells := 0, slots := 0, locals := 44 } D cyC cyI [.ref mM, .int 1] [(mM, .inr (8, [.ref mN, .ref mR, .ref mA, .ref mP, .int ch, .ref mT, .int le, .int sp, .ref mD])), (mN, .inl (cyI, 515, .inl nw))] o0 [(mM, .inr (8, [.ref mN, .ref mR, .ref mA, .ref mP, .int ch, .ref mT, .int le, .int sp, .ref mD])), (mN, .inl (cyI, 515, .inl nw))] := by
  refine CI.of (cc := cX8_wanted) (n := 6) (ret := (some .int)) (by decide +kernel) rfl (Nat.le_of_ble_eq_true rfl) ?_
  intro p_ e_ s_ m_ bl_ me_ cd_ A_ ls X Y hr hlk hl
  have hx := X.1.1
  have hb := X.1.2.1
  have hl : lv_has ls 6 [(0, .ref mM), (1, .int 1)] := hl
  unfold s_wanted8_1 at hu
  refine lv_aload_n hx hb dX8_wanted_0 rfl (lv_at hl 0 rfl) ?_
  refine lv_iload_n hx hb dX8_wanted_1 rfl (lv_at hl 1 rfl) ?_
  refine bVI0 (As := [.int 1]) (rest := []) (wc := [(mM, .inr (8, [.ref mN, .ref mR, .ref mA, .ref mP, .int ch, .ref mT, .int le, .int sp, .ref mD])), (mN, .inl (cyI, 515, .inl nw))]) (ci := 8) (q0 := 0) X Y (c_limitOf8_1 l D cyC cyI mM mN mR mA mP mT mD ch le sp nw (s_limitOf8_1 nw) rfl) gX8_wanted_X8_limitOf rfl ⟨rfl, rfl⟩ hd_X8_limitOf ⟨(Nat.le_of_ble_eq_true rfl), (Nat.le_of_ble_eq_true rfl)⟩ rfl rfl rfl [0, 1] rfl rfl rfl rfl hl.1 (Nat.le_of_ble_eq_true rfl) ⟨Nat.zero_le _, Nat.zero_le _⟩ dX8_wanted_2 (fun H locs Y => ?_)
  refine lv_istore_n (lv' := [(2, .int (s_limitOf8_1 nw)), (0, .ref mM), (1, .int 1)]) hx hb dX8_wanted_5 rfl hl (by decide) rfl (fun ls hl => ?_)
  refine lv_aload_n hx hb dX8_wanted_6 rfl (lv_at hl 1 rfl) ?_
  refine lv_iload_n hx hb dX8_wanted_7 rfl (lv_at hl 2 rfl) ?_
  refine lv_bipush (v := 6) hx hb dX8_wanted_8 (by decide) ?_
  refine bVI0 (As := [.int 1, .int 6]) (rest := []) (wc := [(mM, .inr (8, [.ref mN, .ref mR, .ref mA, .ref mP, .int ch, .ref mT, .int le, .int sp, .ref mD])), (mN, .inl (cyI, 515, .inl nw))]) (ci := 8) (q0 := 0) X Y (c_of8 l D cyC cyI mM mN mR mA mP mT mD ch le sp nw 1 6 (nw 26) (bOf (i := 26) (by decide) rfl) (bInD (by decide))) gX8_wanted_X8_of rfl ⟨rfl, rfl⟩ hd_X8_of ⟨(Nat.le_of_ble_eq_true rfl), (Nat.le_of_ble_eq_true rfl)⟩ rfl rfl rfl [0, 1] rfl rfl rfl rfl hl.1 (Nat.le_of_ble_eq_true rfl) ⟨Nat.zero_le _, Nat.zero_le _⟩ dX8_wanted_10 (fun H locs Y => ?_)
  refine lv_istore_n (lv' := [(3, .int (nw 26)), (2, .int (s_limitOf8_1 nw)), (0, .ref mM), (1, .int 1)]) hx hb dX8_wanted_13 rfl hl (by decide) rfl (fun ls hl => ?_)
  refine lv_iload_n hx hb dX8_wanted_14 rfl (lv_at hl 0 rfl) ?_
  refine lv_iload_n hx hb dX8_wanted_15 rfl (lv_at hl 1 rfl) ?_
  refine lv_icmp_le (tgt := 23) hx hb dX8_wanted_16 (by decide) (fun c_1 => ?_) (fun c_1 => ?_)
  · have c_1 : (nw 26) ≤ (s_limitOf8_1 nw) := c_1
    rw [if_pos c_1] at hu
    refine lv_iload_n hx hb dX8_wanted_23 rfl (lv_at hl 0 rfl) ?_
    refine lv_iload_n hx hb dX8_wanted_24 rfl (lv_at hl 1 rfl) ?_
    refine bNeg (v := -(s_limitOf8_1 nw)) X dX8_wanted_25 rfl ?_
    refine lv_icmp_ge (tgt := 34) hx hb dX8_wanted_26 (by decide) (fun c_2 => ?_) (fun c_2 => ?_)
    · have c_2 : (-(s_limitOf8_1 nw)) ≤ (nw 26) := c_2
      rw [if_pos c_2] at hu
      refine lv_iload_n hx hb dX8_wanted_34 rfl (lv_at hl 0 rfl) ?_
      refine lv_istore_n (lv' := [(3, .int (nw 26)), (2, .int (s_limitOf8_1 nw)), (0, .ref mM), (1, .int 1)]) hx hb dX8_wanted_35 rfl hl (by decide) rfl (fun ls hl => ?_)
      refine lv_aload_n hx hb dX8_wanted_36 rfl (lv_at hl 2 rfl) ?_
      refine lv_iload_n hx hb dX8_wanted_37 rfl (lv_at hl 3 rfl) ?_
      refine lv_iconst (v := 1) hx hb dX8_wanted_38 (by decide) ?_
      refine bVI0 (As := [.int 1, .int 1]) (rest := []) (wc := [(mM, .inr (8, [.ref mN, .ref mR, .ref mA, .ref mP, .int ch, .ref mT, .int le, .int sp, .ref mD])), (mN, .inl (cyI, 515, .inl nw))]) (ci := 8) (q0 := 0) X Y (c_of8 l D cyC cyI mM mN mR mA mP mT mD ch le sp nw 1 1 (nw 21) (bOf (i := 21) (by decide) rfl) (bInD (by decide))) gX8_wanted_X8_of rfl ⟨rfl, rfl⟩ hd_X8_of ⟨(Nat.le_of_ble_eq_true rfl), (Nat.le_of_ble_eq_true rfl)⟩ rfl rfl rfl [0, 1] rfl rfl rfl rfl hl.1 (Nat.le_of_ble_eq_true rfl) ⟨Nat.zero_le _, Nat.zero_le _⟩ dX8_wanted_39 (fun H locs Y => ?_)
      refine lv_istore (lv' := [(4, .int (nw 21)), (3, .int (nw 26)), (2, .int (s_limitOf8_1 nw)), (0, .ref mM), (1, .int 1)]) hx hb dX8_wanted_42 hl (by decide) rfl (fun ls hl => ?_)
      refine lv_iload_n hx hb dX8_wanted_44 rfl (lv_at hl 1 rfl) ?_
      refine lv_iload hx hb dX8_wanted_45 (lv_at hl 0 rfl) ?_
      refine bSub (v := (nw 26) - (nw 21)) X dX8_wanted_47 rfl ?_
      refine lv_istore (lv' := [(5, .int ((nw 26) - (nw 21))), (4, .int (nw 21)), (3, .int (nw 26)), (2, .int (s_limitOf8_1 nw)), (0, .ref mM), (1, .int 1)]) hx hb dX8_wanted_48 hl (by decide) rfl (fun ls hl => ?_)
      refine lv_iload hx hb dX8_wanted_50 (lv_at hl 0 rfl) ?_
      refine lv_aload_n hx hb dX8_wanted_52 rfl (lv_at hl 4 rfl) ?_
      refine bGet (v := .ref mN) (T := TX8) (N := 9) (ci := 8) X Y i_X8_wanted_X8 0 rfl rfl 0 (Nat.le_of_ble_eq_true rfl) f_X8_wanted_7 rfl rfl dX8_wanted_53 ?_
      refine lv_iconst (v := 2) hx hb dX8_wanted_56 (by decide) ?_
      refine bIald (v := nw 2) X Y 1 rfl (bInD (by decide)) dX8_wanted_57 rfl ?_
      refine lv_icmp_le (tgt := 70) hx hb dX8_wanted_58 (by decide) (fun c_3 => ?_) (fun c_3 => ?_)
      · have c_3 : (nw 26) - (nw 21) ≤ (nw 2) := c_3
        rw [if_pos c_3] at hu
        refine lv_iload hx hb dX8_wanted_70 (lv_at hl 0 rfl) ?_
        refine lv_aload_n hx hb dX8_wanted_72 rfl (lv_at hl 4 rfl) ?_
        refine bGet (v := .ref mN) (T := TX8) (N := 9) (ci := 8) X Y i_X8_wanted_X8 0 rfl rfl 0 (Nat.le_of_ble_eq_true rfl) f_X8_wanted_7 rfl rfl dX8_wanted_73 ?_
        refine lv_iconst (v := 2) hx hb dX8_wanted_76 (by decide) ?_
        refine bIald (v := nw 2) X Y 1 rfl (bInD (by decide)) dX8_wanted_77 rfl ?_
        refine bNeg (v := -(nw 2)) X dX8_wanted_78 rfl ?_
        refine lv_icmp_ge (tgt := 92) hx hb dX8_wanted_79 (by decide) (fun c_4 => ?_) (fun c_4 => ?_)
        · have c_4 : (-(nw 2)) ≤ (nw 26) - (nw 21) := c_4
          rw [if_pos c_4] at hu
          refine lv_iload hx hb dX8_wanted_92 (lv_at hl 0 rfl) ?_
          refine lv_istore (lv' := [(5, .int ((nw 26) - (nw 21))), (4, .int (nw 21)), (3, .int (nw 26)), (2, .int (s_limitOf8_1 nw)), (0, .ref mM), (1, .int 1)]) hx hb dX8_wanted_94 hl (by decide) rfl (fun ls hl => ?_)
          refine lv_iload hx hb dX8_wanted_96 (lv_at hl 1 rfl) ?_
          refine lv_iload hx hb dX8_wanted_98 (lv_at hl 0 rfl) ?_
          refine bAdd (v := (nw 21) + ((nw 26) - (nw 21))) X dX8_wanted_100 rfl ?_
          subst hu
          exact bEndI X Y hr hlk dX8_wanted_101 rfl rfl
        · have c_4 : ¬ ((-(nw 2)) ≤ (nw 26) - (nw 21)) := c_4
          rw [if_neg c_4] at hu
          refine lv_aload_n hx hb dX8_wanted_82 rfl (lv_at hl 4 rfl) ?_
          refine bGet (v := .ref mN) (T := TX8) (N := 9) (ci := 8) X Y i_X8_wanted_X8 0 rfl rfl 0 (Nat.le_of_ble_eq_true rfl) f_X8_wanted_7 rfl rfl dX8_wanted_83 ?_
          refine lv_iconst (v := 2) hx hb dX8_wanted_86 (by decide) ?_
          refine bIald (v := nw 2) X Y 1 rfl (bInD (by decide)) dX8_wanted_87 rfl ?_
          refine bNeg (v := -(nw 2)) X dX8_wanted_88 rfl ?_
          refine lv_goto (tgt := 94) hx hb dX8_wanted_89 (by decide) ?_
          refine lv_istore (lv' := [(5, .int (-(nw 2))), (4, .int (nw 21)), (3, .int (nw 26)), (2, .int (s_limitOf8_1 nw)), (0, .ref mM), (1, .int 1)]) hx hb dX8_wanted_94 hl (by decide) rfl (fun ls hl => ?_)
          refine lv_iload hx hb dX8_wanted_96 (lv_at hl 1 rfl) ?_
          refine lv_iload hx hb dX8_wanted_98 (lv_at hl 0 rfl) ?_
          refine bAdd (v := (nw 21) + (-(nw 2))) X dX8_wanted_100 rfl ?_
          subst hu
          exact bEndI X Y hr hlk dX8_wanted_101 rfl rfl
      · have c_3 : ¬ ((nw 26) - (nw 21) ≤ (nw 2)) := c_3
        rw [if_neg c_3] at hu
        refine lv_aload_n hx hb dX8_wanted_61 rfl (lv_at hl 4 rfl) ?_
        refine bGet (v := .ref mN) (T := TX8) (N := 9) (ci := 8) X Y i_X8_wanted_X8 0 rfl rfl 0 (Nat.le_of_ble_eq_true rfl) f_X8_wanted_7 rfl rfl dX8_wanted_62 ?_
        refine lv_iconst (v := 2) hx hb dX8_wanted_65 (by decide) ?_
        refine bIald (v := nw 2) X Y 1 rfl (bInD (by decide)) dX8_wanted_66 rfl ?_
        refine lv_goto (tgt := 94) hx hb dX8_wanted_67 (by decide) ?_
        refine lv_istore (lv' := [(5, .int (nw 2)), (4, .int (nw 21)), (3, .int (nw 26)), (2, .int (s_limitOf8_1 nw)), (0, .ref mM), (1, .int 1)]) hx hb dX8_wanted_94 hl (by decide) rfl (fun ls hl => ?_)
        refine lv_iload hx hb dX8_wanted_96 (lv_at hl 1 rfl) ?_
        refine lv_iload hx hb dX8_wanted_98 (lv_at hl 0 rfl) ?_
        refine bAdd (v := (nw 21) + (nw 2)) X dX8_wanted_100 rfl ?_
        subst hu
        exact bEndI X Y hr hlk dX8_wanted_101 rfl rfl
    · have c_2 : ¬ ((-(s_limitOf8_1 nw)) ≤ (nw 26)) := c_2
      rw [if_neg c_2] at hu
      refine lv_iload_n hx hb dX8_wanted_29 rfl (lv_at hl 1 rfl) ?_
      refine bNeg (v := -(s_limitOf8_1 nw)) X dX8_wanted_30 rfl ?_
      refine lv_goto (tgt := 35) hx hb dX8_wanted_31 (by decide) ?_
      refine lv_istore_n (lv' := [(3, .int (-(s_limitOf8_1 nw))), (2, .int (s_limitOf8_1 nw)), (0, .ref mM), (1, .int 1)]) hx hb dX8_wanted_35 rfl hl (by decide) rfl (fun ls hl => ?_)
      refine lv_aload_n hx hb dX8_wanted_36 rfl (lv_at hl 2 rfl) ?_
      refine lv_iload_n hx hb dX8_wanted_37 rfl (lv_at hl 3 rfl) ?_
      refine lv_iconst (v := 1) hx hb dX8_wanted_38 (by decide) ?_
      refine bVI0 (As := [.int 1, .int 1]) (rest := []) (wc := [(mM, .inr (8, [.ref mN, .ref mR, .ref mA, .ref mP, .int ch, .ref mT, .int le, .int sp, .ref mD])), (mN, .inl (cyI, 515, .inl nw))]) (ci := 8) (q0 := 0) X Y (c_of8 l D cyC cyI mM mN mR mA mP mT mD ch le sp nw 1 1 (nw 21) (bOf (i := 21) (by decide) rfl) (bInD (by decide))) gX8_wanted_X8_of rfl ⟨rfl, rfl⟩ hd_X8_of ⟨(Nat.le_of_ble_eq_true rfl), (Nat.le_of_ble_eq_true rfl)⟩ rfl rfl rfl [0, 1] rfl rfl rfl rfl hl.1 (Nat.le_of_ble_eq_true rfl) ⟨Nat.zero_le _, Nat.zero_le _⟩ dX8_wanted_39 (fun H locs Y => ?_)
      refine lv_istore (lv' := [(4, .int (nw 21)), (3, .int (-(s_limitOf8_1 nw))), (2, .int (s_limitOf8_1 nw)), (0, .ref mM), (1, .int 1)]) hx hb dX8_wanted_42 hl (by decide) rfl (fun ls hl => ?_)
      refine lv_iload_n hx hb dX8_wanted_44 rfl (lv_at hl 1 rfl) ?_
      refine lv_iload hx hb dX8_wanted_45 (lv_at hl 0 rfl) ?_
      refine bSub (v := (-(s_limitOf8_1 nw)) - (nw 21)) X dX8_wanted_47 rfl ?_
      refine lv_istore (lv' := [(5, .int ((-(s_limitOf8_1 nw)) - (nw 21))), (4, .int (nw 21)), (3, .int (-(s_limitOf8_1 nw))), (2, .int (s_limitOf8_1 nw)), (0, .ref mM), (1, .int 1)]) hx hb dX8_wanted_48 hl (by decide) rfl (fun ls hl => ?_)
      refine lv_iload hx hb dX8_wanted_50 (lv_at hl 0 rfl) ?_
      refine lv_aload_n hx hb dX8_wanted_52 rfl (lv_at hl 4 rfl) ?_
      refine bGet (v := .ref mN) (T := TX8) (N := 9) (ci := 8) X Y i_X8_wanted_X8 0 rfl rfl 0 (Nat.le_of_ble_eq_true rfl) f_X8_wanted_7 rfl rfl dX8_wanted_53 ?_
      refine lv_iconst (v := 2) hx hb dX8_wanted_56 (by decide) ?_
      refine bIald (v := nw 2) X Y 1 rfl (bInD (by decide)) dX8_wanted_57 rfl ?_
      refine lv_icmp_le (tgt := 70) hx hb dX8_wanted_58 (by decide) (fun c_5 => ?_) (fun c_5 => ?_)
      · have c_5 : (-(s_limitOf8_1 nw)) - (nw 21) ≤ (nw 2) := c_5
        rw [if_pos c_5] at hu
        refine lv_iload hx hb dX8_wanted_70 (lv_at hl 0 rfl) ?_
        refine lv_aload_n hx hb dX8_wanted_72 rfl (lv_at hl 4 rfl) ?_
        refine bGet (v := .ref mN) (T := TX8) (N := 9) (ci := 8) X Y i_X8_wanted_X8 0 rfl rfl 0 (Nat.le_of_ble_eq_true rfl) f_X8_wanted_7 rfl rfl dX8_wanted_73 ?_
        refine lv_iconst (v := 2) hx hb dX8_wanted_76 (by decide) ?_
        refine bIald (v := nw 2) X Y 1 rfl (bInD (by decide)) dX8_wanted_77 rfl ?_
        refine bNeg (v := -(nw 2)) X dX8_wanted_78 rfl ?_
        refine lv_icmp_ge (tgt := 92) hx hb dX8_wanted_79 (by decide) (fun c_6 => ?_) (fun c_6 => ?_)
        · have c_6 : (-(nw 2)) ≤ (-(s_limitOf8_1 nw)) - (nw 21) := c_6
          rw [if_pos c_6] at hu
          refine lv_iload hx hb dX8_wanted_92 (lv_at hl 0 rfl) ?_
          refine lv_istore (lv' := [(5, .int ((-(s_limitOf8_1 nw)) - (nw 21))), (4, .int (nw 21)), (3, .int (-(s_limitOf8_1 nw))), (2, .int (s_limitOf8_1 nw)), (0, .ref mM), (1, .int 1)]) hx hb dX8_wanted_94 hl (by decide) rfl (fun ls hl => ?_)
          refine lv_iload hx hb dX8_wanted_96 (lv_at hl 1 rfl) ?_
          refine lv_iload hx hb dX8_wanted_98 (lv_at hl 0 rfl) ?_
          refine bAdd (v := (nw 21) + ((-(s_limitOf8_1 nw)) - (nw 21))) X dX8_wanted_100 rfl ?_
          subst hu
          exact bEndI X Y hr hlk dX8_wanted_101 rfl rfl
        · have c_6 : ¬ ((-(nw 2)) ≤ (-(s_limitOf8_1 nw)) - (nw 21)) := c_6
          rw [if_neg c_6] at hu
          refine lv_aload_n hx hb dX8_wanted_82 rfl (lv_at hl 4 rfl) ?_
          refine bGet (v := .ref mN) (T := TX8) (N := 9) (ci := 8) X Y i_X8_wanted_X8 0 rfl rfl 0 (Nat.le_of_ble_eq_true rfl) f_X8_wanted_7 rfl rfl dX8_wanted_83 ?_
          refine lv_iconst (v := 2) hx hb dX8_wanted_86 (by decide) ?_
          refine bIald (v := nw 2) X Y 1 rfl (bInD (by decide)) dX8_wanted_87 rfl ?_
          refine bNeg (v := -(nw 2)) X dX8_wanted_88 rfl ?_
          refine lv_goto (tgt := 94) hx hb dX8_wanted_89 (by decide) ?_
          refine lv_istore (lv' := [(5, .int (-(nw 2))), (4, .int (nw 21)), (3, .int (-(s_limitOf8_1 nw))), (2, .int (s_limitOf8_1 nw)), (0, .ref mM), (1, .int 1)]) hx hb dX8_wanted_94 hl (by decide) rfl (fun ls hl => ?_)
          refine lv_iload hx hb dX8_wanted_96 (lv_at hl 1 rfl) ?_
          refine lv_iload hx hb dX8_wanted_98 (lv_at hl 0 rfl) ?_
          refine bAdd (v := (nw 21) + (-(nw 2))) X dX8_wanted_100 rfl ?_
          subst hu
          exact bEndI X Y hr hlk dX8_wanted_101 rfl rfl
      · have c_5 : ¬ ((-(s_limitOf8_1 nw)) - (nw 21) ≤ (nw 2)) := c_5
        rw [if_neg c_5] at hu
        refine lv_aload_n hx hb dX8_wanted_61 rfl (lv_at hl 4 rfl) ?_
        refine bGet (v := .ref mN) (T := TX8) (N := 9) (ci := 8) X Y i_X8_wanted_X8 0 rfl rfl 0 (Nat.le_of_ble_eq_true rfl) f_X8_wanted_7 rfl rfl dX8_wanted_62 ?_
        refine lv_iconst (v := 2) hx hb dX8_wanted_65 (by decide) ?_
        refine bIald (v := nw 2) X Y 1 rfl (bInD (by decide)) dX8_wanted_66 rfl ?_
        refine lv_goto (tgt := 94) hx hb dX8_wanted_67 (by decide) ?_
        refine lv_istore (lv' := [(5, .int (nw 2)), (4, .int (nw 21)), (3, .int (-(s_limitOf8_1 nw))), (2, .int (s_limitOf8_1 nw)), (0, .ref mM), (1, .int 1)]) hx hb dX8_wanted_94 hl (by decide) rfl (fun ls hl => ?_)
        refine lv_iload hx hb dX8_wanted_96 (lv_at hl 1 rfl) ?_
        refine lv_iload hx hb dX8_wanted_98 (lv_at hl 0 rfl) ?_
        refine bAdd (v := (nw 21) + (nw 2)) X dX8_wanted_100 rfl ?_
        subst hu
        exact bEndI X Y hr hlk dX8_wanted_101 rfl rfl
  · have c_1 : ¬ ((nw 26) ≤ (s_limitOf8_1 nw)) := c_1
    rw [if_neg c_1] at hu
    refine lv_iload_n hx hb dX8_wanted_19 rfl (lv_at hl 1 rfl) ?_
    refine lv_goto (tgt := 35) hx hb dX8_wanted_20 (by decide) ?_
    refine lv_istore_n (lv' := [(3, .int (s_limitOf8_1 nw)), (2, .int (s_limitOf8_1 nw)), (0, .ref mM), (1, .int 1)]) hx hb dX8_wanted_35 rfl hl (by decide) rfl (fun ls hl => ?_)
    refine lv_aload_n hx hb dX8_wanted_36 rfl (lv_at hl 2 rfl) ?_
    refine lv_iload_n hx hb dX8_wanted_37 rfl (lv_at hl 3 rfl) ?_
    refine lv_iconst (v := 1) hx hb dX8_wanted_38 (by decide) ?_
    refine bVI0 (As := [.int 1, .int 1]) (rest := []) (wc := [(mM, .inr (8, [.ref mN, .ref mR, .ref mA, .ref mP, .int ch, .ref mT, .int le, .int sp, .ref mD])), (mN, .inl (cyI, 515, .inl nw))]) (ci := 8) (q0 := 0) X Y (c_of8 l D cyC cyI mM mN mR mA mP mT mD ch le sp nw 1 1 (nw 21) (bOf (i := 21) (by decide) rfl) (bInD (by decide))) gX8_wanted_X8_of rfl ⟨rfl, rfl⟩ hd_X8_of ⟨(Nat.le_of_ble_eq_true rfl), (Nat.le_of_ble_eq_true rfl)⟩ rfl rfl rfl [0, 1] rfl rfl rfl rfl hl.1 (Nat.le_of_ble_eq_true rfl) ⟨Nat.zero_le _, Nat.zero_le _⟩ dX8_wanted_39 (fun H locs Y => ?_)
    refine lv_istore (lv' := [(4, .int (nw 21)), (3, .int (s_limitOf8_1 nw)), (2, .int (s_limitOf8_1 nw)), (0, .ref mM), (1, .int 1)]) hx hb dX8_wanted_42 hl (by decide) rfl (fun ls hl => ?_)
    refine lv_iload_n hx hb dX8_wanted_44 rfl (lv_at hl 1 rfl) ?_
    refine lv_iload hx hb dX8_wanted_45 (lv_at hl 0 rfl) ?_
    refine bSub (v := (s_limitOf8_1 nw) - (nw 21)) X dX8_wanted_47 rfl ?_
    refine lv_istore (lv' := [(5, .int ((s_limitOf8_1 nw) - (nw 21))), (4, .int (nw 21)), (3, .int (s_limitOf8_1 nw)), (2, .int (s_limitOf8_1 nw)), (0, .ref mM), (1, .int 1)]) hx hb dX8_wanted_48 hl (by decide) rfl (fun ls hl => ?_)
    refine lv_iload hx hb dX8_wanted_50 (lv_at hl 0 rfl) ?_
    refine lv_aload_n hx hb dX8_wanted_52 rfl (lv_at hl 4 rfl) ?_
    refine bGet (v := .ref mN) (T := TX8) (N := 9) (ci := 8) X Y i_X8_wanted_X8 0 rfl rfl 0 (Nat.le_of_ble_eq_true rfl) f_X8_wanted_7 rfl rfl dX8_wanted_53 ?_
    refine lv_iconst (v := 2) hx hb dX8_wanted_56 (by decide) ?_
    refine bIald (v := nw 2) X Y 1 rfl (bInD (by decide)) dX8_wanted_57 rfl ?_
    refine lv_icmp_le (tgt := 70) hx hb dX8_wanted_58 (by decide) (fun c_7 => ?_) (fun c_7 => ?_)
    · have c_7 : (s_limitOf8_1 nw) - (nw 21) ≤ (nw 2) := c_7
      rw [if_pos c_7] at hu
      refine lv_iload hx hb dX8_wanted_70 (lv_at hl 0 rfl) ?_
      refine lv_aload_n hx hb dX8_wanted_72 rfl (lv_at hl 4 rfl) ?_
      refine bGet (v := .ref mN) (T := TX8) (N := 9) (ci := 8) X Y i_X8_wanted_X8 0 rfl rfl 0 (Nat.le_of_ble_eq_true rfl) f_X8_wanted_7 rfl rfl dX8_wanted_73 ?_
      refine lv_iconst (v := 2) hx hb dX8_wanted_76 (by decide) ?_
      refine bIald (v := nw 2) X Y 1 rfl (bInD (by decide)) dX8_wanted_77 rfl ?_
      refine bNeg (v := -(nw 2)) X dX8_wanted_78 rfl ?_
      refine lv_icmp_ge (tgt := 92) hx hb dX8_wanted_79 (by decide) (fun c_8 => ?_) (fun c_8 => ?_)
      · have c_8 : (-(nw 2)) ≤ (s_limitOf8_1 nw) - (nw 21) := c_8
        rw [if_pos c_8] at hu
        refine lv_iload hx hb dX8_wanted_92 (lv_at hl 0 rfl) ?_
        refine lv_istore (lv' := [(5, .int ((s_limitOf8_1 nw) - (nw 21))), (4, .int (nw 21)), (3, .int (s_limitOf8_1 nw)), (2, .int (s_limitOf8_1 nw)), (0, .ref mM), (1, .int 1)]) hx hb dX8_wanted_94 hl (by decide) rfl (fun ls hl => ?_)
        refine lv_iload hx hb dX8_wanted_96 (lv_at hl 1 rfl) ?_
        refine lv_iload hx hb dX8_wanted_98 (lv_at hl 0 rfl) ?_
        refine bAdd (v := (nw 21) + ((s_limitOf8_1 nw) - (nw 21))) X dX8_wanted_100 rfl ?_
        subst hu
        exact bEndI X Y hr hlk dX8_wanted_101 rfl rfl
      · have c_8 : ¬ ((-(nw 2)) ≤ (s_limitOf8_1 nw) - (nw 21)) := c_8
        rw [if_neg c_8] at hu
        refine lv_aload_n hx hb dX8_wanted_82 rfl (lv_at hl 4 rfl) ?_
        refine bGet (v := .ref mN) (T := TX8) (N := 9) (ci := 8) X Y i_X8_wanted_X8 0 rfl rfl 0 (Nat.le_of_ble_eq_true rfl) f_X8_wanted_7 rfl rfl dX8_wanted_83 ?_
        refine lv_iconst (v := 2) hx hb dX8_wanted_86 (by decide) ?_
        refine bIald (v := nw 2) X Y 1 rfl (bInD (by decide)) dX8_wanted_87 rfl ?_
        refine bNeg (v := -(nw 2)) X dX8_wanted_88 rfl ?_
        refine lv_goto (tgt := 94) hx hb dX8_wanted_89 (by decide) ?_
        refine lv_istore (lv' := [(5, .int (-(nw 2))), (4, .int (nw 21)), (3, .int (s_limitOf8_1 nw)), (2, .int (s_limitOf8_1 nw)), (0, .ref mM), (1, .int 1)]) hx hb dX8_wanted_94 hl (by decide) rfl (fun ls hl => ?_)
        refine lv_iload hx hb dX8_wanted_96 (lv_at hl 1 rfl) ?_
        refine lv_iload hx hb dX8_wanted_98 (lv_at hl 0 rfl) ?_
        refine bAdd (v := (nw 21) + (-(nw 2))) X dX8_wanted_100 rfl ?_
        subst hu
        exact bEndI X Y hr hlk dX8_wanted_101 rfl rfl
    · have c_7 : ¬ ((s_limitOf8_1 nw) - (nw 21) ≤ (nw 2)) := c_7
      rw [if_neg c_7] at hu
      refine lv_aload_n hx hb dX8_wanted_61 rfl (lv_at hl 4 rfl) ?_
      refine bGet (v := .ref mN) (T := TX8) (N := 9) (ci := 8) X Y i_X8_wanted_X8 0 rfl rfl 0 (Nat.le_of_ble_eq_true rfl) f_X8_wanted_7 rfl rfl dX8_wanted_62 ?_
      refine lv_iconst (v := 2) hx hb dX8_wanted_65 (by decide) ?_
      refine bIald (v := nw 2) X Y 1 rfl (bInD (by decide)) dX8_wanted_66 rfl ?_
      refine lv_goto (tgt := 94) hx hb dX8_wanted_67 (by decide) ?_
      refine lv_istore (lv' := [(5, .int (nw 2)), (4, .int (nw 21)), (3, .int (s_limitOf8_1 nw)), (2, .int (s_limitOf8_1 nw)), (0, .ref mM), (1, .int 1)]) hx hb dX8_wanted_94 hl (by decide) rfl (fun ls hl => ?_)
      refine lv_iload hx hb dX8_wanted_96 (lv_at hl 1 rfl) ?_
      refine lv_iload hx hb dX8_wanted_98 (lv_at hl 0 rfl) ?_
      refine bAdd (v := (nw 21) + (nw 2)) X dX8_wanted_100 rfl ?_
      subst hu
      exact bEndI X Y hr hlk dX8_wanted_101 rfl rfl
theorem hd_X8_free : bD1 yX8_free RX8 0 := by decide +kernel
def s_roomFor8_0 (nw : Nat → Int32) (v : Int32) : Int32 :=
  if v ≤ 0 then
    (nw 7)
  else
    (s_free8 nw) / 2
set_option maxHeartbeats 4000000 in
set_option maxRecDepth 100000 in
theorem c_roomFor8_0 (l : Launch) (D : va_G) (cyC cyI : ClassId) (mM : Nat) (mN : Nat) (mR : Nat) (mA : Nat) (mP : Nat) (mT : Nat) (mD : Nat) (ch : Int32) (le : Int32) (sp : Int32) (nw : Nat → Int32) (v : Int32) (o0 : Int32) (hu : s_roomFor8_0 nw v = o0) : CI l yX8_roomFor wsX8_roomFor { frames := 2, cells := 0, slots := 0, locals := 42 } D cyC cyI [.ref mM, .int 0, .int v] [(mM, .inr (8, [.ref mN, .ref mR, .ref mA, .ref mP, .int ch, .ref mT, .int le, .int sp, .ref mD])), (mN, .inl (cyI, 515, .inl nw))] o0 [(mM, .inr (8, [.ref mN, .ref mR, .ref mA, .ref mP, .int ch, .ref mT, .int le, .int sp, .ref mD])), (mN, .inl (cyI, 515, .inl nw))] := by
  refine CI.of (cc := cX8_roomFor) (n := 3) (ret := (some .int)) (by decide +kernel) rfl (Nat.le_of_ble_eq_true rfl) ?_
  intro p_ e_ s_ m_ bl_ me_ cd_ A_ ls X Y hr hlk hl
  have hx := X.1.1
  have hb := X.1.2.1
  have hl : lv_has ls 3 [(0, .ref mM), (1, .int 0), (2, .int v)] := hl
  unfold s_roomFor8_0 at hu
  refine lv_iload_n hx hb dX8_roomFor_0 rfl (lv_at hl 2 rfl) ?_
  refine lv_if_le (tgt := 31) hx hb dX8_roomFor_1 (by decide) (fun c_1 => ?_) (fun c_1 => ?_)
  · have c_1 : v ≤ 0 := c_1
    rw [if_pos c_1] at hu
    refine lv_iload_n hx hb dX8_roomFor_31 rfl (lv_at hl 1 rfl) ?_
    refine lv_if_ne (tgt := 44) hx hb dX8_roomFor_32 (by decide) (fun c_ => absurd (by decide) c_) (fun _ => ?_)
    refine lv_aload_n hx hb dX8_roomFor_35 rfl (lv_at hl 0 rfl) ?_
    refine lv_iconst (v := 0) hx hb dX8_roomFor_36 (by decide) ?_
    refine lv_iconst (v := 0) hx hb dX8_roomFor_37 (by decide) ?_
    refine bVI0 (As := [.int 0, .int 0]) (rest := []) (wc := [(mM, .inr (8, [.ref mN, .ref mR, .ref mA, .ref mP, .int ch, .ref mT, .int le, .int sp, .ref mD])), (mN, .inl (cyI, 515, .inl nw))]) (ci := 8) (q0 := 0) X Y (c_of8 l D cyC cyI mM mN mR mA mP mT mD ch le sp nw 0 0 (nw 7) (bOf (i := 7) (by decide) rfl) (bInD (by decide))) gX8_roomFor_X8_of rfl ⟨rfl, rfl⟩ hd_X8_of ⟨(Nat.le_of_ble_eq_true rfl), (Nat.le_of_ble_eq_true rfl)⟩ rfl rfl rfl [0, 1] rfl rfl rfl rfl hl.1 (Nat.le_of_ble_eq_true rfl) ⟨Nat.zero_le _, Nat.zero_le _⟩ dX8_roomFor_38 (fun H locs Y => ?_)
    refine lv_goto (tgt := 50) hx hb dX8_roomFor_41 (by decide) ?_
    subst hu
    exact bEndI X Y hr hlk dX8_roomFor_50 rfl rfl
  · have c_1 : ¬ (v ≤ 0) := c_1
    rw [if_neg c_1] at hu
    refine lv_iload_n hx hb dX8_roomFor_4 rfl (lv_at hl 1 rfl) ?_
    refine lv_if_ne (tgt := 17) hx hb dX8_roomFor_5 (by decide) (fun c_ => absurd (by decide) c_) (fun _ => ?_)
    refine lv_aload_n hx hb dX8_roomFor_8 rfl (lv_at hl 0 rfl) ?_
    refine bVI0 (As := []) (rest := []) (wc := [(mM, .inr (8, [.ref mN, .ref mR, .ref mA, .ref mP, .int ch, .ref mT, .int le, .int sp, .ref mD])), (mN, .inl (cyI, 515, .inl nw))]) (ci := 8) (q0 := 0) X Y (c_free8 l D cyC cyI mM mN mR mA mP mT mD ch le sp nw (s_free8 nw) rfl) gX8_roomFor_X8_free rfl ⟨rfl, rfl⟩ hd_X8_free ⟨(Nat.le_of_ble_eq_true rfl), (Nat.le_of_ble_eq_true rfl)⟩ rfl rfl rfl [0, 1] rfl rfl rfl rfl hl.1 (Nat.le_of_ble_eq_true rfl) ⟨Nat.zero_le _, Nat.zero_le _⟩ dX8_roomFor_9 (fun H locs Y => ?_)
    refine lv_iconst (v := 2) hx hb dX8_roomFor_12 (by decide) ?_
    refine bDiv (v := (s_free8 nw) / 2) X dX8_roomFor_13 (by decide) rfl ?_
    refine lv_goto (tgt := 30) hx hb dX8_roomFor_14 (by decide) ?_
    subst hu
    exact bEndI X Y hr hlk dX8_roomFor_30 rfl rfl
theorem i_X8_roomFor_X8 : ∀ w ∈ wsX80, w ∈ wsX8_roomFor := by decide +kernel
theorem f_X8_roomFor_7 : Cond.fieldLink RX8 7 "SwingCranesModel" "now" "[I" ∈ wsX8_roomFor := by decide +kernel
def s_roomFor8_1 (nw : Nat → Int32) (v : Int32) : Int32 :=
  if v ≤ 0 then
    (s_free8 nw) / 2
  else
    (nw 0) - (nw 20)
set_option maxHeartbeats 4000000 in
set_option maxRecDepth 100000 in
theorem c_roomFor8_1 (l : Launch) (D : va_G) (cyC cyI : ClassId) (mM : Nat) (mN : Nat) (mR : Nat) (mA : Nat) (mP : Nat) (mT : Nat) (mD : Nat) (ch : Int32) (le : Int32) (sp : Int32) (nw : Nat → Int32) (v : Int32) (o0 : Int32) (hu : s_roomFor8_1 nw v = o0) : CI l yX8_roomFor wsX8_roomFor { frames := 2, cells := 0, slots := 0, locals := 42 } D cyC cyI [.ref mM, .int 1, .int v] [(mM, .inr (8, [.ref mN, .ref mR, .ref mA, .ref mP, .int ch, .ref mT, .int le, .int sp, .ref mD])), (mN, .inl (cyI, 515, .inl nw))] o0 [(mM, .inr (8, [.ref mN, .ref mR, .ref mA, .ref mP, .int ch, .ref mT, .int le, .int sp, .ref mD])), (mN, .inl (cyI, 515, .inl nw))] := by
  refine CI.of (cc := cX8_roomFor) (n := 3) (ret := (some .int)) (by decide +kernel) rfl (Nat.le_of_ble_eq_true rfl) ?_
  intro p_ e_ s_ m_ bl_ me_ cd_ A_ ls X Y hr hlk hl
  have hx := X.1.1
  have hb := X.1.2.1
  have hl : lv_has ls 3 [(0, .ref mM), (1, .int 1), (2, .int v)] := hl
  unfold s_roomFor8_1 at hu
  refine lv_iload_n hx hb dX8_roomFor_0 rfl (lv_at hl 2 rfl) ?_
  refine lv_if_le (tgt := 31) hx hb dX8_roomFor_1 (by decide) (fun c_1 => ?_) (fun c_1 => ?_)
  · have c_1 : v ≤ 0 := c_1
    rw [if_pos c_1] at hu
    refine lv_iload_n hx hb dX8_roomFor_31 rfl (lv_at hl 1 rfl) ?_
    refine lv_if_ne (tgt := 44) hx hb dX8_roomFor_32 (by decide) (fun _ => ?_) (fun c_ => absurd c_ (by decide))
    refine lv_aload_n hx hb dX8_roomFor_44 rfl (lv_at hl 0 rfl) ?_
    refine bVI0 (As := []) (rest := []) (wc := [(mM, .inr (8, [.ref mN, .ref mR, .ref mA, .ref mP, .int ch, .ref mT, .int le, .int sp, .ref mD])), (mN, .inl (cyI, 515, .inl nw))]) (ci := 8) (q0 := 0) X Y (c_free8 l D cyC cyI mM mN mR mA mP mT mD ch le sp nw (s_free8 nw) rfl) gX8_roomFor_X8_free rfl ⟨rfl, rfl⟩ hd_X8_free ⟨(Nat.le_of_ble_eq_true rfl), (Nat.le_of_ble_eq_true rfl)⟩ rfl rfl rfl [0, 1] rfl rfl rfl rfl hl.1 (Nat.le_of_ble_eq_true rfl) ⟨Nat.zero_le _, Nat.zero_le _⟩ dX8_roomFor_45 (fun H locs Y => ?_)
    refine lv_iconst (v := 2) hx hb dX8_roomFor_48 (by decide) ?_
    refine bDiv (v := (s_free8 nw) / 2) X dX8_roomFor_49 (by decide) rfl ?_
    subst hu
    exact bEndI X Y hr hlk dX8_roomFor_50 rfl rfl
  · have c_1 : ¬ (v ≤ 0) := c_1
    rw [if_neg c_1] at hu
    refine lv_iload_n hx hb dX8_roomFor_4 rfl (lv_at hl 1 rfl) ?_
    refine lv_if_ne (tgt := 17) hx hb dX8_roomFor_5 (by decide) (fun _ => ?_) (fun c_ => absurd c_ (by decide))
    refine lv_aload_n hx hb dX8_roomFor_17 rfl (lv_at hl 0 rfl) ?_
    refine bGet (v := .ref mN) (T := TX8) (N := 9) (ci := 8) X Y i_X8_roomFor_X8 0 rfl rfl 0 (Nat.le_of_ble_eq_true rfl) f_X8_roomFor_7 rfl rfl dX8_roomFor_18 ?_
    refine lv_iconst (v := 0) hx hb dX8_roomFor_21 (by decide) ?_
    refine bIald (v := nw 0) X Y 1 rfl (bInD (by decide)) dX8_roomFor_22 rfl ?_
    refine lv_aload_n hx hb dX8_roomFor_23 rfl (lv_at hl 0 rfl) ?_
    refine lv_iconst (v := 1) hx hb dX8_roomFor_24 (by decide) ?_
    refine lv_iconst (v := 0) hx hb dX8_roomFor_25 (by decide) ?_
    refine bVI0 (As := [.int 1, .int 0]) (rest := [.int (nw 0)]) (wc := [(mM, .inr (8, [.ref mN, .ref mR, .ref mA, .ref mP, .int ch, .ref mT, .int le, .int sp, .ref mD])), (mN, .inl (cyI, 515, .inl nw))]) (ci := 8) (q0 := 0) X Y (c_of8 l D cyC cyI mM mN mR mA mP mT mD ch le sp nw 1 0 (nw 20) (bOf (i := 20) (by decide) rfl) (bInD (by decide))) gX8_roomFor_X8_of rfl ⟨rfl, rfl⟩ hd_X8_of ⟨(Nat.le_of_ble_eq_true rfl), (Nat.le_of_ble_eq_true rfl)⟩ rfl rfl rfl [0, 1] rfl rfl rfl rfl hl.1 (Nat.le_of_ble_eq_true rfl) ⟨Nat.zero_le _, Nat.zero_le _⟩ dX8_roomFor_26 (fun H locs Y => ?_)
    refine bSub (v := (nw 0) - (nw 20)) X dX8_roomFor_29 rfl ?_
    subst hu
    exact bEndI X Y hr hlk dX8_roomFor_30 rfl rfl
theorem hd_X8_roomFor : bD1 yX8_roomFor RX8 2 := by decide +kernel
theorem hd_X8_stopBy : bD1 yX8_stopBy RX8 1 := by decide +kernel
def g_braked8_0 (nw : Nat → Int32) : Nat → Int32 → Int32 → Int32
  | 0, _, _ => 0
  | n_ + 1, ro, its =>
    if its = 0 then
      its
    else
      if (s_stopBy8 nw its) ≤ ro then
        its
      else
        if its ≤ 0 then
          g_braked8_0 nw n_ ro (its + 1)
        else
          g_braked8_0 nw n_ ro (its + (-1))
def s_braked8_0 (nw : Nat → Int32) (v : Int32) : Int32 :=
  g_braked8_0 nw (v.toInt.natAbs + 1) (s_roomFor8_0 nw v) v
set_option maxHeartbeats 4000000 in
set_option maxRecDepth 100000 in
theorem lp_braked8_0 {p_ : Program} {e_ : Env} {s_ : State} {m_ : MethodId} {bl_ : List Frame} {me_ : Method} {cd_ : Code} {A_ : Nat → Prop} (l : Launch) (D : va_G) (cyC cyI : ClassId) (mM : Nat) (mN : Nat) (mR : Nat) (mA : Nat) (mP : Nat) (mT : Nat) (mD : Nat) (ch : Int32) (le : Int32) (sp : Int32) (nw : Nat → Int32) (v : Int32) (o0 : Int32) (X : bX p_ s_ m_ ([.ref mM, .int 0, .int v] : List Value).toArray cd_ cX8_braked 5 wsX8_braked yX8_braked.cls D cyC cyI) (hr : me_.sig.returnType = (some .int)) (hlk : me_.locks = false) (hc1 : 1 ≤ nw 2) : ∀ (n_ : Nat) (ro : Int32) (its : Int32) (hN : its.toInt.natAbs < n_) (hu : g_braked8_0 nw n_ ro its = o0) (ls : Array Slot) (H : Heap) (locs : List Loc), lv_has ls 5 [(0, .ref mM), (1, .int 0), (2, .int v), (3, .int ro), (4, .int its)] → bY D A_ s_.heap [(mM, .inr (8, [.ref mN, .ref mR, .ref mA, .ref mP, .int ch, .ref mT, .int le, .int sp, .ref mD])), (mN, .inl (cyI, 515, .inl nw))] H locs → W p_ l e_ ({ frames := 3, cells := 0, slots := 0, locals := 64 } : Room) s_ m_ ([.ref mM, .int 0, .int v] : List Value).toArray bl_ me_ cd_ H locs 0 0 (bQI bl_ ([.ref mM, .int 0, .int v] : List Value).toArray s_ D [(mM, .inr (8, [.ref mN, .ref mR, .ref mA, .ref mP, .int ch, .ref mT, .int le, .int sp, .ref mD])), (mN, .inl (cyI, 515, .inl nw))] o0 A_) (F0 m_ 10 ls []) := by
  intro n_
  induction n_ with
  | zero =>
    intro ro its hN hu ls H locs hl Y
    exfalso; omega
  | succ n_ ih =>
    intro ro its hN hu ls H locs hl Y
    have hx := X.1.1
    have hb := X.1.2.1
    rw [g_braked8_0] at hu
    refine lv_iload hx hb dX8_braked_10 (lv_at hl 4 rfl) ?_
    refine lv_if_eq (tgt := 43) hx hb dX8_braked_12 (by decide) (fun c_1 => ?_) (fun c_1 => ?_)
    · have c_1 : its = 0 := c_1
      rw [if_pos c_1] at hu
      refine lv_iload hx hb dX8_braked_43 (lv_at hl 4 rfl) ?_
      subst hu
      exact bEndI X Y hr hlk dX8_braked_45 rfl rfl
    · have c_1 : ¬ (its = 0) := c_1
      rw [if_neg c_1] at hu
      refine lv_aload_n hx hb dX8_braked_15 rfl (lv_at hl 0 rfl) ?_
      refine lv_iload hx hb dX8_braked_16 (lv_at hl 4 rfl) ?_
      refine bVI0 (As := [.int its]) (rest := []) (wc := [(mM, .inr (8, [.ref mN, .ref mR, .ref mA, .ref mP, .int ch, .ref mT, .int le, .int sp, .ref mD])), (mN, .inl (cyI, 515, .inl nw))]) (ci := 8) (q0 := 0) X Y (c_stopBy8 l D cyC cyI mM mN mR mA mP mT mD ch le sp nw its (s_stopBy8 nw its) rfl (by first | assumption | omega | decide)) gX8_braked_X8_stopBy rfl ⟨rfl, rfl⟩ hd_X8_stopBy ⟨(Nat.le_of_ble_eq_true rfl), (Nat.le_of_ble_eq_true rfl)⟩ rfl rfl rfl [0, 1] rfl rfl rfl rfl hl.1 (Nat.le_of_ble_eq_true rfl) ⟨Nat.zero_le _, Nat.zero_le _⟩ dX8_braked_18 (fun H locs Y => ?_)
      refine lv_iload_n hx hb dX8_braked_21 rfl (lv_at hl 3 rfl) ?_
      refine lv_icmp_le (tgt := 43) hx hb dX8_braked_22 (by decide) (fun c_2 => ?_) (fun c_2 => ?_)
      · have c_2 : (s_stopBy8 nw its) ≤ ro := c_2
        rw [if_pos c_2] at hu
        refine lv_iload hx hb dX8_braked_43 (lv_at hl 4 rfl) ?_
        subst hu
        exact bEndI X Y hr hlk dX8_braked_45 rfl rfl
      · have c_2 : ¬ ((s_stopBy8 nw its) ≤ ro) := c_2
        rw [if_neg c_2] at hu
        refine lv_iload hx hb dX8_braked_25 (lv_at hl 4 rfl) ?_
        refine lv_iload hx hb dX8_braked_27 (lv_at hl 4 rfl) ?_
        refine lv_if_le (tgt := 36) hx hb dX8_braked_29 (by decide) (fun c_3 => ?_) (fun c_3 => ?_)
        · have c_3 : its ≤ 0 := c_3
          rw [if_pos c_3] at hu
          refine lv_iconst (v := 1) hx hb dX8_braked_36 (by decide) ?_
          refine bAdd (v := its + 1) X dX8_braked_37 rfl ?_
          refine lv_istore (lv' := [(4, .int (its + 1)), (0, .ref mM), (1, .int 0), (2, .int v), (3, .int ro)]) hx hb dX8_braked_38 hl (by decide) rfl (fun ls hl => ?_)
          refine lv_goto (tgt := 10) hx hb dX8_braked_40 (by decide) ?_
          exact ih ro (its + 1) (bDecA2 c_1 c_3 hN) hu _ _ _ (lv_sub hl [1, 2, 3, 4, 0] rfl) Y
        · have c_3 : ¬ (its ≤ 0) := c_3
          rw [if_neg c_3] at hu
          refine lv_iconst (v := (-1)) hx hb dX8_braked_32 (by decide) ?_
          refine lv_goto (tgt := 37) hx hb dX8_braked_33 (by decide) ?_
          refine bAdd (v := its + (-1)) X dX8_braked_37 rfl ?_
          refine lv_istore (lv' := [(4, .int (its + (-1))), (0, .ref mM), (1, .int 0), (2, .int v), (3, .int ro)]) hx hb dX8_braked_38 hl (by decide) rfl (fun ls hl => ?_)
          refine lv_goto (tgt := 10) hx hb dX8_braked_40 (by decide) ?_
          exact ih ro (its + (-1)) (bDecA1 c_1 c_3 hN) hu _ _ _ (lv_sub hl [1, 2, 3, 4, 0] rfl) Y
set_option maxHeartbeats 4000000 in
set_option maxRecDepth 100000 in
theorem c_braked8_0 (l : Launch) (D : va_G) (cyC cyI : ClassId) (mM : Nat) (mN : Nat) (mR : Nat) (mA : Nat) (mP : Nat) (mT : Nat) (mD : Nat) (ch : Int32) (le : Int32) (sp : Int32) (nw : Nat → Int32) (v : Int32) (o0 : Int32) (hu : s_braked8_0 nw v = o0) (hc1 : 1 ≤ nw 2) : CI l yX8_braked wsX8_braked { frames := 3, cells := 0, slots := 0, locals := 64 } D cyC cyI [.ref mM, .int 0, .int v] [(mM, .inr (8, [.ref mN, .ref mR, .ref mA, .ref mP, .int ch, .ref mT, .int le, .int sp, .ref mD])), (mN, .inl (cyI, 515, .inl nw))] o0 [(mM, .inr (8, [.ref mN, .ref mR, .ref mA, .ref mP, .int ch, .ref mT, .int le, .int sp, .ref mD])), (mN, .inl (cyI, 515, .inl nw))] := by
  refine CI.of (cc := cX8_braked) (n := 5) (ret := (some .int)) (by decide +kernel) rfl (Nat.le_of_ble_eq_true rfl) ?_
  intro p_ e_ s_ m_ bl_ me_ cd_ A_ ls X Y hr hlk hl
  have hx := X.1.1
  have hb := X.1.2.1
  have hl : lv_has ls 5 [(0, .ref mM), (1, .int 0), (2, .int v)] := hl
  unfold s_braked8_0 at hu
  refine lv_aload_n hx hb dX8_braked_0 rfl (lv_at hl 0 rfl) ?_
  refine lv_iload_n hx hb dX8_braked_1 rfl (lv_at hl 1 rfl) ?_
  refine lv_iload_n hx hb dX8_braked_2 rfl (lv_at hl 2 rfl) ?_
  refine bVI0 (As := [.int 0, .int v]) (rest := []) (wc := [(mM, .inr (8, [.ref mN, .ref mR, .ref mA, .ref mP, .int ch, .ref mT, .int le, .int sp, .ref mD])), (mN, .inl (cyI, 515, .inl nw))]) (ci := 8) (q0 := 0) X Y (c_roomFor8_0 l D cyC cyI mM mN mR mA mP mT mD ch le sp nw v (s_roomFor8_0 nw v) rfl) gX8_braked_X8_roomFor rfl ⟨rfl, rfl⟩ hd_X8_roomFor ⟨(Nat.le_of_ble_eq_true rfl), (Nat.le_of_ble_eq_true rfl)⟩ rfl rfl rfl [0, 1] rfl rfl rfl rfl hl.1 (Nat.le_of_ble_eq_true rfl) ⟨Nat.zero_le _, Nat.zero_le _⟩ dX8_braked_3 (fun H locs Y => ?_)
  refine lv_istore_n (lv' := [(3, .int (s_roomFor8_0 nw v)), (0, .ref mM), (1, .int 0), (2, .int v)]) hx hb dX8_braked_6 rfl hl (by decide) rfl (fun ls hl => ?_)
  refine lv_iload_n hx hb dX8_braked_7 rfl (lv_at hl 3 rfl) ?_
  refine lv_istore (lv' := [(4, .int v), (3, .int (s_roomFor8_0 nw v)), (0, .ref mM), (1, .int 0), (2, .int v)]) hx hb dX8_braked_8 hl (by decide) rfl (fun ls hl => ?_)
  exact lp_braked8_0 l D cyC cyI mM mN mR mA mP mT mD ch le sp nw v o0 X hr hlk hc1 (v.toInt.natAbs + 1) (s_roomFor8_0 nw v) v (Nat.lt_succ_self _) hu _ _ _ (lv_sub hl [2, 3, 4, 1, 0] rfl) Y
def g_braked8_1 (nw : Nat → Int32) : Nat → Int32 → Int32 → Int32
  | 0, _, _ => 0
  | n_ + 1, ro, its =>
    if its = 0 then
      its
    else
      if (s_stopBy8 nw its) ≤ ro then
        its
      else
        if its ≤ 0 then
          g_braked8_1 nw n_ ro (its + 1)
        else
          g_braked8_1 nw n_ ro (its + (-1))
def s_braked8_1 (nw : Nat → Int32) (v : Int32) : Int32 :=
  g_braked8_1 nw (v.toInt.natAbs + 1) (s_roomFor8_1 nw v) v
set_option maxHeartbeats 4000000 in
set_option maxRecDepth 100000 in
theorem lp_braked8_1 {p_ : Program} {e_ : Env} {s_ : State} {m_ : MethodId} {bl_ : List Frame} {me_ : Method} {cd_ : Code} {A_ : Nat → Prop} (l : Launch) (D : va_G) (cyC cyI : ClassId) (mM : Nat) (mN : Nat) (mR : Nat) (mA : Nat) (mP : Nat) (mT : Nat) (mD : Nat) (ch : Int32) (le : Int32) (sp : Int32) (nw : Nat → Int32) (v : Int32) (o0 : Int32) (X : bX p_ s_ m_ ([.ref mM, .int 1, .int v] : List Value).toArray cd_ cX8_braked 5 wsX8_braked yX8_braked.cls D cyC cyI) (hr : me_.sig.returnType = (some .int)) (hlk : me_.locks = false) (hc1 : 1 ≤ nw 2) : ∀ (n_ : Nat) (ro : Int32) (its : Int32) (hN : its.toInt.natAbs < n_) (hu : g_braked8_1 nw n_ ro its = o0) (ls : Array Slot) (H : Heap) (locs : List Loc), lv_has ls 5 [(0, .ref mM), (1, .int 1), (2, .int v), (3, .int ro), (4, .int its)] → bY D A_ s_.heap [(mM, .inr (8, [.ref mN, .ref mR, .ref mA, .ref mP, .int ch, .ref mT, .int le, .int sp, .ref mD])), (mN, .inl (cyI, 515, .inl nw))] H locs → W p_ l e_ ({ frames := 3, cells := 0, slots := 0, locals := 64 } : Room) s_ m_ ([.ref mM, .int 1, .int v] : List Value).toArray bl_ me_ cd_ H locs 0 0 (bQI bl_ ([.ref mM, .int 1, .int v] : List Value).toArray s_ D [(mM, .inr (8, [.ref mN, .ref mR, .ref mA, .ref mP, .int ch, .ref mT, .int le, .int sp, .ref mD])), (mN, .inl (cyI, 515, .inl nw))] o0 A_) (F0 m_ 10 ls []) := by
  intro n_
  induction n_ with
  | zero =>
    intro ro its hN hu ls H locs hl Y
    exfalso; omega
  | succ n_ ih =>
    intro ro its hN hu ls H locs hl Y
    have hx := X.1.1
    have hb := X.1.2.1
    rw [g_braked8_1] at hu
    refine lv_iload hx hb dX8_braked_10 (lv_at hl 4 rfl) ?_
    refine lv_if_eq (tgt := 43) hx hb dX8_braked_12 (by decide) (fun c_1 => ?_) (fun c_1 => ?_)
    · have c_1 : its = 0 := c_1
      rw [if_pos c_1] at hu
      refine lv_iload hx hb dX8_braked_43 (lv_at hl 4 rfl) ?_
      subst hu
      exact bEndI X Y hr hlk dX8_braked_45 rfl rfl
    · have c_1 : ¬ (its = 0) := c_1
      rw [if_neg c_1] at hu
      refine lv_aload_n hx hb dX8_braked_15 rfl (lv_at hl 0 rfl) ?_
      refine lv_iload hx hb dX8_braked_16 (lv_at hl 4 rfl) ?_
      refine bVI0 (As := [.int its]) (rest := []) (wc := [(mM, .inr (8, [.ref mN, .ref mR, .ref mA, .ref mP, .int ch, .ref mT, .int le, .int sp, .ref mD])), (mN, .inl (cyI, 515, .inl nw))]) (ci := 8) (q0 := 0) X Y (c_stopBy8 l D cyC cyI mM mN mR mA mP mT mD ch le sp nw its (s_stopBy8 nw its) rfl (by first | assumption | omega | decide)) gX8_braked_X8_stopBy rfl ⟨rfl, rfl⟩ hd_X8_stopBy ⟨(Nat.le_of_ble_eq_true rfl), (Nat.le_of_ble_eq_true rfl)⟩ rfl rfl rfl [0, 1] rfl rfl rfl rfl hl.1 (Nat.le_of_ble_eq_true rfl) ⟨Nat.zero_le _, Nat.zero_le _⟩ dX8_braked_18 (fun H locs Y => ?_)
      refine lv_iload_n hx hb dX8_braked_21 rfl (lv_at hl 3 rfl) ?_
      refine lv_icmp_le (tgt := 43) hx hb dX8_braked_22 (by decide) (fun c_2 => ?_) (fun c_2 => ?_)
      · have c_2 : (s_stopBy8 nw its) ≤ ro := c_2
        rw [if_pos c_2] at hu
        refine lv_iload hx hb dX8_braked_43 (lv_at hl 4 rfl) ?_
        subst hu
        exact bEndI X Y hr hlk dX8_braked_45 rfl rfl
      · have c_2 : ¬ ((s_stopBy8 nw its) ≤ ro) := c_2
        rw [if_neg c_2] at hu
        refine lv_iload hx hb dX8_braked_25 (lv_at hl 4 rfl) ?_
        refine lv_iload hx hb dX8_braked_27 (lv_at hl 4 rfl) ?_
        refine lv_if_le (tgt := 36) hx hb dX8_braked_29 (by decide) (fun c_3 => ?_) (fun c_3 => ?_)
        · have c_3 : its ≤ 0 := c_3
          rw [if_pos c_3] at hu
          refine lv_iconst (v := 1) hx hb dX8_braked_36 (by decide) ?_
          refine bAdd (v := its + 1) X dX8_braked_37 rfl ?_
          refine lv_istore (lv' := [(4, .int (its + 1)), (0, .ref mM), (1, .int 1), (2, .int v), (3, .int ro)]) hx hb dX8_braked_38 hl (by decide) rfl (fun ls hl => ?_)
          refine lv_goto (tgt := 10) hx hb dX8_braked_40 (by decide) ?_
          exact ih ro (its + 1) (bDecA2 c_1 c_3 hN) hu _ _ _ (lv_sub hl [1, 2, 3, 4, 0] rfl) Y
        · have c_3 : ¬ (its ≤ 0) := c_3
          rw [if_neg c_3] at hu
          refine lv_iconst (v := (-1)) hx hb dX8_braked_32 (by decide) ?_
          refine lv_goto (tgt := 37) hx hb dX8_braked_33 (by decide) ?_
          refine bAdd (v := its + (-1)) X dX8_braked_37 rfl ?_
          refine lv_istore (lv' := [(4, .int (its + (-1))), (0, .ref mM), (1, .int 1), (2, .int v), (3, .int ro)]) hx hb dX8_braked_38 hl (by decide) rfl (fun ls hl => ?_)
          refine lv_goto (tgt := 10) hx hb dX8_braked_40 (by decide) ?_
          exact ih ro (its + (-1)) (bDecA1 c_1 c_3 hN) hu _ _ _ (lv_sub hl [1, 2, 3, 4, 0] rfl) Y
set_option maxHeartbeats 4000000 in
set_option maxRecDepth 100000 in
theorem c_braked8_1 (l : Launch) (D : va_G) (cyC cyI : ClassId) (mM : Nat) (mN : Nat) (mR : Nat) (mA : Nat) (mP : Nat) (mT : Nat) (mD : Nat) (ch : Int32) (le : Int32) (sp : Int32) (nw : Nat → Int32) (v : Int32) (o0 : Int32) (hu : s_braked8_1 nw v = o0) (hc1 : 1 ≤ nw 2) : CI l yX8_braked wsX8_braked { frames := 3, cells := 0, slots := 0, locals := 64 } D cyC cyI [.ref mM, .int 1, .int v] [(mM, .inr (8, [.ref mN, .ref mR, .ref mA, .ref mP, .int ch, .ref mT, .int le, .int sp, .ref mD])), (mN, .inl (cyI, 515, .inl nw))] o0 [(mM, .inr (8, [.ref mN, .ref mR, .ref mA, .ref mP, .int ch, .ref mT, .int le, .int sp, .ref mD])), (mN, .inl (cyI, 515, .inl nw))] := by
  refine CI.of (cc := cX8_braked) (n := 5) (ret := (some .int)) (by decide +kernel) rfl (Nat.le_of_ble_eq_true rfl) ?_
  intro p_ e_ s_ m_ bl_ me_ cd_ A_ ls X Y hr hlk hl
  have hx := X.1.1
  have hb := X.1.2.1
  have hl : lv_has ls 5 [(0, .ref mM), (1, .int 1), (2, .int v)] := hl
  unfold s_braked8_1 at hu
  refine lv_aload_n hx hb dX8_braked_0 rfl (lv_at hl 0 rfl) ?_
  refine lv_iload_n hx hb dX8_braked_1 rfl (lv_at hl 1 rfl) ?_
  refine lv_iload_n hx hb dX8_braked_2 rfl (lv_at hl 2 rfl) ?_
  refine bVI0 (As := [.int 1, .int v]) (rest := []) (wc := [(mM, .inr (8, [.ref mN, .ref mR, .ref mA, .ref mP, .int ch, .ref mT, .int le, .int sp, .ref mD])), (mN, .inl (cyI, 515, .inl nw))]) (ci := 8) (q0 := 0) X Y (c_roomFor8_1 l D cyC cyI mM mN mR mA mP mT mD ch le sp nw v (s_roomFor8_1 nw v) rfl) gX8_braked_X8_roomFor rfl ⟨rfl, rfl⟩ hd_X8_roomFor ⟨(Nat.le_of_ble_eq_true rfl), (Nat.le_of_ble_eq_true rfl)⟩ rfl rfl rfl [0, 1] rfl rfl rfl rfl hl.1 (Nat.le_of_ble_eq_true rfl) ⟨Nat.zero_le _, Nat.zero_le _⟩ dX8_braked_3 (fun H locs Y => ?_)
  refine lv_istore_n (lv' := [(3, .int (s_roomFor8_1 nw v)), (0, .ref mM), (1, .int 1), (2, .int v)]) hx hb dX8_braked_6 rfl hl (by decide) rfl (fun ls hl => ?_)
  refine lv_iload_n hx hb dX8_braked_7 rfl (lv_at hl 3 rfl) ?_
  refine lv_istore (lv' := [(4, .int v), (3, .int (s_roomFor8_1 nw v)), (0, .ref mM), (1, .int 1), (2, .int v)]) hx hb dX8_braked_8 hl (by decide) rfl (fun ls hl => ?_)
  exact lp_braked8_1 l D cyC cyI mM mN mR mA mP mT mD ch le sp nw v o0 X hr hlk hc1 (v.toInt.natAbs + 1) (s_roomFor8_1 nw v) v (Nat.lt_succ_self _) hu _ _ _ (lv_sub hl [2, 3, 4, 1, 0] rfl) Y
theorem hd_X8_kept : bD1 yX8_kept RX8 1 := by decide +kernel
def s_goes8_0 (nw : Nat → Int32) (v : Int32) : (Nat → Int32) × Unit :=
  (upd (upd (upd (upd nw 7 ((nw 7) + v)) 8 v) 12 (s_kept8 (((nw 12) - ((16 * (nw 11)) / (nw 9))) - (4 * (v - (nw 8)))))) 11 (s_kept8 ((nw 11) + (s_kept8 (((nw 12) - ((16 * (nw 11)) / (nw 9))) - (4 * (v - (nw 8))))))), ())
set_option maxHeartbeats 4000000 in
set_option maxRecDepth 100000 in
theorem c_goes8_0 (l : Launch) (D : va_G) (cyC cyI : ClassId) (mM : Nat) (mN : Nat) (mR : Nat) (mA : Nat) (mP : Nat) (mT : Nat) (mD : Nat) (ch : Int32) (le : Int32) (sp : Int32) (nw : Nat → Int32) (v : Int32) (o0 : Nat → Int32) (hu : s_goes8_0 nw v = (o0, ())) (hr0 : ¬ nw 9 = 0) : CV l yX8_goes wsX8_goes { frames := 1, cells := 0, slots := 0, locals := 23 } D cyC cyI [.ref mM, .int 0, .int v] [(mM, .inr (8, [.ref mN, .ref mR, .ref mA, .ref mP, .int ch, .ref mT, .int le, .int sp, .ref mD])), (mN, .inl (cyI, 515, .inl nw))] [(mM, .inr (8, [.ref mN, .ref mR, .ref mA, .ref mP, .int ch, .ref mT, .int le, .int sp, .ref mD])), (mN, .inl (cyI, 515, .inl o0))] := by
  refine CV.of (cc := cX8_goes) (n := 4) (ret := none) (by decide +kernel) rfl (Nat.le_of_ble_eq_true rfl) ?_
  intro p_ e_ s_ m_ bl_ me_ cd_ A_ ls X Y hr hlk hl
  have hx := X.1.1
  have hb := X.1.2.1
  have hl : lv_has ls 4 [(0, .ref mM), (1, .int 0), (2, .int v)] := hl
  unfold s_goes8_0 at hu
  refine lv_iload_n hx hb dX8_goes_0 rfl (lv_at hl 2 rfl) ?_
  refine lv_aload_n hx hb dX8_goes_1 rfl (lv_at hl 0 rfl) ?_
  refine lv_iload_n hx hb dX8_goes_2 rfl (lv_at hl 1 rfl) ?_
  refine lv_iconst (v := 1) hx hb dX8_goes_3 (by decide) ?_
  refine bVI0 (As := [.int 0, .int 1]) (rest := [.int v]) (wc := [(mM, .inr (8, [.ref mN, .ref mR, .ref mA, .ref mP, .int ch, .ref mT, .int le, .int sp, .ref mD])), (mN, .inl (cyI, 515, .inl nw))]) (ci := 8) (q0 := 0) X Y (c_of8 l D cyC cyI mM mN mR mA mP mT mD ch le sp nw 0 1 (nw 8) (bOf (i := 8) (by decide) rfl) (bInD (by decide))) gX8_goes_X8_of rfl ⟨rfl, rfl⟩ hd_X8_of ⟨(Nat.le_of_ble_eq_true rfl), (Nat.le_of_ble_eq_true rfl)⟩ rfl rfl rfl [0, 1] rfl rfl rfl rfl hl.1 (Nat.le_of_ble_eq_true rfl) ⟨Nat.zero_le _, Nat.zero_le _⟩ dX8_goes_4 (fun H locs Y => ?_)
  refine bSub (v := v - (nw 8)) X dX8_goes_7 rfl ?_
  refine lv_istore_n (lv' := [(3, .int (v - (nw 8))), (0, .ref mM), (1, .int 0), (2, .int v)]) hx hb dX8_goes_8 rfl hl (by decide) rfl (fun ls hl => ?_)
  refine lv_aload_n hx hb dX8_goes_9 rfl (lv_at hl 1 rfl) ?_
  refine lv_iload_n hx hb dX8_goes_10 rfl (lv_at hl 2 rfl) ?_
  refine lv_iconst (v := 0) hx hb dX8_goes_11 (by decide) ?_
  refine lv_aload_n hx hb dX8_goes_12 rfl (lv_at hl 1 rfl) ?_
  refine lv_iload_n hx hb dX8_goes_13 rfl (lv_at hl 2 rfl) ?_
  refine lv_iconst (v := 0) hx hb dX8_goes_14 (by decide) ?_
  refine bVI0 (As := [.int 0, .int 0]) (rest := [.int 0, .int 0, .ref mM]) (wc := [(mM, .inr (8, [.ref mN, .ref mR, .ref mA, .ref mP, .int ch, .ref mT, .int le, .int sp, .ref mD])), (mN, .inl (cyI, 515, .inl nw))]) (ci := 8) (q0 := 0) X Y (c_of8 l D cyC cyI mM mN mR mA mP mT mD ch le sp nw 0 0 (nw 7) (bOf (i := 7) (by decide) rfl) (bInD (by decide))) gX8_goes_X8_of rfl ⟨rfl, rfl⟩ hd_X8_of ⟨(Nat.le_of_ble_eq_true rfl), (Nat.le_of_ble_eq_true rfl)⟩ rfl rfl rfl [0, 1] rfl rfl rfl rfl hl.1 (Nat.le_of_ble_eq_true rfl) ⟨Nat.zero_le _, Nat.zero_le _⟩ dX8_goes_15 (fun H locs Y => ?_)
  refine lv_iload_n hx hb dX8_goes_18 rfl (lv_at hl 3 rfl) ?_
  refine bAdd (v := (nw 7) + v) X dX8_goes_19 rfl ?_
  refine bVV (As := [.int 0, .int 0, .int ((nw 7) + v)]) (rest := []) (wc := [(mM, .inr (8, [.ref mN, .ref mR, .ref mA, .ref mP, .int ch, .ref mT, .int le, .int sp, .ref mD])), (mN, .inl (cyI, 515, .inl nw))]) (w1 := [(mM, .inr (8, [.ref mN, .ref mR, .ref mA, .ref mP, .int ch, .ref mT, .int le, .int sp, .ref mD])), (mN, .inl (cyI, 515, .inl (upd nw 7 ((nw 7) + v))))]) (ws' := [(mM, .inr (8, [.ref mN, .ref mR, .ref mA, .ref mP, .int ch, .ref mT, .int le, .int sp, .ref mD])), (mN, .inl (cyI, 515, .inl (upd nw 7 ((nw 7) + v))))]) (ad := [mM, mN]) (wr := []) (nn := 2) (ci := 8) (q0 := 0) X Y (c_tells8 l D cyC cyI mM mN mR mA mP mT mD ch le sp nw 0 0 ((nw 7) + v) (upd nw 7 ((nw 7) + v)) (bTells (i := 7) (by decide) rfl) (bInD (by decide))) gX8_goes_X8_tells rfl ⟨rfl, rfl⟩ hd_X8_tells ⟨(Nat.le_of_ble_eq_true rfl), (Nat.le_of_ble_eq_true rfl)⟩ rfl rfl rfl [0, 1] [] rfl rfl rfl rfl rfl rfl rfl rfl (by decide) rfl rfl hl.1 (Nat.le_of_ble_eq_true rfl) ⟨Nat.zero_le _, Nat.zero_le _⟩ dX8_goes_20 (fun H locs Y => ?_)
  refine lv_aload_n hx hb dX8_goes_23 rfl (lv_at hl 1 rfl) ?_
  refine lv_iload_n hx hb dX8_goes_24 rfl (lv_at hl 2 rfl) ?_
  refine lv_iconst (v := 1) hx hb dX8_goes_25 (by decide) ?_
  refine lv_iload_n hx hb dX8_goes_26 rfl (lv_at hl 3 rfl) ?_
  refine bVV (As := [.int 0, .int 1, .int v]) (rest := []) (wc := [(mM, .inr (8, [.ref mN, .ref mR, .ref mA, .ref mP, .int ch, .ref mT, .int le, .int sp, .ref mD])), (mN, .inl (cyI, 515, .inl (upd nw 7 ((nw 7) + v))))]) (w1 := [(mM, .inr (8, [.ref mN, .ref mR, .ref mA, .ref mP, .int ch, .ref mT, .int le, .int sp, .ref mD])), (mN, .inl (cyI, 515, .inl (upd (upd nw 7 ((nw 7) + v)) 8 v)))]) (ws' := [(mM, .inr (8, [.ref mN, .ref mR, .ref mA, .ref mP, .int ch, .ref mT, .int le, .int sp, .ref mD])), (mN, .inl (cyI, 515, .inl (upd (upd nw 7 ((nw 7) + v)) 8 v)))]) (ad := [mM, mN]) (wr := []) (nn := 2) (ci := 8) (q0 := 0) X Y (c_tells8 l D cyC cyI mM mN mR mA mP mT mD ch le sp (upd nw 7 ((nw 7) + v)) 0 1 v (upd (upd nw 7 ((nw 7) + v)) 8 v) (bTells (i := 8) (by decide) rfl) (bInD (by decide))) gX8_goes_X8_tells rfl ⟨rfl, rfl⟩ hd_X8_tells ⟨(Nat.le_of_ble_eq_true rfl), (Nat.le_of_ble_eq_true rfl)⟩ rfl rfl rfl [0, 1] [] rfl rfl rfl rfl rfl rfl rfl rfl (by decide) rfl rfl hl.1 (Nat.le_of_ble_eq_true rfl) ⟨Nat.zero_le _, Nat.zero_le _⟩ dX8_goes_27 (fun H locs Y => ?_)
  refine lv_aload_n hx hb dX8_goes_30 rfl (lv_at hl 1 rfl) ?_
  refine lv_iload_n hx hb dX8_goes_31 rfl (lv_at hl 2 rfl) ?_
  refine lv_iconst (v := 5) hx hb dX8_goes_32 (by decide) ?_
  refine lv_aload_n hx hb dX8_goes_33 rfl (lv_at hl 1 rfl) ?_
  refine lv_iload_n hx hb dX8_goes_34 rfl (lv_at hl 2 rfl) ?_
  refine lv_iconst (v := 5) hx hb dX8_goes_35 (by decide) ?_
  refine bVI0 (As := [.int 0, .int 5]) (rest := [.int 5, .int 0, .ref mM]) (wc := [(mM, .inr (8, [.ref mN, .ref mR, .ref mA, .ref mP, .int ch, .ref mT, .int le, .int sp, .ref mD])), (mN, .inl (cyI, 515, .inl (upd (upd nw 7 ((nw 7) + v)) 8 v)))]) (ci := 8) (q0 := 0) X Y (c_of8 l D cyC cyI mM mN mR mA mP mT mD ch le sp (upd (upd nw 7 ((nw 7) + v)) 8 v) 0 5 (nw 12) (bOf (i := 12) (by decide) ((upd_ne (by decide)).trans ((upd_ne (by decide)).trans rfl))) (bInD (by decide))) gX8_goes_X8_of rfl ⟨rfl, rfl⟩ hd_X8_of ⟨(Nat.le_of_ble_eq_true rfl), (Nat.le_of_ble_eq_true rfl)⟩ rfl rfl rfl [0, 1] rfl rfl rfl rfl hl.1 (Nat.le_of_ble_eq_true rfl) ⟨Nat.zero_le _, Nat.zero_le _⟩ dX8_goes_36 (fun H locs Y => ?_)
  refine lv_bipush (v := 16) hx hb dX8_goes_39 (by decide) ?_
  refine lv_aload_n hx hb dX8_goes_41 rfl (lv_at hl 1 rfl) ?_
  refine lv_iload_n hx hb dX8_goes_42 rfl (lv_at hl 2 rfl) ?_
  refine lv_iconst (v := 4) hx hb dX8_goes_43 (by decide) ?_
  refine bVI0 (As := [.int 0, .int 4]) (rest := [.int 16, .int (nw 12), .int 5, .int 0, .ref mM]) (wc := [(mM, .inr (8, [.ref mN, .ref mR, .ref mA, .ref mP, .int ch, .ref mT, .int le, .int sp, .ref mD])), (mN, .inl (cyI, 515, .inl (upd (upd nw 7 ((nw 7) + v)) 8 v)))]) (ci := 8) (q0 := 0) X Y (c_of8 l D cyC cyI mM mN mR mA mP mT mD ch le sp (upd (upd nw 7 ((nw 7) + v)) 8 v) 0 4 (nw 11) (bOf (i := 11) (by decide) ((upd_ne (by decide)).trans ((upd_ne (by decide)).trans rfl))) (bInD (by decide))) gX8_goes_X8_of rfl ⟨rfl, rfl⟩ hd_X8_of ⟨(Nat.le_of_ble_eq_true rfl), (Nat.le_of_ble_eq_true rfl)⟩ rfl rfl rfl [0, 1] rfl rfl rfl rfl hl.1 (Nat.le_of_ble_eq_true rfl) ⟨Nat.zero_le _, Nat.zero_le _⟩ dX8_goes_44 (fun H locs Y => ?_)
  refine bMul (v := 16 * (nw 11)) X dX8_goes_47 rfl ?_
  refine lv_aload_n hx hb dX8_goes_48 rfl (lv_at hl 1 rfl) ?_
  refine lv_iload_n hx hb dX8_goes_49 rfl (lv_at hl 2 rfl) ?_
  refine lv_iconst (v := 2) hx hb dX8_goes_50 (by decide) ?_
  refine bVI0 (As := [.int 0, .int 2]) (rest := [.int (16 * (nw 11)), .int (nw 12), .int 5, .int 0, .ref mM]) (wc := [(mM, .inr (8, [.ref mN, .ref mR, .ref mA, .ref mP, .int ch, .ref mT, .int le, .int sp, .ref mD])), (mN, .inl (cyI, 515, .inl (upd (upd nw 7 ((nw 7) + v)) 8 v)))]) (ci := 8) (q0 := 0) X Y (c_of8 l D cyC cyI mM mN mR mA mP mT mD ch le sp (upd (upd nw 7 ((nw 7) + v)) 8 v) 0 2 (nw 9) (bOf (i := 9) (by decide) ((upd_ne (by decide)).trans ((upd_ne (by decide)).trans rfl))) (bInD (by decide))) gX8_goes_X8_of rfl ⟨rfl, rfl⟩ hd_X8_of ⟨(Nat.le_of_ble_eq_true rfl), (Nat.le_of_ble_eq_true rfl)⟩ rfl rfl rfl [0, 1] rfl rfl rfl rfl hl.1 (Nat.le_of_ble_eq_true rfl) ⟨Nat.zero_le _, Nat.zero_le _⟩ dX8_goes_51 (fun H locs Y => ?_)
  refine bDiv (v := (16 * (nw 11)) / (nw 9)) X dX8_goes_54 (by first | assumption | exact bNz (by assumption) | exact bNz1 (by assumption) | exact bNz2 (by assumption) | exact bNz3 (by assumption)) rfl ?_
  refine bSub (v := (nw 12) - ((16 * (nw 11)) / (nw 9))) X dX8_goes_55 rfl ?_
  refine lv_iconst (v := 4) hx hb dX8_goes_56 (by decide) ?_
  refine lv_iload_n hx hb dX8_goes_57 rfl (lv_at hl 0 rfl) ?_
  refine bMul (v := 4 * (v - (nw 8))) X dX8_goes_58 rfl ?_
  refine bSub (v := ((nw 12) - ((16 * (nw 11)) / (nw 9))) - (4 * (v - (nw 8)))) X dX8_goes_59 rfl ?_
  refine bSI (As := [.int (((nw 12) - ((16 * (nw 11)) / (nw 9))) - (4 * (v - (nw 8))))]) (rest := [.int 5, .int 0, .ref mM]) X Y (c_kept8 l D cyC cyI (((nw 12) - ((16 * (nw 11)) / (nw 9))) - (4 * (v - (nw 8)))) (s_kept8 (((nw 12) - ((16 * (nw 11)) / (nw 9))) - (4 * (v - (nw 8))))) rfl) gX8_goes_X8_kept rfl ⟨rfl, rfl⟩ hd_X8_kept.2 ⟨(Nat.le_of_ble_eq_true rfl), (Nat.le_of_ble_eq_true rfl)⟩ rfl rfl hl.1 (Nat.le_of_ble_eq_true rfl) ⟨Nat.zero_le _, Nat.zero_le _⟩ dX8_goes_60 (fun H locs Y => ?_)
  refine bVV (As := [.int 0, .int 5, .int (s_kept8 (((nw 12) - ((16 * (nw 11)) / (nw 9))) - (4 * (v - (nw 8)))))]) (rest := []) (wc := [(mM, .inr (8, [.ref mN, .ref mR, .ref mA, .ref mP, .int ch, .ref mT, .int le, .int sp, .ref mD])), (mN, .inl (cyI, 515, .inl (upd (upd nw 7 ((nw 7) + v)) 8 v)))]) (w1 := [(mM, .inr (8, [.ref mN, .ref mR, .ref mA, .ref mP, .int ch, .ref mT, .int le, .int sp, .ref mD])), (mN, .inl (cyI, 515, .inl (upd (upd (upd nw 7 ((nw 7) + v)) 8 v) 12 (s_kept8 (((nw 12) - ((16 * (nw 11)) / (nw 9))) - (4 * (v - (nw 8))))))))]) (ws' := [(mM, .inr (8, [.ref mN, .ref mR, .ref mA, .ref mP, .int ch, .ref mT, .int le, .int sp, .ref mD])), (mN, .inl (cyI, 515, .inl (upd (upd (upd nw 7 ((nw 7) + v)) 8 v) 12 (s_kept8 (((nw 12) - ((16 * (nw 11)) / (nw 9))) - (4 * (v - (nw 8))))))))]) (ad := [mM, mN]) (wr := []) (nn := 2) (ci := 8) (q0 := 0) X Y (c_tells8 l D cyC cyI mM mN mR mA mP mT mD ch le sp (upd (upd nw 7 ((nw 7) + v)) 8 v) 0 5 (s_kept8 (((nw 12) - ((16 * (nw 11)) / (nw 9))) - (4 * (v - (nw 8))))) (upd (upd (upd nw 7 ((nw 7) + v)) 8 v) 12 (s_kept8 (((nw 12) - ((16 * (nw 11)) / (nw 9))) - (4 * (v - (nw 8)))))) (bTells (i := 12) (by decide) rfl) (bInD (by decide))) gX8_goes_X8_tells rfl ⟨rfl, rfl⟩ hd_X8_tells ⟨(Nat.le_of_ble_eq_true rfl), (Nat.le_of_ble_eq_true rfl)⟩ rfl rfl rfl [0, 1] [] rfl rfl rfl rfl rfl rfl rfl rfl (by decide) rfl rfl hl.1 (Nat.le_of_ble_eq_true rfl) ⟨Nat.zero_le _, Nat.zero_le _⟩ dX8_goes_63 (fun H locs Y => ?_)
  refine lv_aload_n hx hb dX8_goes_66 rfl (lv_at hl 1 rfl) ?_
  refine lv_iload_n hx hb dX8_goes_67 rfl (lv_at hl 2 rfl) ?_
  refine lv_iconst (v := 4) hx hb dX8_goes_68 (by decide) ?_
  refine lv_aload_n hx hb dX8_goes_69 rfl (lv_at hl 1 rfl) ?_
  refine lv_iload_n hx hb dX8_goes_70 rfl (lv_at hl 2 rfl) ?_
  refine lv_iconst (v := 4) hx hb dX8_goes_71 (by decide) ?_
  refine bVI0 (As := [.int 0, .int 4]) (rest := [.int 4, .int 0, .ref mM]) (wc := [(mM, .inr (8, [.ref mN, .ref mR, .ref mA, .ref mP, .int ch, .ref mT, .int le, .int sp, .ref mD])), (mN, .inl (cyI, 515, .inl (upd (upd (upd nw 7 ((nw 7) + v)) 8 v) 12 (s_kept8 (((nw 12) - ((16 * (nw 11)) / (nw 9))) - (4 * (v - (nw 8))))))))]) (ci := 8) (q0 := 0) X Y (c_of8 l D cyC cyI mM mN mR mA mP mT mD ch le sp (upd (upd (upd nw 7 ((nw 7) + v)) 8 v) 12 (s_kept8 (((nw 12) - ((16 * (nw 11)) / (nw 9))) - (4 * (v - (nw 8)))))) 0 4 (nw 11) (bOf (i := 11) (by decide) ((upd_ne (by decide)).trans ((upd_ne (by decide)).trans ((upd_ne (by decide)).trans rfl)))) (bInD (by decide))) gX8_goes_X8_of rfl ⟨rfl, rfl⟩ hd_X8_of ⟨(Nat.le_of_ble_eq_true rfl), (Nat.le_of_ble_eq_true rfl)⟩ rfl rfl rfl [0, 1] rfl rfl rfl rfl hl.1 (Nat.le_of_ble_eq_true rfl) ⟨Nat.zero_le _, Nat.zero_le _⟩ dX8_goes_72 (fun H locs Y => ?_)
  refine lv_aload_n hx hb dX8_goes_75 rfl (lv_at hl 1 rfl) ?_
  refine lv_iload_n hx hb dX8_goes_76 rfl (lv_at hl 2 rfl) ?_
  refine lv_iconst (v := 5) hx hb dX8_goes_77 (by decide) ?_
  refine bVI0 (As := [.int 0, .int 5]) (rest := [.int (nw 11), .int 4, .int 0, .ref mM]) (wc := [(mM, .inr (8, [.ref mN, .ref mR, .ref mA, .ref mP, .int ch, .ref mT, .int le, .int sp, .ref mD])), (mN, .inl (cyI, 515, .inl (upd (upd (upd nw 7 ((nw 7) + v)) 8 v) 12 (s_kept8 (((nw 12) - ((16 * (nw 11)) / (nw 9))) - (4 * (v - (nw 8))))))))]) (ci := 8) (q0 := 0) X Y (c_of8 l D cyC cyI mM mN mR mA mP mT mD ch le sp (upd (upd (upd nw 7 ((nw 7) + v)) 8 v) 12 (s_kept8 (((nw 12) - ((16 * (nw 11)) / (nw 9))) - (4 * (v - (nw 8)))))) 0 5 (s_kept8 (((nw 12) - ((16 * (nw 11)) / (nw 9))) - (4 * (v - (nw 8))))) (bOf (i := 12) (by decide) upd_eq) (bInD (by decide))) gX8_goes_X8_of rfl ⟨rfl, rfl⟩ hd_X8_of ⟨(Nat.le_of_ble_eq_true rfl), (Nat.le_of_ble_eq_true rfl)⟩ rfl rfl rfl [0, 1] rfl rfl rfl rfl hl.1 (Nat.le_of_ble_eq_true rfl) ⟨Nat.zero_le _, Nat.zero_le _⟩ dX8_goes_78 (fun H locs Y => ?_)
  refine bAdd (v := (nw 11) + (s_kept8 (((nw 12) - ((16 * (nw 11)) / (nw 9))) - (4 * (v - (nw 8)))))) X dX8_goes_81 rfl ?_
  refine bSI (As := [.int ((nw 11) + (s_kept8 (((nw 12) - ((16 * (nw 11)) / (nw 9))) - (4 * (v - (nw 8))))))]) (rest := [.int 4, .int 0, .ref mM]) X Y (c_kept8 l D cyC cyI ((nw 11) + (s_kept8 (((nw 12) - ((16 * (nw 11)) / (nw 9))) - (4 * (v - (nw 8)))))) (s_kept8 ((nw 11) + (s_kept8 (((nw 12) - ((16 * (nw 11)) / (nw 9))) - (4 * (v - (nw 8))))))) rfl) gX8_goes_X8_kept rfl ⟨rfl, rfl⟩ hd_X8_kept.2 ⟨(Nat.le_of_ble_eq_true rfl), (Nat.le_of_ble_eq_true rfl)⟩ rfl rfl hl.1 (Nat.le_of_ble_eq_true rfl) ⟨Nat.zero_le _, Nat.zero_le _⟩ dX8_goes_82 (fun H locs Y => ?_)
  refine bVV (As := [.int 0, .int 4, .int (s_kept8 ((nw 11) + (s_kept8 (((nw 12) - ((16 * (nw 11)) / (nw 9))) - (4 * (v - (nw 8)))))))]) (rest := []) (wc := [(mM, .inr (8, [.ref mN, .ref mR, .ref mA, .ref mP, .int ch, .ref mT, .int le, .int sp, .ref mD])), (mN, .inl (cyI, 515, .inl (upd (upd (upd nw 7 ((nw 7) + v)) 8 v) 12 (s_kept8 (((nw 12) - ((16 * (nw 11)) / (nw 9))) - (4 * (v - (nw 8))))))))]) (w1 := [(mM, .inr (8, [.ref mN, .ref mR, .ref mA, .ref mP, .int ch, .ref mT, .int le, .int sp, .ref mD])), (mN, .inl (cyI, 515, .inl (upd (upd (upd (upd nw 7 ((nw 7) + v)) 8 v) 12 (s_kept8 (((nw 12) - ((16 * (nw 11)) / (nw 9))) - (4 * (v - (nw 8)))))) 11 (s_kept8 ((nw 11) + (s_kept8 (((nw 12) - ((16 * (nw 11)) / (nw 9))) - (4 * (v - (nw 8))))))))))]) (ws' := [(mM, .inr (8, [.ref mN, .ref mR, .ref mA, .ref mP, .int ch, .ref mT, .int le, .int sp, .ref mD])), (mN, .inl (cyI, 515, .inl (upd (upd (upd (upd nw 7 ((nw 7) + v)) 8 v) 12 (s_kept8 (((nw 12) - ((16 * (nw 11)) / (nw 9))) - (4 * (v - (nw 8)))))) 11 (s_kept8 ((nw 11) + (s_kept8 (((nw 12) - ((16 * (nw 11)) / (nw 9))) - (4 * (v - (nw 8))))))))))]) (ad := [mM, mN]) (wr := []) (nn := 2) (ci := 8) (q0 := 0) X Y (c_tells8 l D cyC cyI mM mN mR mA mP mT mD ch le sp (upd (upd (upd nw 7 ((nw 7) + v)) 8 v) 12 (s_kept8 (((nw 12) - ((16 * (nw 11)) / (nw 9))) - (4 * (v - (nw 8)))))) 0 4 (s_kept8 ((nw 11) + (s_kept8 (((nw 12) - ((16 * (nw 11)) / (nw 9))) - (4 * (v - (nw 8))))))) (upd (upd (upd (upd nw 7 ((nw 7) + v)) 8 v) 12 (s_kept8 (((nw 12) - ((16 * (nw 11)) / (nw 9))) - (4 * (v - (nw 8)))))) 11 (s_kept8 ((nw 11) + (s_kept8 (((nw 12) - ((16 * (nw 11)) / (nw 9))) - (4 * (v - (nw 8)))))))) (bTells (i := 11) (by decide) rfl) (bInD (by decide))) gX8_goes_X8_tells rfl ⟨rfl, rfl⟩ hd_X8_tells ⟨(Nat.le_of_ble_eq_true rfl), (Nat.le_of_ble_eq_true rfl)⟩ rfl rfl rfl [0, 1] [] rfl rfl rfl rfl rfl rfl rfl rfl (by decide) rfl rfl hl.1 (Nat.le_of_ble_eq_true rfl) ⟨Nat.zero_le _, Nat.zero_le _⟩ dX8_goes_85 (fun H locs Y => ?_)
  have h9 := (Prod.mk.inj hu).1
  subst h9
  exact bEndV X Y hr hlk dX8_goes_88 rfl
def s_goes8_1 (nw : Nat → Int32) (v : Int32) : (Nat → Int32) × Unit :=
  (upd (upd (upd (upd nw 20 ((nw 20) + v)) 21 v) 25 (s_kept8 (((nw 25) - ((16 * (nw 24)) / (nw 22))) - (4 * (v - (nw 21)))))) 24 (s_kept8 ((nw 24) + (s_kept8 (((nw 25) - ((16 * (nw 24)) / (nw 22))) - (4 * (v - (nw 21))))))), ())
set_option maxHeartbeats 4000000 in
set_option maxRecDepth 100000 in
theorem c_goes8_1 (l : Launch) (D : va_G) (cyC cyI : ClassId) (mM : Nat) (mN : Nat) (mR : Nat) (mA : Nat) (mP : Nat) (mT : Nat) (mD : Nat) (ch : Int32) (le : Int32) (sp : Int32) (nw : Nat → Int32) (v : Int32) (o0 : Nat → Int32) (hu : s_goes8_1 nw v = (o0, ())) (hr0 : ¬ nw 22 = 0) : CV l yX8_goes wsX8_goes { frames := 1, cells := 0, slots := 0, locals := 23 } D cyC cyI [.ref mM, .int 1, .int v] [(mM, .inr (8, [.ref mN, .ref mR, .ref mA, .ref mP, .int ch, .ref mT, .int le, .int sp, .ref mD])), (mN, .inl (cyI, 515, .inl nw))] [(mM, .inr (8, [.ref mN, .ref mR, .ref mA, .ref mP, .int ch, .ref mT, .int le, .int sp, .ref mD])), (mN, .inl (cyI, 515, .inl o0))] := by
  refine CV.of (cc := cX8_goes) (n := 4) (ret := none) (by decide +kernel) rfl (Nat.le_of_ble_eq_true rfl) ?_
  intro p_ e_ s_ m_ bl_ me_ cd_ A_ ls X Y hr hlk hl
  have hx := X.1.1
  have hb := X.1.2.1
  have hl : lv_has ls 4 [(0, .ref mM), (1, .int 1), (2, .int v)] := hl
  unfold s_goes8_1 at hu
  refine lv_iload_n hx hb dX8_goes_0 rfl (lv_at hl 2 rfl) ?_
  refine lv_aload_n hx hb dX8_goes_1 rfl (lv_at hl 0 rfl) ?_
  refine lv_iload_n hx hb dX8_goes_2 rfl (lv_at hl 1 rfl) ?_
  refine lv_iconst (v := 1) hx hb dX8_goes_3 (by decide) ?_
  refine bVI0 (As := [.int 1, .int 1]) (rest := [.int v]) (wc := [(mM, .inr (8, [.ref mN, .ref mR, .ref mA, .ref mP, .int ch, .ref mT, .int le, .int sp, .ref mD])), (mN, .inl (cyI, 515, .inl nw))]) (ci := 8) (q0 := 0) X Y (c_of8 l D cyC cyI mM mN mR mA mP mT mD ch le sp nw 1 1 (nw 21) (bOf (i := 21) (by decide) rfl) (bInD (by decide))) gX8_goes_X8_of rfl ⟨rfl, rfl⟩ hd_X8_of ⟨(Nat.le_of_ble_eq_true rfl), (Nat.le_of_ble_eq_true rfl)⟩ rfl rfl rfl [0, 1] rfl rfl rfl rfl hl.1 (Nat.le_of_ble_eq_true rfl) ⟨Nat.zero_le _, Nat.zero_le _⟩ dX8_goes_4 (fun H locs Y => ?_)
  refine bSub (v := v - (nw 21)) X dX8_goes_7 rfl ?_
  refine lv_istore_n (lv' := [(3, .int (v - (nw 21))), (0, .ref mM), (1, .int 1), (2, .int v)]) hx hb dX8_goes_8 rfl hl (by decide) rfl (fun ls hl => ?_)
  refine lv_aload_n hx hb dX8_goes_9 rfl (lv_at hl 1 rfl) ?_
  refine lv_iload_n hx hb dX8_goes_10 rfl (lv_at hl 2 rfl) ?_
  refine lv_iconst (v := 0) hx hb dX8_goes_11 (by decide) ?_
  refine lv_aload_n hx hb dX8_goes_12 rfl (lv_at hl 1 rfl) ?_
  refine lv_iload_n hx hb dX8_goes_13 rfl (lv_at hl 2 rfl) ?_
  refine lv_iconst (v := 0) hx hb dX8_goes_14 (by decide) ?_
  refine bVI0 (As := [.int 1, .int 0]) (rest := [.int 0, .int 1, .ref mM]) (wc := [(mM, .inr (8, [.ref mN, .ref mR, .ref mA, .ref mP, .int ch, .ref mT, .int le, .int sp, .ref mD])), (mN, .inl (cyI, 515, .inl nw))]) (ci := 8) (q0 := 0) X Y (c_of8 l D cyC cyI mM mN mR mA mP mT mD ch le sp nw 1 0 (nw 20) (bOf (i := 20) (by decide) rfl) (bInD (by decide))) gX8_goes_X8_of rfl ⟨rfl, rfl⟩ hd_X8_of ⟨(Nat.le_of_ble_eq_true rfl), (Nat.le_of_ble_eq_true rfl)⟩ rfl rfl rfl [0, 1] rfl rfl rfl rfl hl.1 (Nat.le_of_ble_eq_true rfl) ⟨Nat.zero_le _, Nat.zero_le _⟩ dX8_goes_15 (fun H locs Y => ?_)
  refine lv_iload_n hx hb dX8_goes_18 rfl (lv_at hl 3 rfl) ?_
  refine bAdd (v := (nw 20) + v) X dX8_goes_19 rfl ?_
  refine bVV (As := [.int 1, .int 0, .int ((nw 20) + v)]) (rest := []) (wc := [(mM, .inr (8, [.ref mN, .ref mR, .ref mA, .ref mP, .int ch, .ref mT, .int le, .int sp, .ref mD])), (mN, .inl (cyI, 515, .inl nw))]) (w1 := [(mM, .inr (8, [.ref mN, .ref mR, .ref mA, .ref mP, .int ch, .ref mT, .int le, .int sp, .ref mD])), (mN, .inl (cyI, 515, .inl (upd nw 20 ((nw 20) + v))))]) (ws' := [(mM, .inr (8, [.ref mN, .ref mR, .ref mA, .ref mP, .int ch, .ref mT, .int le, .int sp, .ref mD])), (mN, .inl (cyI, 515, .inl (upd nw 20 ((nw 20) + v))))]) (ad := [mM, mN]) (wr := []) (nn := 2) (ci := 8) (q0 := 0) X Y (c_tells8 l D cyC cyI mM mN mR mA mP mT mD ch le sp nw 1 0 ((nw 20) + v) (upd nw 20 ((nw 20) + v)) (bTells (i := 20) (by decide) rfl) (bInD (by decide))) gX8_goes_X8_tells rfl ⟨rfl, rfl⟩ hd_X8_tells ⟨(Nat.le_of_ble_eq_true rfl), (Nat.le_of_ble_eq_true rfl)⟩ rfl rfl rfl [0, 1] [] rfl rfl rfl rfl rfl rfl rfl rfl (by decide) rfl rfl hl.1 (Nat.le_of_ble_eq_true rfl) ⟨Nat.zero_le _, Nat.zero_le _⟩ dX8_goes_20 (fun H locs Y => ?_)
  refine lv_aload_n hx hb dX8_goes_23 rfl (lv_at hl 1 rfl) ?_
  refine lv_iload_n hx hb dX8_goes_24 rfl (lv_at hl 2 rfl) ?_
  refine lv_iconst (v := 1) hx hb dX8_goes_25 (by decide) ?_
  refine lv_iload_n hx hb dX8_goes_26 rfl (lv_at hl 3 rfl) ?_
  refine bVV (As := [.int 1, .int 1, .int v]) (rest := []) (wc := [(mM, .inr (8, [.ref mN, .ref mR, .ref mA, .ref mP, .int ch, .ref mT, .int le, .int sp, .ref mD])), (mN, .inl (cyI, 515, .inl (upd nw 20 ((nw 20) + v))))]) (w1 := [(mM, .inr (8, [.ref mN, .ref mR, .ref mA, .ref mP, .int ch, .ref mT, .int le, .int sp, .ref mD])), (mN, .inl (cyI, 515, .inl (upd (upd nw 20 ((nw 20) + v)) 21 v)))]) (ws' := [(mM, .inr (8, [.ref mN, .ref mR, .ref mA, .ref mP, .int ch, .ref mT, .int le, .int sp, .ref mD])), (mN, .inl (cyI, 515, .inl (upd (upd nw 20 ((nw 20) + v)) 21 v)))]) (ad := [mM, mN]) (wr := []) (nn := 2) (ci := 8) (q0 := 0) X Y (c_tells8 l D cyC cyI mM mN mR mA mP mT mD ch le sp (upd nw 20 ((nw 20) + v)) 1 1 v (upd (upd nw 20 ((nw 20) + v)) 21 v) (bTells (i := 21) (by decide) rfl) (bInD (by decide))) gX8_goes_X8_tells rfl ⟨rfl, rfl⟩ hd_X8_tells ⟨(Nat.le_of_ble_eq_true rfl), (Nat.le_of_ble_eq_true rfl)⟩ rfl rfl rfl [0, 1] [] rfl rfl rfl rfl rfl rfl rfl rfl (by decide) rfl rfl hl.1 (Nat.le_of_ble_eq_true rfl) ⟨Nat.zero_le _, Nat.zero_le _⟩ dX8_goes_27 (fun H locs Y => ?_)
  refine lv_aload_n hx hb dX8_goes_30 rfl (lv_at hl 1 rfl) ?_
  refine lv_iload_n hx hb dX8_goes_31 rfl (lv_at hl 2 rfl) ?_
  refine lv_iconst (v := 5) hx hb dX8_goes_32 (by decide) ?_
  refine lv_aload_n hx hb dX8_goes_33 rfl (lv_at hl 1 rfl) ?_
  refine lv_iload_n hx hb dX8_goes_34 rfl (lv_at hl 2 rfl) ?_
  refine lv_iconst (v := 5) hx hb dX8_goes_35 (by decide) ?_
  refine bVI0 (As := [.int 1, .int 5]) (rest := [.int 5, .int 1, .ref mM]) (wc := [(mM, .inr (8, [.ref mN, .ref mR, .ref mA, .ref mP, .int ch, .ref mT, .int le, .int sp, .ref mD])), (mN, .inl (cyI, 515, .inl (upd (upd nw 20 ((nw 20) + v)) 21 v)))]) (ci := 8) (q0 := 0) X Y (c_of8 l D cyC cyI mM mN mR mA mP mT mD ch le sp (upd (upd nw 20 ((nw 20) + v)) 21 v) 1 5 (nw 25) (bOf (i := 25) (by decide) ((upd_ne (by decide)).trans ((upd_ne (by decide)).trans rfl))) (bInD (by decide))) gX8_goes_X8_of rfl ⟨rfl, rfl⟩ hd_X8_of ⟨(Nat.le_of_ble_eq_true rfl), (Nat.le_of_ble_eq_true rfl)⟩ rfl rfl rfl [0, 1] rfl rfl rfl rfl hl.1 (Nat.le_of_ble_eq_true rfl) ⟨Nat.zero_le _, Nat.zero_le _⟩ dX8_goes_36 (fun H locs Y => ?_)
  refine lv_bipush (v := 16) hx hb dX8_goes_39 (by decide) ?_
  refine lv_aload_n hx hb dX8_goes_41 rfl (lv_at hl 1 rfl) ?_
  refine lv_iload_n hx hb dX8_goes_42 rfl (lv_at hl 2 rfl) ?_
  refine lv_iconst (v := 4) hx hb dX8_goes_43 (by decide) ?_
  refine bVI0 (As := [.int 1, .int 4]) (rest := [.int 16, .int (nw 25), .int 5, .int 1, .ref mM]) (wc := [(mM, .inr (8, [.ref mN, .ref mR, .ref mA, .ref mP, .int ch, .ref mT, .int le, .int sp, .ref mD])), (mN, .inl (cyI, 515, .inl (upd (upd nw 20 ((nw 20) + v)) 21 v)))]) (ci := 8) (q0 := 0) X Y (c_of8 l D cyC cyI mM mN mR mA mP mT mD ch le sp (upd (upd nw 20 ((nw 20) + v)) 21 v) 1 4 (nw 24) (bOf (i := 24) (by decide) ((upd_ne (by decide)).trans ((upd_ne (by decide)).trans rfl))) (bInD (by decide))) gX8_goes_X8_of rfl ⟨rfl, rfl⟩ hd_X8_of ⟨(Nat.le_of_ble_eq_true rfl), (Nat.le_of_ble_eq_true rfl)⟩ rfl rfl rfl [0, 1] rfl rfl rfl rfl hl.1 (Nat.le_of_ble_eq_true rfl) ⟨Nat.zero_le _, Nat.zero_le _⟩ dX8_goes_44 (fun H locs Y => ?_)
  refine bMul (v := 16 * (nw 24)) X dX8_goes_47 rfl ?_
  refine lv_aload_n hx hb dX8_goes_48 rfl (lv_at hl 1 rfl) ?_
  refine lv_iload_n hx hb dX8_goes_49 rfl (lv_at hl 2 rfl) ?_
  refine lv_iconst (v := 2) hx hb dX8_goes_50 (by decide) ?_
  refine bVI0 (As := [.int 1, .int 2]) (rest := [.int (16 * (nw 24)), .int (nw 25), .int 5, .int 1, .ref mM]) (wc := [(mM, .inr (8, [.ref mN, .ref mR, .ref mA, .ref mP, .int ch, .ref mT, .int le, .int sp, .ref mD])), (mN, .inl (cyI, 515, .inl (upd (upd nw 20 ((nw 20) + v)) 21 v)))]) (ci := 8) (q0 := 0) X Y (c_of8 l D cyC cyI mM mN mR mA mP mT mD ch le sp (upd (upd nw 20 ((nw 20) + v)) 21 v) 1 2 (nw 22) (bOf (i := 22) (by decide) ((upd_ne (by decide)).trans ((upd_ne (by decide)).trans rfl))) (bInD (by decide))) gX8_goes_X8_of rfl ⟨rfl, rfl⟩ hd_X8_of ⟨(Nat.le_of_ble_eq_true rfl), (Nat.le_of_ble_eq_true rfl)⟩ rfl rfl rfl [0, 1] rfl rfl rfl rfl hl.1 (Nat.le_of_ble_eq_true rfl) ⟨Nat.zero_le _, Nat.zero_le _⟩ dX8_goes_51 (fun H locs Y => ?_)
  refine bDiv (v := (16 * (nw 24)) / (nw 22)) X dX8_goes_54 (by first | assumption | exact bNz (by assumption) | exact bNz1 (by assumption) | exact bNz2 (by assumption) | exact bNz3 (by assumption)) rfl ?_
  refine bSub (v := (nw 25) - ((16 * (nw 24)) / (nw 22))) X dX8_goes_55 rfl ?_
  refine lv_iconst (v := 4) hx hb dX8_goes_56 (by decide) ?_
  refine lv_iload_n hx hb dX8_goes_57 rfl (lv_at hl 0 rfl) ?_
  refine bMul (v := 4 * (v - (nw 21))) X dX8_goes_58 rfl ?_
  refine bSub (v := ((nw 25) - ((16 * (nw 24)) / (nw 22))) - (4 * (v - (nw 21)))) X dX8_goes_59 rfl ?_
  refine bSI (As := [.int (((nw 25) - ((16 * (nw 24)) / (nw 22))) - (4 * (v - (nw 21))))]) (rest := [.int 5, .int 1, .ref mM]) X Y (c_kept8 l D cyC cyI (((nw 25) - ((16 * (nw 24)) / (nw 22))) - (4 * (v - (nw 21)))) (s_kept8 (((nw 25) - ((16 * (nw 24)) / (nw 22))) - (4 * (v - (nw 21))))) rfl) gX8_goes_X8_kept rfl ⟨rfl, rfl⟩ hd_X8_kept.2 ⟨(Nat.le_of_ble_eq_true rfl), (Nat.le_of_ble_eq_true rfl)⟩ rfl rfl hl.1 (Nat.le_of_ble_eq_true rfl) ⟨Nat.zero_le _, Nat.zero_le _⟩ dX8_goes_60 (fun H locs Y => ?_)
  refine bVV (As := [.int 1, .int 5, .int (s_kept8 (((nw 25) - ((16 * (nw 24)) / (nw 22))) - (4 * (v - (nw 21)))))]) (rest := []) (wc := [(mM, .inr (8, [.ref mN, .ref mR, .ref mA, .ref mP, .int ch, .ref mT, .int le, .int sp, .ref mD])), (mN, .inl (cyI, 515, .inl (upd (upd nw 20 ((nw 20) + v)) 21 v)))]) (w1 := [(mM, .inr (8, [.ref mN, .ref mR, .ref mA, .ref mP, .int ch, .ref mT, .int le, .int sp, .ref mD])), (mN, .inl (cyI, 515, .inl (upd (upd (upd nw 20 ((nw 20) + v)) 21 v) 25 (s_kept8 (((nw 25) - ((16 * (nw 24)) / (nw 22))) - (4 * (v - (nw 21))))))))]) (ws' := [(mM, .inr (8, [.ref mN, .ref mR, .ref mA, .ref mP, .int ch, .ref mT, .int le, .int sp, .ref mD])), (mN, .inl (cyI, 515, .inl (upd (upd (upd nw 20 ((nw 20) + v)) 21 v) 25 (s_kept8 (((nw 25) - ((16 * (nw 24)) / (nw 22))) - (4 * (v - (nw 21))))))))]) (ad := [mM, mN]) (wr := []) (nn := 2) (ci := 8) (q0 := 0) X Y (c_tells8 l D cyC cyI mM mN mR mA mP mT mD ch le sp (upd (upd nw 20 ((nw 20) + v)) 21 v) 1 5 (s_kept8 (((nw 25) - ((16 * (nw 24)) / (nw 22))) - (4 * (v - (nw 21))))) (upd (upd (upd nw 20 ((nw 20) + v)) 21 v) 25 (s_kept8 (((nw 25) - ((16 * (nw 24)) / (nw 22))) - (4 * (v - (nw 21)))))) (bTells (i := 25) (by decide) rfl) (bInD (by decide))) gX8_goes_X8_tells rfl ⟨rfl, rfl⟩ hd_X8_tells ⟨(Nat.le_of_ble_eq_true rfl), (Nat.le_of_ble_eq_true rfl)⟩ rfl rfl rfl [0, 1] [] rfl rfl rfl rfl rfl rfl rfl rfl (by decide) rfl rfl hl.1 (Nat.le_of_ble_eq_true rfl) ⟨Nat.zero_le _, Nat.zero_le _⟩ dX8_goes_63 (fun H locs Y => ?_)
  refine lv_aload_n hx hb dX8_goes_66 rfl (lv_at hl 1 rfl) ?_
  refine lv_iload_n hx hb dX8_goes_67 rfl (lv_at hl 2 rfl) ?_
  refine lv_iconst (v := 4) hx hb dX8_goes_68 (by decide) ?_
  refine lv_aload_n hx hb dX8_goes_69 rfl (lv_at hl 1 rfl) ?_
  refine lv_iload_n hx hb dX8_goes_70 rfl (lv_at hl 2 rfl) ?_
  refine lv_iconst (v := 4) hx hb dX8_goes_71 (by decide) ?_
  refine bVI0 (As := [.int 1, .int 4]) (rest := [.int 4, .int 1, .ref mM]) (wc := [(mM, .inr (8, [.ref mN, .ref mR, .ref mA, .ref mP, .int ch, .ref mT, .int le, .int sp, .ref mD])), (mN, .inl (cyI, 515, .inl (upd (upd (upd nw 20 ((nw 20) + v)) 21 v) 25 (s_kept8 (((nw 25) - ((16 * (nw 24)) / (nw 22))) - (4 * (v - (nw 21))))))))]) (ci := 8) (q0 := 0) X Y (c_of8 l D cyC cyI mM mN mR mA mP mT mD ch le sp (upd (upd (upd nw 20 ((nw 20) + v)) 21 v) 25 (s_kept8 (((nw 25) - ((16 * (nw 24)) / (nw 22))) - (4 * (v - (nw 21)))))) 1 4 (nw 24) (bOf (i := 24) (by decide) ((upd_ne (by decide)).trans ((upd_ne (by decide)).trans ((upd_ne (by decide)).trans rfl)))) (bInD (by decide))) gX8_goes_X8_of rfl ⟨rfl, rfl⟩ hd_X8_of ⟨(Nat.le_of_ble_eq_true rfl), (Nat.le_of_ble_eq_true rfl)⟩ rfl rfl rfl [0, 1] rfl rfl rfl rfl hl.1 (Nat.le_of_ble_eq_true rfl) ⟨Nat.zero_le _, Nat.zero_le _⟩ dX8_goes_72 (fun H locs Y => ?_)
  refine lv_aload_n hx hb dX8_goes_75 rfl (lv_at hl 1 rfl) ?_
  refine lv_iload_n hx hb dX8_goes_76 rfl (lv_at hl 2 rfl) ?_
  refine lv_iconst (v := 5) hx hb dX8_goes_77 (by decide) ?_
  refine bVI0 (As := [.int 1, .int 5]) (rest := [.int (nw 24), .int 4, .int 1, .ref mM]) (wc := [(mM, .inr (8, [.ref mN, .ref mR, .ref mA, .ref mP, .int ch, .ref mT, .int le, .int sp, .ref mD])), (mN, .inl (cyI, 515, .inl (upd (upd (upd nw 20 ((nw 20) + v)) 21 v) 25 (s_kept8 (((nw 25) - ((16 * (nw 24)) / (nw 22))) - (4 * (v - (nw 21))))))))]) (ci := 8) (q0 := 0) X Y (c_of8 l D cyC cyI mM mN mR mA mP mT mD ch le sp (upd (upd (upd nw 20 ((nw 20) + v)) 21 v) 25 (s_kept8 (((nw 25) - ((16 * (nw 24)) / (nw 22))) - (4 * (v - (nw 21)))))) 1 5 (s_kept8 (((nw 25) - ((16 * (nw 24)) / (nw 22))) - (4 * (v - (nw 21))))) (bOf (i := 25) (by decide) upd_eq) (bInD (by decide))) gX8_goes_X8_of rfl ⟨rfl, rfl⟩ hd_X8_of ⟨(Nat.le_of_ble_eq_true rfl), (Nat.le_of_ble_eq_true rfl)⟩ rfl rfl rfl [0, 1] rfl rfl rfl rfl hl.1 (Nat.le_of_ble_eq_true rfl) ⟨Nat.zero_le _, Nat.zero_le _⟩ dX8_goes_78 (fun H locs Y => ?_)
  refine bAdd (v := (nw 24) + (s_kept8 (((nw 25) - ((16 * (nw 24)) / (nw 22))) - (4 * (v - (nw 21)))))) X dX8_goes_81 rfl ?_
  refine bSI (As := [.int ((nw 24) + (s_kept8 (((nw 25) - ((16 * (nw 24)) / (nw 22))) - (4 * (v - (nw 21))))))]) (rest := [.int 4, .int 1, .ref mM]) X Y (c_kept8 l D cyC cyI ((nw 24) + (s_kept8 (((nw 25) - ((16 * (nw 24)) / (nw 22))) - (4 * (v - (nw 21)))))) (s_kept8 ((nw 24) + (s_kept8 (((nw 25) - ((16 * (nw 24)) / (nw 22))) - (4 * (v - (nw 21))))))) rfl) gX8_goes_X8_kept rfl ⟨rfl, rfl⟩ hd_X8_kept.2 ⟨(Nat.le_of_ble_eq_true rfl), (Nat.le_of_ble_eq_true rfl)⟩ rfl rfl hl.1 (Nat.le_of_ble_eq_true rfl) ⟨Nat.zero_le _, Nat.zero_le _⟩ dX8_goes_82 (fun H locs Y => ?_)
  refine bVV (As := [.int 1, .int 4, .int (s_kept8 ((nw 24) + (s_kept8 (((nw 25) - ((16 * (nw 24)) / (nw 22))) - (4 * (v - (nw 21)))))))]) (rest := []) (wc := [(mM, .inr (8, [.ref mN, .ref mR, .ref mA, .ref mP, .int ch, .ref mT, .int le, .int sp, .ref mD])), (mN, .inl (cyI, 515, .inl (upd (upd (upd nw 20 ((nw 20) + v)) 21 v) 25 (s_kept8 (((nw 25) - ((16 * (nw 24)) / (nw 22))) - (4 * (v - (nw 21))))))))]) (w1 := [(mM, .inr (8, [.ref mN, .ref mR, .ref mA, .ref mP, .int ch, .ref mT, .int le, .int sp, .ref mD])), (mN, .inl (cyI, 515, .inl (upd (upd (upd (upd nw 20 ((nw 20) + v)) 21 v) 25 (s_kept8 (((nw 25) - ((16 * (nw 24)) / (nw 22))) - (4 * (v - (nw 21)))))) 24 (s_kept8 ((nw 24) + (s_kept8 (((nw 25) - ((16 * (nw 24)) / (nw 22))) - (4 * (v - (nw 21))))))))))]) (ws' := [(mM, .inr (8, [.ref mN, .ref mR, .ref mA, .ref mP, .int ch, .ref mT, .int le, .int sp, .ref mD])), (mN, .inl (cyI, 515, .inl (upd (upd (upd (upd nw 20 ((nw 20) + v)) 21 v) 25 (s_kept8 (((nw 25) - ((16 * (nw 24)) / (nw 22))) - (4 * (v - (nw 21)))))) 24 (s_kept8 ((nw 24) + (s_kept8 (((nw 25) - ((16 * (nw 24)) / (nw 22))) - (4 * (v - (nw 21))))))))))]) (ad := [mM, mN]) (wr := []) (nn := 2) (ci := 8) (q0 := 0) X Y (c_tells8 l D cyC cyI mM mN mR mA mP mT mD ch le sp (upd (upd (upd nw 20 ((nw 20) + v)) 21 v) 25 (s_kept8 (((nw 25) - ((16 * (nw 24)) / (nw 22))) - (4 * (v - (nw 21)))))) 1 4 (s_kept8 ((nw 24) + (s_kept8 (((nw 25) - ((16 * (nw 24)) / (nw 22))) - (4 * (v - (nw 21))))))) (upd (upd (upd (upd nw 20 ((nw 20) + v)) 21 v) 25 (s_kept8 (((nw 25) - ((16 * (nw 24)) / (nw 22))) - (4 * (v - (nw 21)))))) 24 (s_kept8 ((nw 24) + (s_kept8 (((nw 25) - ((16 * (nw 24)) / (nw 22))) - (4 * (v - (nw 21)))))))) (bTells (i := 24) (by decide) rfl) (bInD (by decide))) gX8_goes_X8_tells rfl ⟨rfl, rfl⟩ hd_X8_tells ⟨(Nat.le_of_ble_eq_true rfl), (Nat.le_of_ble_eq_true rfl)⟩ rfl rfl rfl [0, 1] [] rfl rfl rfl rfl rfl rfl rfl rfl (by decide) rfl rfl hl.1 (Nat.le_of_ble_eq_true rfl) ⟨Nat.zero_le _, Nat.zero_le _⟩ dX8_goes_85 (fun H locs Y => ?_)
  have h9 := (Prod.mk.inj hu).1
  subst h9
  exact bEndV X Y hr hlk dX8_goes_88 rfl
theorem i_X8_hoists_X8 : ∀ w ∈ wsX80, w ∈ wsX8_hoists := by decide +kernel
theorem f_X8_hoists_7 : Cond.fieldLink RX8 7 "SwingCranesModel" "now" "[I" ∈ wsX8_hoists := by decide +kernel
def s_hoists8_0 (nw : Nat → Int32) : (Nat → Int32) × Unit :=
  if (nw 14) = (nw 9) then
    (nw, ())
  else
    if (s_size8 (nw 8)) ≤ (nw 4) then
      if (nw 14) ≤ (nw 9) then
        if nw 5 = (-4) then
          (upd nw 9 ((nw 9) - 1), ())
        else
          if (s_size8 (((nw 9) - 1) - (nw 22))) ≤ (nw 5) then
            (upd nw 9 ((nw 9) - 1), ())
          else
            if (s_size8 (((nw 9) - 1) - (nw 22))) ≤ (s_size8 ((nw 9) - (nw 22))) then
              (upd nw 9 ((nw 9) - 1), ())
            else
              (nw, ())
      else
        if nw 5 = (-4) then
          (upd nw 9 ((nw 9) + 1), ())
        else
          if (s_size8 (((nw 9) + 1) - (nw 22))) ≤ (nw 5) then
            (upd nw 9 ((nw 9) + 1), ())
          else
            if (s_size8 (((nw 9) + 1) - (nw 22))) ≤ (s_size8 ((nw 9) - (nw 22))) then
              (upd nw 9 ((nw 9) + 1), ())
            else
              (nw, ())
    else
      (nw, ())
set_option maxHeartbeats 4000000 in
set_option maxRecDepth 100000 in
theorem c_hoists8_0 (l : Launch) (D : va_G) (cyC cyI : ClassId) (mM : Nat) (mN : Nat) (mR : Nat) (mA : Nat) (mP : Nat) (mT : Nat) (mD : Nat) (ch : Int32) (le : Int32) (sp : Int32) (nw : Nat → Int32) (o0 : Nat → Int32) (hu : s_hoists8_0 nw = (o0, ())) : CV l yX8_hoists wsX8_hoists { frames := 1, cells := 0, slots := 0, locals := 23 } D cyC cyI [.ref mM, .int 0] [(mM, .inr (8, [.ref mN, .ref mR, .ref mA, .ref mP, .int ch, .ref mT, .int le, .int sp, .ref mD])), (mN, .inl (cyI, 515, .inl nw))] [(mM, .inr (8, [.ref mN, .ref mR, .ref mA, .ref mP, .int ch, .ref mT, .int le, .int sp, .ref mD])), (mN, .inl (cyI, 515, .inl o0))] := by
  refine CV.of (cc := cX8_hoists) (n := 7) (ret := none) (by decide +kernel) rfl (Nat.le_of_ble_eq_true rfl) ?_
  intro p_ e_ s_ m_ bl_ me_ cd_ A_ ls X Y hr hlk hl
  have hx := X.1.1
  have hb := X.1.2.1
  have hl : lv_has ls 7 [(0, .ref mM), (1, .int 0)] := hl
  unfold s_hoists8_0 at hu
  refine lv_aload_n hx hb dX8_hoists_0 rfl (lv_at hl 0 rfl) ?_
  refine lv_iload_n hx hb dX8_hoists_1 rfl (lv_at hl 1 rfl) ?_
  refine lv_iconst (v := 2) hx hb dX8_hoists_2 (by decide) ?_
  refine bVI0 (As := [.int 0, .int 2]) (rest := []) (wc := [(mM, .inr (8, [.ref mN, .ref mR, .ref mA, .ref mP, .int ch, .ref mT, .int le, .int sp, .ref mD])), (mN, .inl (cyI, 515, .inl nw))]) (ci := 8) (q0 := 0) X Y (c_of8 l D cyC cyI mM mN mR mA mP mT mD ch le sp nw 0 2 (nw 9) (bOf (i := 9) (by decide) rfl) (bInD (by decide))) gX8_hoists_X8_of rfl ⟨rfl, rfl⟩ hd_X8_of ⟨(Nat.le_of_ble_eq_true rfl), (Nat.le_of_ble_eq_true rfl)⟩ rfl rfl rfl [0, 1] rfl rfl rfl rfl hl.1 (Nat.le_of_ble_eq_true rfl) ⟨Nat.zero_le _, Nat.zero_le _⟩ dX8_hoists_3 (fun H locs Y => ?_)
  refine lv_istore_n (lv' := [(2, .int (nw 9)), (0, .ref mM), (1, .int 0)]) hx hb dX8_hoists_6 rfl hl (by decide) rfl (fun ls hl => ?_)
  refine lv_aload_n hx hb dX8_hoists_7 rfl (lv_at hl 1 rfl) ?_
  refine lv_iload_n hx hb dX8_hoists_8 rfl (lv_at hl 2 rfl) ?_
  refine lv_bipush (v := 7) hx hb dX8_hoists_9 (by decide) ?_
  refine bVI0 (As := [.int 0, .int 7]) (rest := []) (wc := [(mM, .inr (8, [.ref mN, .ref mR, .ref mA, .ref mP, .int ch, .ref mT, .int le, .int sp, .ref mD])), (mN, .inl (cyI, 515, .inl nw))]) (ci := 8) (q0 := 0) X Y (c_of8 l D cyC cyI mM mN mR mA mP mT mD ch le sp nw 0 7 (nw 14) (bOf (i := 14) (by decide) rfl) (bInD (by decide))) gX8_hoists_X8_of rfl ⟨rfl, rfl⟩ hd_X8_of ⟨(Nat.le_of_ble_eq_true rfl), (Nat.le_of_ble_eq_true rfl)⟩ rfl rfl rfl [0, 1] rfl rfl rfl rfl hl.1 (Nat.le_of_ble_eq_true rfl) ⟨Nat.zero_le _, Nat.zero_le _⟩ dX8_hoists_11 (fun H locs Y => ?_)
  refine lv_istore_n (lv' := [(3, .int (nw 14)), (2, .int (nw 9)), (0, .ref mM), (1, .int 0)]) hx hb dX8_hoists_14 rfl hl (by decide) rfl (fun ls hl => ?_)
  refine lv_iload_n hx hb dX8_hoists_15 rfl (lv_at hl 0 rfl) ?_
  refine lv_iload_n hx hb dX8_hoists_16 rfl (lv_at hl 1 rfl) ?_
  refine lv_icmp_eq (tgt := 38) hx hb dX8_hoists_17 (by decide) (fun c_1 => ?_) (fun c_1 => ?_)
  · have c_1 : (nw 14) = (nw 9) := c_1
    rw [if_pos c_1] at hu
    have h9 := (Prod.mk.inj hu).1
    subst h9
    exact bEndV X Y hr hlk dX8_hoists_38 rfl
  · have c_1 : ¬ ((nw 14) = (nw 9)) := c_1
    rw [if_neg c_1] at hu
    refine lv_aload_n hx hb dX8_hoists_20 rfl (lv_at hl 2 rfl) ?_
    refine lv_iload_n hx hb dX8_hoists_21 rfl (lv_at hl 3 rfl) ?_
    refine lv_iconst (v := 1) hx hb dX8_hoists_22 (by decide) ?_
    refine bVI0 (As := [.int 0, .int 1]) (rest := []) (wc := [(mM, .inr (8, [.ref mN, .ref mR, .ref mA, .ref mP, .int ch, .ref mT, .int le, .int sp, .ref mD])), (mN, .inl (cyI, 515, .inl nw))]) (ci := 8) (q0 := 0) X Y (c_of8 l D cyC cyI mM mN mR mA mP mT mD ch le sp nw 0 1 (nw 8) (bOf (i := 8) (by decide) rfl) (bInD (by decide))) gX8_hoists_X8_of rfl ⟨rfl, rfl⟩ hd_X8_of ⟨(Nat.le_of_ble_eq_true rfl), (Nat.le_of_ble_eq_true rfl)⟩ rfl rfl rfl [0, 1] rfl rfl rfl rfl hl.1 (Nat.le_of_ble_eq_true rfl) ⟨Nat.zero_le _, Nat.zero_le _⟩ dX8_hoists_23 (fun H locs Y => ?_)
    refine bSI (As := [.int (nw 8)]) (rest := []) X Y (c_size8 l D cyC cyI (nw 8) (s_size8 (nw 8)) rfl) gX8_hoists_X8_size rfl ⟨rfl, rfl⟩ hd_X8_size.2 ⟨(Nat.le_of_ble_eq_true rfl), (Nat.le_of_ble_eq_true rfl)⟩ rfl rfl hl.1 (Nat.le_of_ble_eq_true rfl) ⟨Nat.zero_le _, Nat.zero_le _⟩ dX8_hoists_26 (fun H locs Y => ?_)
    refine lv_aload_n hx hb dX8_hoists_29 rfl (lv_at hl 2 rfl) ?_
    refine bGet (v := .ref mN) (T := TX8) (N := 9) (ci := 8) X Y i_X8_hoists_X8 0 rfl rfl 0 (Nat.le_of_ble_eq_true rfl) f_X8_hoists_7 rfl rfl dX8_hoists_30 ?_
    refine lv_iconst (v := 4) hx hb dX8_hoists_33 (by decide) ?_
    refine bIald (v := nw 4) X Y 1 rfl (bInD (by decide)) dX8_hoists_34 rfl ?_
    refine lv_icmp_le (tgt := 39) hx hb dX8_hoists_35 (by decide) (fun c_2 => ?_) (fun c_2 => ?_)
    · have c_2 : (s_size8 (nw 8)) ≤ (nw 4) := c_2
      rw [if_pos c_2] at hu
      refine lv_iload_n hx hb dX8_hoists_39 rfl (lv_at hl 0 rfl) ?_
      refine lv_iload_n hx hb dX8_hoists_40 rfl (lv_at hl 1 rfl) ?_
      refine lv_icmp_le (tgt := 50) hx hb dX8_hoists_41 (by decide) (fun c_3 => ?_) (fun c_3 => ?_)
      · have c_3 : (nw 14) ≤ (nw 9) := c_3
        rw [if_pos c_3] at hu
        refine lv_iload_n hx hb dX8_hoists_50 rfl (lv_at hl 1 rfl) ?_
        refine lv_iconst (v := 1) hx hb dX8_hoists_51 (by decide) ?_
        refine bSub (v := (nw 9) - 1) X dX8_hoists_52 rfl ?_
        refine lv_istore (lv' := [(4, .int ((nw 9) - 1)), (3, .int (nw 14)), (2, .int (nw 9)), (0, .ref mM), (1, .int 0)]) hx hb dX8_hoists_53 hl (by decide) rfl (fun ls hl => ?_)
        refine lv_aload_n hx hb dX8_hoists_55 rfl (lv_at hl 3 rfl) ?_
        refine lv_iconst (v := 1) hx hb dX8_hoists_56 (by decide) ?_
        refine lv_iload_n hx hb dX8_hoists_57 rfl (lv_at hl 4 rfl) ?_
        refine bSub (v := 1) X dX8_hoists_58 (by decide) ?_
        refine lv_iconst (v := 2) hx hb dX8_hoists_59 (by decide) ?_
        refine bVI0 (As := [.int 1, .int 2]) (rest := []) (wc := [(mM, .inr (8, [.ref mN, .ref mR, .ref mA, .ref mP, .int ch, .ref mT, .int le, .int sp, .ref mD])), (mN, .inl (cyI, 515, .inl nw))]) (ci := 8) (q0 := 0) X Y (c_of8 l D cyC cyI mM mN mR mA mP mT mD ch le sp nw 1 2 (nw 22) (bOf (i := 22) (by decide) rfl) (bInD (by decide))) gX8_hoists_X8_of rfl ⟨rfl, rfl⟩ hd_X8_of ⟨(Nat.le_of_ble_eq_true rfl), (Nat.le_of_ble_eq_true rfl)⟩ rfl rfl rfl [0, 1] rfl rfl rfl rfl hl.1 (Nat.le_of_ble_eq_true rfl) ⟨Nat.zero_le _, Nat.zero_le _⟩ dX8_hoists_60 (fun H locs Y => ?_)
        refine lv_istore (lv' := [(5, .int (nw 22)), (4, .int ((nw 9) - 1)), (3, .int (nw 14)), (2, .int (nw 9)), (0, .ref mM), (1, .int 0)]) hx hb dX8_hoists_63 hl (by decide) rfl (fun ls hl => ?_)
        refine lv_aload_n hx hb dX8_hoists_65 rfl (lv_at hl 4 rfl) ?_
        refine bGet (v := .ref mN) (T := TX8) (N := 9) (ci := 8) X Y i_X8_hoists_X8 0 rfl rfl 0 (Nat.le_of_ble_eq_true rfl) f_X8_hoists_7 rfl rfl dX8_hoists_66 ?_
        refine lv_iconst (v := 5) hx hb dX8_hoists_69 (by decide) ?_
        refine bIald (v := nw 5) X Y 1 rfl (bInD (by decide)) dX8_hoists_70 rfl ?_
        refine lv_bipush (v := (-4)) hx hb dX8_hoists_71 (by decide) ?_
        refine lv_icmp_eq (tgt := 115) hx hb dX8_hoists_73 (by decide) (fun c_4 => ?_) (fun c_4 => ?_)
        · have c_4 : nw 5 = (-4) := c_4
          rw [if_pos c_4] at hu
          refine lv_iconst (v := 0) hx hb dX8_hoists_115 (by decide) ?_
          refine lv_istore (lv' := [(6, .int 0), (5, .int (nw 22)), (4, .int ((nw 9) - 1)), (3, .int (nw 14)), (2, .int (nw 9)), (0, .ref mM), (1, .int 0)]) hx hb dX8_hoists_116 hl (by decide) rfl (fun ls hl => ?_)
          refine lv_iload hx hb dX8_hoists_118 (lv_at hl 0 rfl) ?_
          refine lv_if_ne (tgt := 131) hx hb dX8_hoists_120 (by decide) (fun c_ => absurd (by decide) c_) (fun _ => ?_)
          refine lv_aload_n hx hb dX8_hoists_123 rfl (lv_at hl 5 rfl) ?_
          refine lv_iload_n hx hb dX8_hoists_124 rfl (lv_at hl 6 rfl) ?_
          refine lv_iconst (v := 2) hx hb dX8_hoists_125 (by decide) ?_
          refine lv_iload hx hb dX8_hoists_126 (lv_at hl 2 rfl) ?_
          refine bVV (As := [.int 0, .int 2, .int ((nw 9) - 1)]) (rest := []) (wc := [(mM, .inr (8, [.ref mN, .ref mR, .ref mA, .ref mP, .int ch, .ref mT, .int le, .int sp, .ref mD])), (mN, .inl (cyI, 515, .inl nw))]) (w1 := [(mM, .inr (8, [.ref mN, .ref mR, .ref mA, .ref mP, .int ch, .ref mT, .int le, .int sp, .ref mD])), (mN, .inl (cyI, 515, .inl (upd nw 9 ((nw 9) - 1))))]) (ws' := [(mM, .inr (8, [.ref mN, .ref mR, .ref mA, .ref mP, .int ch, .ref mT, .int le, .int sp, .ref mD])), (mN, .inl (cyI, 515, .inl (upd nw 9 ((nw 9) - 1))))]) (ad := [mM, mN]) (wr := []) (nn := 2) (ci := 8) (q0 := 0) X Y (c_tells8 l D cyC cyI mM mN mR mA mP mT mD ch le sp nw 0 2 ((nw 9) - 1) (upd nw 9 ((nw 9) - 1)) (bTells (i := 9) (by decide) rfl) (bInD (by decide))) gX8_hoists_X8_tells rfl ⟨rfl, rfl⟩ hd_X8_tells ⟨(Nat.le_of_ble_eq_true rfl), (Nat.le_of_ble_eq_true rfl)⟩ rfl rfl rfl [0, 1] [] rfl rfl rfl rfl rfl rfl rfl rfl (by decide) rfl rfl hl.1 (Nat.le_of_ble_eq_true rfl) ⟨Nat.zero_le _, Nat.zero_le _⟩ dX8_hoists_128 (fun H locs Y => ?_)
          have h9 := (Prod.mk.inj hu).1
          subst h9
          exact bEndV X Y hr hlk dX8_hoists_131 rfl
        · have c_4 : ¬ (nw 5 = (-4)) := c_4
          rw [if_neg c_4] at hu
          refine lv_iload hx hb dX8_hoists_76 (lv_at hl 1 rfl) ?_
          refine lv_iload hx hb dX8_hoists_78 (lv_at hl 0 rfl) ?_
          refine bSub (v := ((nw 9) - 1) - (nw 22)) X dX8_hoists_80 rfl ?_
          refine bSI (As := [.int (((nw 9) - 1) - (nw 22))]) (rest := []) X Y (c_size8 l D cyC cyI (((nw 9) - 1) - (nw 22)) (s_size8 (((nw 9) - 1) - (nw 22))) rfl) gX8_hoists_X8_size rfl ⟨rfl, rfl⟩ hd_X8_size.2 ⟨(Nat.le_of_ble_eq_true rfl), (Nat.le_of_ble_eq_true rfl)⟩ rfl rfl hl.1 (Nat.le_of_ble_eq_true rfl) ⟨Nat.zero_le _, Nat.zero_le _⟩ dX8_hoists_81 (fun H locs Y => ?_)
          refine lv_aload_n hx hb dX8_hoists_84 rfl (lv_at hl 4 rfl) ?_
          refine bGet (v := .ref mN) (T := TX8) (N := 9) (ci := 8) X Y i_X8_hoists_X8 0 rfl rfl 0 (Nat.le_of_ble_eq_true rfl) f_X8_hoists_7 rfl rfl dX8_hoists_85 ?_
          refine lv_iconst (v := 5) hx hb dX8_hoists_88 (by decide) ?_
          refine bIald (v := nw 5) X Y 1 rfl (bInD (by decide)) dX8_hoists_89 rfl ?_
          refine lv_icmp_le (tgt := 115) hx hb dX8_hoists_90 (by decide) (fun c_5 => ?_) (fun c_5 => ?_)
          · have c_5 : (s_size8 (((nw 9) - 1) - (nw 22))) ≤ (nw 5) := c_5
            rw [if_pos c_5] at hu
            refine lv_iconst (v := 0) hx hb dX8_hoists_115 (by decide) ?_
            refine lv_istore (lv' := [(6, .int 0), (5, .int (nw 22)), (4, .int ((nw 9) - 1)), (3, .int (nw 14)), (2, .int (nw 9)), (0, .ref mM), (1, .int 0)]) hx hb dX8_hoists_116 hl (by decide) rfl (fun ls hl => ?_)
            refine lv_iload hx hb dX8_hoists_118 (lv_at hl 0 rfl) ?_
            refine lv_if_ne (tgt := 131) hx hb dX8_hoists_120 (by decide) (fun c_ => absurd (by decide) c_) (fun _ => ?_)
            refine lv_aload_n hx hb dX8_hoists_123 rfl (lv_at hl 5 rfl) ?_
            refine lv_iload_n hx hb dX8_hoists_124 rfl (lv_at hl 6 rfl) ?_
            refine lv_iconst (v := 2) hx hb dX8_hoists_125 (by decide) ?_
            refine lv_iload hx hb dX8_hoists_126 (lv_at hl 2 rfl) ?_
            refine bVV (As := [.int 0, .int 2, .int ((nw 9) - 1)]) (rest := []) (wc := [(mM, .inr (8, [.ref mN, .ref mR, .ref mA, .ref mP, .int ch, .ref mT, .int le, .int sp, .ref mD])), (mN, .inl (cyI, 515, .inl nw))]) (w1 := [(mM, .inr (8, [.ref mN, .ref mR, .ref mA, .ref mP, .int ch, .ref mT, .int le, .int sp, .ref mD])), (mN, .inl (cyI, 515, .inl (upd nw 9 ((nw 9) - 1))))]) (ws' := [(mM, .inr (8, [.ref mN, .ref mR, .ref mA, .ref mP, .int ch, .ref mT, .int le, .int sp, .ref mD])), (mN, .inl (cyI, 515, .inl (upd nw 9 ((nw 9) - 1))))]) (ad := [mM, mN]) (wr := []) (nn := 2) (ci := 8) (q0 := 0) X Y (c_tells8 l D cyC cyI mM mN mR mA mP mT mD ch le sp nw 0 2 ((nw 9) - 1) (upd nw 9 ((nw 9) - 1)) (bTells (i := 9) (by decide) rfl) (bInD (by decide))) gX8_hoists_X8_tells rfl ⟨rfl, rfl⟩ hd_X8_tells ⟨(Nat.le_of_ble_eq_true rfl), (Nat.le_of_ble_eq_true rfl)⟩ rfl rfl rfl [0, 1] [] rfl rfl rfl rfl rfl rfl rfl rfl (by decide) rfl rfl hl.1 (Nat.le_of_ble_eq_true rfl) ⟨Nat.zero_le _, Nat.zero_le _⟩ dX8_hoists_128 (fun H locs Y => ?_)
            have h9 := (Prod.mk.inj hu).1
            subst h9
            exact bEndV X Y hr hlk dX8_hoists_131 rfl
          · have c_5 : ¬ ((s_size8 (((nw 9) - 1) - (nw 22))) ≤ (nw 5)) := c_5
            rw [if_neg c_5] at hu
            refine lv_iload hx hb dX8_hoists_93 (lv_at hl 1 rfl) ?_
            refine lv_iload hx hb dX8_hoists_95 (lv_at hl 0 rfl) ?_
            refine bSub (v := ((nw 9) - 1) - (nw 22)) X dX8_hoists_97 rfl ?_
            refine bSI (As := [.int (((nw 9) - 1) - (nw 22))]) (rest := []) X Y (c_size8 l D cyC cyI (((nw 9) - 1) - (nw 22)) (s_size8 (((nw 9) - 1) - (nw 22))) rfl) gX8_hoists_X8_size rfl ⟨rfl, rfl⟩ hd_X8_size.2 ⟨(Nat.le_of_ble_eq_true rfl), (Nat.le_of_ble_eq_true rfl)⟩ rfl rfl hl.1 (Nat.le_of_ble_eq_true rfl) ⟨Nat.zero_le _, Nat.zero_le _⟩ dX8_hoists_98 (fun H locs Y => ?_)
            refine lv_iload_n hx hb dX8_hoists_101 rfl (lv_at hl 3 rfl) ?_
            refine lv_iload hx hb dX8_hoists_102 (lv_at hl 0 rfl) ?_
            refine bSub (v := (nw 9) - (nw 22)) X dX8_hoists_104 rfl ?_
            refine bSI (As := [.int ((nw 9) - (nw 22))]) (rest := [.int (s_size8 (((nw 9) - 1) - (nw 22)))]) X Y (c_size8 l D cyC cyI ((nw 9) - (nw 22)) (s_size8 ((nw 9) - (nw 22))) rfl) gX8_hoists_X8_size rfl ⟨rfl, rfl⟩ hd_X8_size.2 ⟨(Nat.le_of_ble_eq_true rfl), (Nat.le_of_ble_eq_true rfl)⟩ rfl rfl hl.1 (Nat.le_of_ble_eq_true rfl) ⟨Nat.zero_le _, Nat.zero_le _⟩ dX8_hoists_105 (fun H locs Y => ?_)
            refine lv_icmp_le (tgt := 115) hx hb dX8_hoists_108 (by decide) (fun c_6 => ?_) (fun c_6 => ?_)
            · have c_6 : (s_size8 (((nw 9) - 1) - (nw 22))) ≤ (s_size8 ((nw 9) - (nw 22))) := c_6
              rw [if_pos c_6] at hu
              refine lv_iconst (v := 0) hx hb dX8_hoists_115 (by decide) ?_
              refine lv_istore (lv' := [(6, .int 0), (5, .int (nw 22)), (4, .int ((nw 9) - 1)), (3, .int (nw 14)), (2, .int (nw 9)), (0, .ref mM), (1, .int 0)]) hx hb dX8_hoists_116 hl (by decide) rfl (fun ls hl => ?_)
              refine lv_iload hx hb dX8_hoists_118 (lv_at hl 0 rfl) ?_
              refine lv_if_ne (tgt := 131) hx hb dX8_hoists_120 (by decide) (fun c_ => absurd (by decide) c_) (fun _ => ?_)
              refine lv_aload_n hx hb dX8_hoists_123 rfl (lv_at hl 5 rfl) ?_
              refine lv_iload_n hx hb dX8_hoists_124 rfl (lv_at hl 6 rfl) ?_
              refine lv_iconst (v := 2) hx hb dX8_hoists_125 (by decide) ?_
              refine lv_iload hx hb dX8_hoists_126 (lv_at hl 2 rfl) ?_
              refine bVV (As := [.int 0, .int 2, .int ((nw 9) - 1)]) (rest := []) (wc := [(mM, .inr (8, [.ref mN, .ref mR, .ref mA, .ref mP, .int ch, .ref mT, .int le, .int sp, .ref mD])), (mN, .inl (cyI, 515, .inl nw))]) (w1 := [(mM, .inr (8, [.ref mN, .ref mR, .ref mA, .ref mP, .int ch, .ref mT, .int le, .int sp, .ref mD])), (mN, .inl (cyI, 515, .inl (upd nw 9 ((nw 9) - 1))))]) (ws' := [(mM, .inr (8, [.ref mN, .ref mR, .ref mA, .ref mP, .int ch, .ref mT, .int le, .int sp, .ref mD])), (mN, .inl (cyI, 515, .inl (upd nw 9 ((nw 9) - 1))))]) (ad := [mM, mN]) (wr := []) (nn := 2) (ci := 8) (q0 := 0) X Y (c_tells8 l D cyC cyI mM mN mR mA mP mT mD ch le sp nw 0 2 ((nw 9) - 1) (upd nw 9 ((nw 9) - 1)) (bTells (i := 9) (by decide) rfl) (bInD (by decide))) gX8_hoists_X8_tells rfl ⟨rfl, rfl⟩ hd_X8_tells ⟨(Nat.le_of_ble_eq_true rfl), (Nat.le_of_ble_eq_true rfl)⟩ rfl rfl rfl [0, 1] [] rfl rfl rfl rfl rfl rfl rfl rfl (by decide) rfl rfl hl.1 (Nat.le_of_ble_eq_true rfl) ⟨Nat.zero_le _, Nat.zero_le _⟩ dX8_hoists_128 (fun H locs Y => ?_)
              have h9 := (Prod.mk.inj hu).1
              subst h9
              exact bEndV X Y hr hlk dX8_hoists_131 rfl
            · have c_6 : ¬ ((s_size8 (((nw 9) - 1) - (nw 22))) ≤ (s_size8 ((nw 9) - (nw 22)))) := c_6
              rw [if_neg c_6] at hu
              refine lv_iconst (v := 1) hx hb dX8_hoists_111 (by decide) ?_
              refine lv_goto (tgt := 116) hx hb dX8_hoists_112 (by decide) ?_
              refine lv_istore (lv' := [(6, .int 1), (5, .int (nw 22)), (4, .int ((nw 9) - 1)), (3, .int (nw 14)), (2, .int (nw 9)), (0, .ref mM), (1, .int 0)]) hx hb dX8_hoists_116 hl (by decide) rfl (fun ls hl => ?_)
              refine lv_iload hx hb dX8_hoists_118 (lv_at hl 0 rfl) ?_
              refine lv_if_ne (tgt := 131) hx hb dX8_hoists_120 (by decide) (fun _ => ?_) (fun c_ => absurd c_ (by decide))
              have h9 := (Prod.mk.inj hu).1
              subst h9
              exact bEndV X Y hr hlk dX8_hoists_131 rfl
      · have c_3 : ¬ ((nw 14) ≤ (nw 9)) := c_3
        rw [if_neg c_3] at hu
        refine lv_iload_n hx hb dX8_hoists_44 rfl (lv_at hl 1 rfl) ?_
        refine lv_iconst (v := 1) hx hb dX8_hoists_45 (by decide) ?_
        refine bAdd (v := (nw 9) + 1) X dX8_hoists_46 rfl ?_
        refine lv_goto (tgt := 53) hx hb dX8_hoists_47 (by decide) ?_
        refine lv_istore (lv' := [(4, .int ((nw 9) + 1)), (3, .int (nw 14)), (2, .int (nw 9)), (0, .ref mM), (1, .int 0)]) hx hb dX8_hoists_53 hl (by decide) rfl (fun ls hl => ?_)
        refine lv_aload_n hx hb dX8_hoists_55 rfl (lv_at hl 3 rfl) ?_
        refine lv_iconst (v := 1) hx hb dX8_hoists_56 (by decide) ?_
        refine lv_iload_n hx hb dX8_hoists_57 rfl (lv_at hl 4 rfl) ?_
        refine bSub (v := 1) X dX8_hoists_58 (by decide) ?_
        refine lv_iconst (v := 2) hx hb dX8_hoists_59 (by decide) ?_
        refine bVI0 (As := [.int 1, .int 2]) (rest := []) (wc := [(mM, .inr (8, [.ref mN, .ref mR, .ref mA, .ref mP, .int ch, .ref mT, .int le, .int sp, .ref mD])), (mN, .inl (cyI, 515, .inl nw))]) (ci := 8) (q0 := 0) X Y (c_of8 l D cyC cyI mM mN mR mA mP mT mD ch le sp nw 1 2 (nw 22) (bOf (i := 22) (by decide) rfl) (bInD (by decide))) gX8_hoists_X8_of rfl ⟨rfl, rfl⟩ hd_X8_of ⟨(Nat.le_of_ble_eq_true rfl), (Nat.le_of_ble_eq_true rfl)⟩ rfl rfl rfl [0, 1] rfl rfl rfl rfl hl.1 (Nat.le_of_ble_eq_true rfl) ⟨Nat.zero_le _, Nat.zero_le _⟩ dX8_hoists_60 (fun H locs Y => ?_)
        refine lv_istore (lv' := [(5, .int (nw 22)), (4, .int ((nw 9) + 1)), (3, .int (nw 14)), (2, .int (nw 9)), (0, .ref mM), (1, .int 0)]) hx hb dX8_hoists_63 hl (by decide) rfl (fun ls hl => ?_)
        refine lv_aload_n hx hb dX8_hoists_65 rfl (lv_at hl 4 rfl) ?_
        refine bGet (v := .ref mN) (T := TX8) (N := 9) (ci := 8) X Y i_X8_hoists_X8 0 rfl rfl 0 (Nat.le_of_ble_eq_true rfl) f_X8_hoists_7 rfl rfl dX8_hoists_66 ?_
        refine lv_iconst (v := 5) hx hb dX8_hoists_69 (by decide) ?_
        refine bIald (v := nw 5) X Y 1 rfl (bInD (by decide)) dX8_hoists_70 rfl ?_
        refine lv_bipush (v := (-4)) hx hb dX8_hoists_71 (by decide) ?_
        refine lv_icmp_eq (tgt := 115) hx hb dX8_hoists_73 (by decide) (fun c_7 => ?_) (fun c_7 => ?_)
        · have c_7 : nw 5 = (-4) := c_7
          rw [if_pos c_7] at hu
          refine lv_iconst (v := 0) hx hb dX8_hoists_115 (by decide) ?_
          refine lv_istore (lv' := [(6, .int 0), (5, .int (nw 22)), (4, .int ((nw 9) + 1)), (3, .int (nw 14)), (2, .int (nw 9)), (0, .ref mM), (1, .int 0)]) hx hb dX8_hoists_116 hl (by decide) rfl (fun ls hl => ?_)
          refine lv_iload hx hb dX8_hoists_118 (lv_at hl 0 rfl) ?_
          refine lv_if_ne (tgt := 131) hx hb dX8_hoists_120 (by decide) (fun c_ => absurd (by decide) c_) (fun _ => ?_)
          refine lv_aload_n hx hb dX8_hoists_123 rfl (lv_at hl 5 rfl) ?_
          refine lv_iload_n hx hb dX8_hoists_124 rfl (lv_at hl 6 rfl) ?_
          refine lv_iconst (v := 2) hx hb dX8_hoists_125 (by decide) ?_
          refine lv_iload hx hb dX8_hoists_126 (lv_at hl 2 rfl) ?_
          refine bVV (As := [.int 0, .int 2, .int ((nw 9) + 1)]) (rest := []) (wc := [(mM, .inr (8, [.ref mN, .ref mR, .ref mA, .ref mP, .int ch, .ref mT, .int le, .int sp, .ref mD])), (mN, .inl (cyI, 515, .inl nw))]) (w1 := [(mM, .inr (8, [.ref mN, .ref mR, .ref mA, .ref mP, .int ch, .ref mT, .int le, .int sp, .ref mD])), (mN, .inl (cyI, 515, .inl (upd nw 9 ((nw 9) + 1))))]) (ws' := [(mM, .inr (8, [.ref mN, .ref mR, .ref mA, .ref mP, .int ch, .ref mT, .int le, .int sp, .ref mD])), (mN, .inl (cyI, 515, .inl (upd nw 9 ((nw 9) + 1))))]) (ad := [mM, mN]) (wr := []) (nn := 2) (ci := 8) (q0 := 0) X Y (c_tells8 l D cyC cyI mM mN mR mA mP mT mD ch le sp nw 0 2 ((nw 9) + 1) (upd nw 9 ((nw 9) + 1)) (bTells (i := 9) (by decide) rfl) (bInD (by decide))) gX8_hoists_X8_tells rfl ⟨rfl, rfl⟩ hd_X8_tells ⟨(Nat.le_of_ble_eq_true rfl), (Nat.le_of_ble_eq_true rfl)⟩ rfl rfl rfl [0, 1] [] rfl rfl rfl rfl rfl rfl rfl rfl (by decide) rfl rfl hl.1 (Nat.le_of_ble_eq_true rfl) ⟨Nat.zero_le _, Nat.zero_le _⟩ dX8_hoists_128 (fun H locs Y => ?_)
          have h9 := (Prod.mk.inj hu).1
          subst h9
          exact bEndV X Y hr hlk dX8_hoists_131 rfl
        · have c_7 : ¬ (nw 5 = (-4)) := c_7
          rw [if_neg c_7] at hu
          refine lv_iload hx hb dX8_hoists_76 (lv_at hl 1 rfl) ?_
          refine lv_iload hx hb dX8_hoists_78 (lv_at hl 0 rfl) ?_
          refine bSub (v := ((nw 9) + 1) - (nw 22)) X dX8_hoists_80 rfl ?_
          refine bSI (As := [.int (((nw 9) + 1) - (nw 22))]) (rest := []) X Y (c_size8 l D cyC cyI (((nw 9) + 1) - (nw 22)) (s_size8 (((nw 9) + 1) - (nw 22))) rfl) gX8_hoists_X8_size rfl ⟨rfl, rfl⟩ hd_X8_size.2 ⟨(Nat.le_of_ble_eq_true rfl), (Nat.le_of_ble_eq_true rfl)⟩ rfl rfl hl.1 (Nat.le_of_ble_eq_true rfl) ⟨Nat.zero_le _, Nat.zero_le _⟩ dX8_hoists_81 (fun H locs Y => ?_)
          refine lv_aload_n hx hb dX8_hoists_84 rfl (lv_at hl 4 rfl) ?_
          refine bGet (v := .ref mN) (T := TX8) (N := 9) (ci := 8) X Y i_X8_hoists_X8 0 rfl rfl 0 (Nat.le_of_ble_eq_true rfl) f_X8_hoists_7 rfl rfl dX8_hoists_85 ?_
          refine lv_iconst (v := 5) hx hb dX8_hoists_88 (by decide) ?_
          refine bIald (v := nw 5) X Y 1 rfl (bInD (by decide)) dX8_hoists_89 rfl ?_
          refine lv_icmp_le (tgt := 115) hx hb dX8_hoists_90 (by decide) (fun c_8 => ?_) (fun c_8 => ?_)
          · have c_8 : (s_size8 (((nw 9) + 1) - (nw 22))) ≤ (nw 5) := c_8
            rw [if_pos c_8] at hu
            refine lv_iconst (v := 0) hx hb dX8_hoists_115 (by decide) ?_
            refine lv_istore (lv' := [(6, .int 0), (5, .int (nw 22)), (4, .int ((nw 9) + 1)), (3, .int (nw 14)), (2, .int (nw 9)), (0, .ref mM), (1, .int 0)]) hx hb dX8_hoists_116 hl (by decide) rfl (fun ls hl => ?_)
            refine lv_iload hx hb dX8_hoists_118 (lv_at hl 0 rfl) ?_
            refine lv_if_ne (tgt := 131) hx hb dX8_hoists_120 (by decide) (fun c_ => absurd (by decide) c_) (fun _ => ?_)
            refine lv_aload_n hx hb dX8_hoists_123 rfl (lv_at hl 5 rfl) ?_
            refine lv_iload_n hx hb dX8_hoists_124 rfl (lv_at hl 6 rfl) ?_
            refine lv_iconst (v := 2) hx hb dX8_hoists_125 (by decide) ?_
            refine lv_iload hx hb dX8_hoists_126 (lv_at hl 2 rfl) ?_
            refine bVV (As := [.int 0, .int 2, .int ((nw 9) + 1)]) (rest := []) (wc := [(mM, .inr (8, [.ref mN, .ref mR, .ref mA, .ref mP, .int ch, .ref mT, .int le, .int sp, .ref mD])), (mN, .inl (cyI, 515, .inl nw))]) (w1 := [(mM, .inr (8, [.ref mN, .ref mR, .ref mA, .ref mP, .int ch, .ref mT, .int le, .int sp, .ref mD])), (mN, .inl (cyI, 515, .inl (upd nw 9 ((nw 9) + 1))))]) (ws' := [(mM, .inr (8, [.ref mN, .ref mR, .ref mA, .ref mP, .int ch, .ref mT, .int le, .int sp, .ref mD])), (mN, .inl (cyI, 515, .inl (upd nw 9 ((nw 9) + 1))))]) (ad := [mM, mN]) (wr := []) (nn := 2) (ci := 8) (q0 := 0) X Y (c_tells8 l D cyC cyI mM mN mR mA mP mT mD ch le sp nw 0 2 ((nw 9) + 1) (upd nw 9 ((nw 9) + 1)) (bTells (i := 9) (by decide) rfl) (bInD (by decide))) gX8_hoists_X8_tells rfl ⟨rfl, rfl⟩ hd_X8_tells ⟨(Nat.le_of_ble_eq_true rfl), (Nat.le_of_ble_eq_true rfl)⟩ rfl rfl rfl [0, 1] [] rfl rfl rfl rfl rfl rfl rfl rfl (by decide) rfl rfl hl.1 (Nat.le_of_ble_eq_true rfl) ⟨Nat.zero_le _, Nat.zero_le _⟩ dX8_hoists_128 (fun H locs Y => ?_)
            have h9 := (Prod.mk.inj hu).1
            subst h9
            exact bEndV X Y hr hlk dX8_hoists_131 rfl
          · have c_8 : ¬ ((s_size8 (((nw 9) + 1) - (nw 22))) ≤ (nw 5)) := c_8
            rw [if_neg c_8] at hu
            refine lv_iload hx hb dX8_hoists_93 (lv_at hl 1 rfl) ?_
            refine lv_iload hx hb dX8_hoists_95 (lv_at hl 0 rfl) ?_
            refine bSub (v := ((nw 9) + 1) - (nw 22)) X dX8_hoists_97 rfl ?_
            refine bSI (As := [.int (((nw 9) + 1) - (nw 22))]) (rest := []) X Y (c_size8 l D cyC cyI (((nw 9) + 1) - (nw 22)) (s_size8 (((nw 9) + 1) - (nw 22))) rfl) gX8_hoists_X8_size rfl ⟨rfl, rfl⟩ hd_X8_size.2 ⟨(Nat.le_of_ble_eq_true rfl), (Nat.le_of_ble_eq_true rfl)⟩ rfl rfl hl.1 (Nat.le_of_ble_eq_true rfl) ⟨Nat.zero_le _, Nat.zero_le _⟩ dX8_hoists_98 (fun H locs Y => ?_)
            refine lv_iload_n hx hb dX8_hoists_101 rfl (lv_at hl 3 rfl) ?_
            refine lv_iload hx hb dX8_hoists_102 (lv_at hl 0 rfl) ?_
            refine bSub (v := (nw 9) - (nw 22)) X dX8_hoists_104 rfl ?_
            refine bSI (As := [.int ((nw 9) - (nw 22))]) (rest := [.int (s_size8 (((nw 9) + 1) - (nw 22)))]) X Y (c_size8 l D cyC cyI ((nw 9) - (nw 22)) (s_size8 ((nw 9) - (nw 22))) rfl) gX8_hoists_X8_size rfl ⟨rfl, rfl⟩ hd_X8_size.2 ⟨(Nat.le_of_ble_eq_true rfl), (Nat.le_of_ble_eq_true rfl)⟩ rfl rfl hl.1 (Nat.le_of_ble_eq_true rfl) ⟨Nat.zero_le _, Nat.zero_le _⟩ dX8_hoists_105 (fun H locs Y => ?_)
            refine lv_icmp_le (tgt := 115) hx hb dX8_hoists_108 (by decide) (fun c_9 => ?_) (fun c_9 => ?_)
            · have c_9 : (s_size8 (((nw 9) + 1) - (nw 22))) ≤ (s_size8 ((nw 9) - (nw 22))) := c_9
              rw [if_pos c_9] at hu
              refine lv_iconst (v := 0) hx hb dX8_hoists_115 (by decide) ?_
              refine lv_istore (lv' := [(6, .int 0), (5, .int (nw 22)), (4, .int ((nw 9) + 1)), (3, .int (nw 14)), (2, .int (nw 9)), (0, .ref mM), (1, .int 0)]) hx hb dX8_hoists_116 hl (by decide) rfl (fun ls hl => ?_)
              refine lv_iload hx hb dX8_hoists_118 (lv_at hl 0 rfl) ?_
              refine lv_if_ne (tgt := 131) hx hb dX8_hoists_120 (by decide) (fun c_ => absurd (by decide) c_) (fun _ => ?_)
              refine lv_aload_n hx hb dX8_hoists_123 rfl (lv_at hl 5 rfl) ?_
              refine lv_iload_n hx hb dX8_hoists_124 rfl (lv_at hl 6 rfl) ?_
              refine lv_iconst (v := 2) hx hb dX8_hoists_125 (by decide) ?_
              refine lv_iload hx hb dX8_hoists_126 (lv_at hl 2 rfl) ?_
              refine bVV (As := [.int 0, .int 2, .int ((nw 9) + 1)]) (rest := []) (wc := [(mM, .inr (8, [.ref mN, .ref mR, .ref mA, .ref mP, .int ch, .ref mT, .int le, .int sp, .ref mD])), (mN, .inl (cyI, 515, .inl nw))]) (w1 := [(mM, .inr (8, [.ref mN, .ref mR, .ref mA, .ref mP, .int ch, .ref mT, .int le, .int sp, .ref mD])), (mN, .inl (cyI, 515, .inl (upd nw 9 ((nw 9) + 1))))]) (ws' := [(mM, .inr (8, [.ref mN, .ref mR, .ref mA, .ref mP, .int ch, .ref mT, .int le, .int sp, .ref mD])), (mN, .inl (cyI, 515, .inl (upd nw 9 ((nw 9) + 1))))]) (ad := [mM, mN]) (wr := []) (nn := 2) (ci := 8) (q0 := 0) X Y (c_tells8 l D cyC cyI mM mN mR mA mP mT mD ch le sp nw 0 2 ((nw 9) + 1) (upd nw 9 ((nw 9) + 1)) (bTells (i := 9) (by decide) rfl) (bInD (by decide))) gX8_hoists_X8_tells rfl ⟨rfl, rfl⟩ hd_X8_tells ⟨(Nat.le_of_ble_eq_true rfl), (Nat.le_of_ble_eq_true rfl)⟩ rfl rfl rfl [0, 1] [] rfl rfl rfl rfl rfl rfl rfl rfl (by decide) rfl rfl hl.1 (Nat.le_of_ble_eq_true rfl) ⟨Nat.zero_le _, Nat.zero_le _⟩ dX8_hoists_128 (fun H locs Y => ?_)
              have h9 := (Prod.mk.inj hu).1
              subst h9
              exact bEndV X Y hr hlk dX8_hoists_131 rfl
            · have c_9 : ¬ ((s_size8 (((nw 9) + 1) - (nw 22))) ≤ (s_size8 ((nw 9) - (nw 22)))) := c_9
              rw [if_neg c_9] at hu
              refine lv_iconst (v := 1) hx hb dX8_hoists_111 (by decide) ?_
              refine lv_goto (tgt := 116) hx hb dX8_hoists_112 (by decide) ?_
              refine lv_istore (lv' := [(6, .int 1), (5, .int (nw 22)), (4, .int ((nw 9) + 1)), (3, .int (nw 14)), (2, .int (nw 9)), (0, .ref mM), (1, .int 0)]) hx hb dX8_hoists_116 hl (by decide) rfl (fun ls hl => ?_)
              refine lv_iload hx hb dX8_hoists_118 (lv_at hl 0 rfl) ?_
              refine lv_if_ne (tgt := 131) hx hb dX8_hoists_120 (by decide) (fun _ => ?_) (fun c_ => absurd c_ (by decide))
              have h9 := (Prod.mk.inj hu).1
              subst h9
              exact bEndV X Y hr hlk dX8_hoists_131 rfl
    · have c_2 : ¬ ((s_size8 (nw 8)) ≤ (nw 4)) := c_2
      rw [if_neg c_2] at hu
      have h9 := (Prod.mk.inj hu).1
      subst h9
      exact bEndV X Y hr hlk dX8_hoists_38 rfl
def s_hoists8_1 (nw : Nat → Int32) : (Nat → Int32) × Unit :=
  if (nw 27) = (nw 22) then
    (nw, ())
  else
    if (s_size8 (nw 21)) ≤ (nw 4) then
      if (nw 27) ≤ (nw 22) then
        if nw 5 = (-4) then
          (upd nw 22 ((nw 22) - 1), ())
        else
          if (s_size8 (((nw 22) - 1) - (nw 9))) ≤ (nw 5) then
            (upd nw 22 ((nw 22) - 1), ())
          else
            if (s_size8 (((nw 22) - 1) - (nw 9))) ≤ (s_size8 ((nw 22) - (nw 9))) then
              (upd nw 22 ((nw 22) - 1), ())
            else
              (nw, ())
      else
        if nw 5 = (-4) then
          (upd nw 22 ((nw 22) + 1), ())
        else
          if (s_size8 (((nw 22) + 1) - (nw 9))) ≤ (nw 5) then
            (upd nw 22 ((nw 22) + 1), ())
          else
            if (s_size8 (((nw 22) + 1) - (nw 9))) ≤ (s_size8 ((nw 22) - (nw 9))) then
              (upd nw 22 ((nw 22) + 1), ())
            else
              (nw, ())
    else
      (nw, ())
set_option maxHeartbeats 4000000 in
set_option maxRecDepth 100000 in
theorem c_hoists8_1 (l : Launch) (D : va_G) (cyC cyI : ClassId) (mM : Nat) (mN : Nat) (mR : Nat) (mA : Nat) (mP : Nat) (mT : Nat) (mD : Nat) (ch : Int32) (le : Int32) (sp : Int32) (nw : Nat → Int32) (o0 : Nat → Int32) (hu : s_hoists8_1 nw = (o0, ())) : CV l yX8_hoists wsX8_hoists { frames := 1, cells := 0, slots := 0, locals := 23 } D cyC cyI [.ref mM, .int 1] [(mM, .inr (8, [.ref mN, .ref mR, .ref mA, .ref mP, .int ch, .ref mT, .int le, .int sp, .ref mD])), (mN, .inl (cyI, 515, .inl nw))] [(mM, .inr (8, [.ref mN, .ref mR, .ref mA, .ref mP, .int ch, .ref mT, .int le, .int sp, .ref mD])), (mN, .inl (cyI, 515, .inl o0))] := by
  refine CV.of (cc := cX8_hoists) (n := 7) (ret := none) (by decide +kernel) rfl (Nat.le_of_ble_eq_true rfl) ?_
  intro p_ e_ s_ m_ bl_ me_ cd_ A_ ls X Y hr hlk hl
  have hx := X.1.1
  have hb := X.1.2.1
  have hl : lv_has ls 7 [(0, .ref mM), (1, .int 1)] := hl
  unfold s_hoists8_1 at hu
  refine lv_aload_n hx hb dX8_hoists_0 rfl (lv_at hl 0 rfl) ?_
  refine lv_iload_n hx hb dX8_hoists_1 rfl (lv_at hl 1 rfl) ?_
  refine lv_iconst (v := 2) hx hb dX8_hoists_2 (by decide) ?_
  refine bVI0 (As := [.int 1, .int 2]) (rest := []) (wc := [(mM, .inr (8, [.ref mN, .ref mR, .ref mA, .ref mP, .int ch, .ref mT, .int le, .int sp, .ref mD])), (mN, .inl (cyI, 515, .inl nw))]) (ci := 8) (q0 := 0) X Y (c_of8 l D cyC cyI mM mN mR mA mP mT mD ch le sp nw 1 2 (nw 22) (bOf (i := 22) (by decide) rfl) (bInD (by decide))) gX8_hoists_X8_of rfl ⟨rfl, rfl⟩ hd_X8_of ⟨(Nat.le_of_ble_eq_true rfl), (Nat.le_of_ble_eq_true rfl)⟩ rfl rfl rfl [0, 1] rfl rfl rfl rfl hl.1 (Nat.le_of_ble_eq_true rfl) ⟨Nat.zero_le _, Nat.zero_le _⟩ dX8_hoists_3 (fun H locs Y => ?_)
  refine lv_istore_n (lv' := [(2, .int (nw 22)), (0, .ref mM), (1, .int 1)]) hx hb dX8_hoists_6 rfl hl (by decide) rfl (fun ls hl => ?_)
  refine lv_aload_n hx hb dX8_hoists_7 rfl (lv_at hl 1 rfl) ?_
  refine lv_iload_n hx hb dX8_hoists_8 rfl (lv_at hl 2 rfl) ?_
  refine lv_bipush (v := 7) hx hb dX8_hoists_9 (by decide) ?_
  refine bVI0 (As := [.int 1, .int 7]) (rest := []) (wc := [(mM, .inr (8, [.ref mN, .ref mR, .ref mA, .ref mP, .int ch, .ref mT, .int le, .int sp, .ref mD])), (mN, .inl (cyI, 515, .inl nw))]) (ci := 8) (q0 := 0) X Y (c_of8 l D cyC cyI mM mN mR mA mP mT mD ch le sp nw 1 7 (nw 27) (bOf (i := 27) (by decide) rfl) (bInD (by decide))) gX8_hoists_X8_of rfl ⟨rfl, rfl⟩ hd_X8_of ⟨(Nat.le_of_ble_eq_true rfl), (Nat.le_of_ble_eq_true rfl)⟩ rfl rfl rfl [0, 1] rfl rfl rfl rfl hl.1 (Nat.le_of_ble_eq_true rfl) ⟨Nat.zero_le _, Nat.zero_le _⟩ dX8_hoists_11 (fun H locs Y => ?_)
  refine lv_istore_n (lv' := [(3, .int (nw 27)), (2, .int (nw 22)), (0, .ref mM), (1, .int 1)]) hx hb dX8_hoists_14 rfl hl (by decide) rfl (fun ls hl => ?_)
  refine lv_iload_n hx hb dX8_hoists_15 rfl (lv_at hl 0 rfl) ?_
  refine lv_iload_n hx hb dX8_hoists_16 rfl (lv_at hl 1 rfl) ?_
  refine lv_icmp_eq (tgt := 38) hx hb dX8_hoists_17 (by decide) (fun c_1 => ?_) (fun c_1 => ?_)
  · have c_1 : (nw 27) = (nw 22) := c_1
    rw [if_pos c_1] at hu
    have h9 := (Prod.mk.inj hu).1
    subst h9
    exact bEndV X Y hr hlk dX8_hoists_38 rfl
  · have c_1 : ¬ ((nw 27) = (nw 22)) := c_1
    rw [if_neg c_1] at hu
    refine lv_aload_n hx hb dX8_hoists_20 rfl (lv_at hl 2 rfl) ?_
    refine lv_iload_n hx hb dX8_hoists_21 rfl (lv_at hl 3 rfl) ?_
    refine lv_iconst (v := 1) hx hb dX8_hoists_22 (by decide) ?_
    refine bVI0 (As := [.int 1, .int 1]) (rest := []) (wc := [(mM, .inr (8, [.ref mN, .ref mR, .ref mA, .ref mP, .int ch, .ref mT, .int le, .int sp, .ref mD])), (mN, .inl (cyI, 515, .inl nw))]) (ci := 8) (q0 := 0) X Y (c_of8 l D cyC cyI mM mN mR mA mP mT mD ch le sp nw 1 1 (nw 21) (bOf (i := 21) (by decide) rfl) (bInD (by decide))) gX8_hoists_X8_of rfl ⟨rfl, rfl⟩ hd_X8_of ⟨(Nat.le_of_ble_eq_true rfl), (Nat.le_of_ble_eq_true rfl)⟩ rfl rfl rfl [0, 1] rfl rfl rfl rfl hl.1 (Nat.le_of_ble_eq_true rfl) ⟨Nat.zero_le _, Nat.zero_le _⟩ dX8_hoists_23 (fun H locs Y => ?_)
    refine bSI (As := [.int (nw 21)]) (rest := []) X Y (c_size8 l D cyC cyI (nw 21) (s_size8 (nw 21)) rfl) gX8_hoists_X8_size rfl ⟨rfl, rfl⟩ hd_X8_size.2 ⟨(Nat.le_of_ble_eq_true rfl), (Nat.le_of_ble_eq_true rfl)⟩ rfl rfl hl.1 (Nat.le_of_ble_eq_true rfl) ⟨Nat.zero_le _, Nat.zero_le _⟩ dX8_hoists_26 (fun H locs Y => ?_)
    refine lv_aload_n hx hb dX8_hoists_29 rfl (lv_at hl 2 rfl) ?_
    refine bGet (v := .ref mN) (T := TX8) (N := 9) (ci := 8) X Y i_X8_hoists_X8 0 rfl rfl 0 (Nat.le_of_ble_eq_true rfl) f_X8_hoists_7 rfl rfl dX8_hoists_30 ?_
    refine lv_iconst (v := 4) hx hb dX8_hoists_33 (by decide) ?_
    refine bIald (v := nw 4) X Y 1 rfl (bInD (by decide)) dX8_hoists_34 rfl ?_
    refine lv_icmp_le (tgt := 39) hx hb dX8_hoists_35 (by decide) (fun c_2 => ?_) (fun c_2 => ?_)
    · have c_2 : (s_size8 (nw 21)) ≤ (nw 4) := c_2
      rw [if_pos c_2] at hu
      refine lv_iload_n hx hb dX8_hoists_39 rfl (lv_at hl 0 rfl) ?_
      refine lv_iload_n hx hb dX8_hoists_40 rfl (lv_at hl 1 rfl) ?_
      refine lv_icmp_le (tgt := 50) hx hb dX8_hoists_41 (by decide) (fun c_3 => ?_) (fun c_3 => ?_)
      · have c_3 : (nw 27) ≤ (nw 22) := c_3
        rw [if_pos c_3] at hu
        refine lv_iload_n hx hb dX8_hoists_50 rfl (lv_at hl 1 rfl) ?_
        refine lv_iconst (v := 1) hx hb dX8_hoists_51 (by decide) ?_
        refine bSub (v := (nw 22) - 1) X dX8_hoists_52 rfl ?_
        refine lv_istore (lv' := [(4, .int ((nw 22) - 1)), (3, .int (nw 27)), (2, .int (nw 22)), (0, .ref mM), (1, .int 1)]) hx hb dX8_hoists_53 hl (by decide) rfl (fun ls hl => ?_)
        refine lv_aload_n hx hb dX8_hoists_55 rfl (lv_at hl 3 rfl) ?_
        refine lv_iconst (v := 1) hx hb dX8_hoists_56 (by decide) ?_
        refine lv_iload_n hx hb dX8_hoists_57 rfl (lv_at hl 4 rfl) ?_
        refine bSub (v := 0) X dX8_hoists_58 (by decide) ?_
        refine lv_iconst (v := 2) hx hb dX8_hoists_59 (by decide) ?_
        refine bVI0 (As := [.int 0, .int 2]) (rest := []) (wc := [(mM, .inr (8, [.ref mN, .ref mR, .ref mA, .ref mP, .int ch, .ref mT, .int le, .int sp, .ref mD])), (mN, .inl (cyI, 515, .inl nw))]) (ci := 8) (q0 := 0) X Y (c_of8 l D cyC cyI mM mN mR mA mP mT mD ch le sp nw 0 2 (nw 9) (bOf (i := 9) (by decide) rfl) (bInD (by decide))) gX8_hoists_X8_of rfl ⟨rfl, rfl⟩ hd_X8_of ⟨(Nat.le_of_ble_eq_true rfl), (Nat.le_of_ble_eq_true rfl)⟩ rfl rfl rfl [0, 1] rfl rfl rfl rfl hl.1 (Nat.le_of_ble_eq_true rfl) ⟨Nat.zero_le _, Nat.zero_le _⟩ dX8_hoists_60 (fun H locs Y => ?_)
        refine lv_istore (lv' := [(5, .int (nw 9)), (4, .int ((nw 22) - 1)), (3, .int (nw 27)), (2, .int (nw 22)), (0, .ref mM), (1, .int 1)]) hx hb dX8_hoists_63 hl (by decide) rfl (fun ls hl => ?_)
        refine lv_aload_n hx hb dX8_hoists_65 rfl (lv_at hl 4 rfl) ?_
        refine bGet (v := .ref mN) (T := TX8) (N := 9) (ci := 8) X Y i_X8_hoists_X8 0 rfl rfl 0 (Nat.le_of_ble_eq_true rfl) f_X8_hoists_7 rfl rfl dX8_hoists_66 ?_
        refine lv_iconst (v := 5) hx hb dX8_hoists_69 (by decide) ?_
        refine bIald (v := nw 5) X Y 1 rfl (bInD (by decide)) dX8_hoists_70 rfl ?_
        refine lv_bipush (v := (-4)) hx hb dX8_hoists_71 (by decide) ?_
        refine lv_icmp_eq (tgt := 115) hx hb dX8_hoists_73 (by decide) (fun c_4 => ?_) (fun c_4 => ?_)
        · have c_4 : nw 5 = (-4) := c_4
          rw [if_pos c_4] at hu
          refine lv_iconst (v := 0) hx hb dX8_hoists_115 (by decide) ?_
          refine lv_istore (lv' := [(6, .int 0), (5, .int (nw 9)), (4, .int ((nw 22) - 1)), (3, .int (nw 27)), (2, .int (nw 22)), (0, .ref mM), (1, .int 1)]) hx hb dX8_hoists_116 hl (by decide) rfl (fun ls hl => ?_)
          refine lv_iload hx hb dX8_hoists_118 (lv_at hl 0 rfl) ?_
          refine lv_if_ne (tgt := 131) hx hb dX8_hoists_120 (by decide) (fun c_ => absurd (by decide) c_) (fun _ => ?_)
          refine lv_aload_n hx hb dX8_hoists_123 rfl (lv_at hl 5 rfl) ?_
          refine lv_iload_n hx hb dX8_hoists_124 rfl (lv_at hl 6 rfl) ?_
          refine lv_iconst (v := 2) hx hb dX8_hoists_125 (by decide) ?_
          refine lv_iload hx hb dX8_hoists_126 (lv_at hl 2 rfl) ?_
          refine bVV (As := [.int 1, .int 2, .int ((nw 22) - 1)]) (rest := []) (wc := [(mM, .inr (8, [.ref mN, .ref mR, .ref mA, .ref mP, .int ch, .ref mT, .int le, .int sp, .ref mD])), (mN, .inl (cyI, 515, .inl nw))]) (w1 := [(mM, .inr (8, [.ref mN, .ref mR, .ref mA, .ref mP, .int ch, .ref mT, .int le, .int sp, .ref mD])), (mN, .inl (cyI, 515, .inl (upd nw 22 ((nw 22) - 1))))]) (ws' := [(mM, .inr (8, [.ref mN, .ref mR, .ref mA, .ref mP, .int ch, .ref mT, .int le, .int sp, .ref mD])), (mN, .inl (cyI, 515, .inl (upd nw 22 ((nw 22) - 1))))]) (ad := [mM, mN]) (wr := []) (nn := 2) (ci := 8) (q0 := 0) X Y (c_tells8 l D cyC cyI mM mN mR mA mP mT mD ch le sp nw 1 2 ((nw 22) - 1) (upd nw 22 ((nw 22) - 1)) (bTells (i := 22) (by decide) rfl) (bInD (by decide))) gX8_hoists_X8_tells rfl ⟨rfl, rfl⟩ hd_X8_tells ⟨(Nat.le_of_ble_eq_true rfl), (Nat.le_of_ble_eq_true rfl)⟩ rfl rfl rfl [0, 1] [] rfl rfl rfl rfl rfl rfl rfl rfl (by decide) rfl rfl hl.1 (Nat.le_of_ble_eq_true rfl) ⟨Nat.zero_le _, Nat.zero_le _⟩ dX8_hoists_128 (fun H locs Y => ?_)
          have h9 := (Prod.mk.inj hu).1
          subst h9
          exact bEndV X Y hr hlk dX8_hoists_131 rfl
        · have c_4 : ¬ (nw 5 = (-4)) := c_4
          rw [if_neg c_4] at hu
          refine lv_iload hx hb dX8_hoists_76 (lv_at hl 1 rfl) ?_
          refine lv_iload hx hb dX8_hoists_78 (lv_at hl 0 rfl) ?_
          refine bSub (v := ((nw 22) - 1) - (nw 9)) X dX8_hoists_80 rfl ?_
          refine bSI (As := [.int (((nw 22) - 1) - (nw 9))]) (rest := []) X Y (c_size8 l D cyC cyI (((nw 22) - 1) - (nw 9)) (s_size8 (((nw 22) - 1) - (nw 9))) rfl) gX8_hoists_X8_size rfl ⟨rfl, rfl⟩ hd_X8_size.2 ⟨(Nat.le_of_ble_eq_true rfl), (Nat.le_of_ble_eq_true rfl)⟩ rfl rfl hl.1 (Nat.le_of_ble_eq_true rfl) ⟨Nat.zero_le _, Nat.zero_le _⟩ dX8_hoists_81 (fun H locs Y => ?_)
          refine lv_aload_n hx hb dX8_hoists_84 rfl (lv_at hl 4 rfl) ?_
          refine bGet (v := .ref mN) (T := TX8) (N := 9) (ci := 8) X Y i_X8_hoists_X8 0 rfl rfl 0 (Nat.le_of_ble_eq_true rfl) f_X8_hoists_7 rfl rfl dX8_hoists_85 ?_
          refine lv_iconst (v := 5) hx hb dX8_hoists_88 (by decide) ?_
          refine bIald (v := nw 5) X Y 1 rfl (bInD (by decide)) dX8_hoists_89 rfl ?_
          refine lv_icmp_le (tgt := 115) hx hb dX8_hoists_90 (by decide) (fun c_5 => ?_) (fun c_5 => ?_)
          · have c_5 : (s_size8 (((nw 22) - 1) - (nw 9))) ≤ (nw 5) := c_5
            rw [if_pos c_5] at hu
            refine lv_iconst (v := 0) hx hb dX8_hoists_115 (by decide) ?_
            refine lv_istore (lv' := [(6, .int 0), (5, .int (nw 9)), (4, .int ((nw 22) - 1)), (3, .int (nw 27)), (2, .int (nw 22)), (0, .ref mM), (1, .int 1)]) hx hb dX8_hoists_116 hl (by decide) rfl (fun ls hl => ?_)
            refine lv_iload hx hb dX8_hoists_118 (lv_at hl 0 rfl) ?_
            refine lv_if_ne (tgt := 131) hx hb dX8_hoists_120 (by decide) (fun c_ => absurd (by decide) c_) (fun _ => ?_)
            refine lv_aload_n hx hb dX8_hoists_123 rfl (lv_at hl 5 rfl) ?_
            refine lv_iload_n hx hb dX8_hoists_124 rfl (lv_at hl 6 rfl) ?_
            refine lv_iconst (v := 2) hx hb dX8_hoists_125 (by decide) ?_
            refine lv_iload hx hb dX8_hoists_126 (lv_at hl 2 rfl) ?_
            refine bVV (As := [.int 1, .int 2, .int ((nw 22) - 1)]) (rest := []) (wc := [(mM, .inr (8, [.ref mN, .ref mR, .ref mA, .ref mP, .int ch, .ref mT, .int le, .int sp, .ref mD])), (mN, .inl (cyI, 515, .inl nw))]) (w1 := [(mM, .inr (8, [.ref mN, .ref mR, .ref mA, .ref mP, .int ch, .ref mT, .int le, .int sp, .ref mD])), (mN, .inl (cyI, 515, .inl (upd nw 22 ((nw 22) - 1))))]) (ws' := [(mM, .inr (8, [.ref mN, .ref mR, .ref mA, .ref mP, .int ch, .ref mT, .int le, .int sp, .ref mD])), (mN, .inl (cyI, 515, .inl (upd nw 22 ((nw 22) - 1))))]) (ad := [mM, mN]) (wr := []) (nn := 2) (ci := 8) (q0 := 0) X Y (c_tells8 l D cyC cyI mM mN mR mA mP mT mD ch le sp nw 1 2 ((nw 22) - 1) (upd nw 22 ((nw 22) - 1)) (bTells (i := 22) (by decide) rfl) (bInD (by decide))) gX8_hoists_X8_tells rfl ⟨rfl, rfl⟩ hd_X8_tells ⟨(Nat.le_of_ble_eq_true rfl), (Nat.le_of_ble_eq_true rfl)⟩ rfl rfl rfl [0, 1] [] rfl rfl rfl rfl rfl rfl rfl rfl (by decide) rfl rfl hl.1 (Nat.le_of_ble_eq_true rfl) ⟨Nat.zero_le _, Nat.zero_le _⟩ dX8_hoists_128 (fun H locs Y => ?_)
            have h9 := (Prod.mk.inj hu).1
            subst h9
            exact bEndV X Y hr hlk dX8_hoists_131 rfl
          · have c_5 : ¬ ((s_size8 (((nw 22) - 1) - (nw 9))) ≤ (nw 5)) := c_5
            rw [if_neg c_5] at hu
            refine lv_iload hx hb dX8_hoists_93 (lv_at hl 1 rfl) ?_
            refine lv_iload hx hb dX8_hoists_95 (lv_at hl 0 rfl) ?_
            refine bSub (v := ((nw 22) - 1) - (nw 9)) X dX8_hoists_97 rfl ?_
            refine bSI (As := [.int (((nw 22) - 1) - (nw 9))]) (rest := []) X Y (c_size8 l D cyC cyI (((nw 22) - 1) - (nw 9)) (s_size8 (((nw 22) - 1) - (nw 9))) rfl) gX8_hoists_X8_size rfl ⟨rfl, rfl⟩ hd_X8_size.2 ⟨(Nat.le_of_ble_eq_true rfl), (Nat.le_of_ble_eq_true rfl)⟩ rfl rfl hl.1 (Nat.le_of_ble_eq_true rfl) ⟨Nat.zero_le _, Nat.zero_le _⟩ dX8_hoists_98 (fun H locs Y => ?_)
            refine lv_iload_n hx hb dX8_hoists_101 rfl (lv_at hl 3 rfl) ?_
            refine lv_iload hx hb dX8_hoists_102 (lv_at hl 0 rfl) ?_
            refine bSub (v := (nw 22) - (nw 9)) X dX8_hoists_104 rfl ?_
            refine bSI (As := [.int ((nw 22) - (nw 9))]) (rest := [.int (s_size8 (((nw 22) - 1) - (nw 9)))]) X Y (c_size8 l D cyC cyI ((nw 22) - (nw 9)) (s_size8 ((nw 22) - (nw 9))) rfl) gX8_hoists_X8_size rfl ⟨rfl, rfl⟩ hd_X8_size.2 ⟨(Nat.le_of_ble_eq_true rfl), (Nat.le_of_ble_eq_true rfl)⟩ rfl rfl hl.1 (Nat.le_of_ble_eq_true rfl) ⟨Nat.zero_le _, Nat.zero_le _⟩ dX8_hoists_105 (fun H locs Y => ?_)
            refine lv_icmp_le (tgt := 115) hx hb dX8_hoists_108 (by decide) (fun c_6 => ?_) (fun c_6 => ?_)
            · have c_6 : (s_size8 (((nw 22) - 1) - (nw 9))) ≤ (s_size8 ((nw 22) - (nw 9))) := c_6
              rw [if_pos c_6] at hu
              refine lv_iconst (v := 0) hx hb dX8_hoists_115 (by decide) ?_
              refine lv_istore (lv' := [(6, .int 0), (5, .int (nw 9)), (4, .int ((nw 22) - 1)), (3, .int (nw 27)), (2, .int (nw 22)), (0, .ref mM), (1, .int 1)]) hx hb dX8_hoists_116 hl (by decide) rfl (fun ls hl => ?_)
              refine lv_iload hx hb dX8_hoists_118 (lv_at hl 0 rfl) ?_
              refine lv_if_ne (tgt := 131) hx hb dX8_hoists_120 (by decide) (fun c_ => absurd (by decide) c_) (fun _ => ?_)
              refine lv_aload_n hx hb dX8_hoists_123 rfl (lv_at hl 5 rfl) ?_
              refine lv_iload_n hx hb dX8_hoists_124 rfl (lv_at hl 6 rfl) ?_
              refine lv_iconst (v := 2) hx hb dX8_hoists_125 (by decide) ?_
              refine lv_iload hx hb dX8_hoists_126 (lv_at hl 2 rfl) ?_
              refine bVV (As := [.int 1, .int 2, .int ((nw 22) - 1)]) (rest := []) (wc := [(mM, .inr (8, [.ref mN, .ref mR, .ref mA, .ref mP, .int ch, .ref mT, .int le, .int sp, .ref mD])), (mN, .inl (cyI, 515, .inl nw))]) (w1 := [(mM, .inr (8, [.ref mN, .ref mR, .ref mA, .ref mP, .int ch, .ref mT, .int le, .int sp, .ref mD])), (mN, .inl (cyI, 515, .inl (upd nw 22 ((nw 22) - 1))))]) (ws' := [(mM, .inr (8, [.ref mN, .ref mR, .ref mA, .ref mP, .int ch, .ref mT, .int le, .int sp, .ref mD])), (mN, .inl (cyI, 515, .inl (upd nw 22 ((nw 22) - 1))))]) (ad := [mM, mN]) (wr := []) (nn := 2) (ci := 8) (q0 := 0) X Y (c_tells8 l D cyC cyI mM mN mR mA mP mT mD ch le sp nw 1 2 ((nw 22) - 1) (upd nw 22 ((nw 22) - 1)) (bTells (i := 22) (by decide) rfl) (bInD (by decide))) gX8_hoists_X8_tells rfl ⟨rfl, rfl⟩ hd_X8_tells ⟨(Nat.le_of_ble_eq_true rfl), (Nat.le_of_ble_eq_true rfl)⟩ rfl rfl rfl [0, 1] [] rfl rfl rfl rfl rfl rfl rfl rfl (by decide) rfl rfl hl.1 (Nat.le_of_ble_eq_true rfl) ⟨Nat.zero_le _, Nat.zero_le _⟩ dX8_hoists_128 (fun H locs Y => ?_)
              have h9 := (Prod.mk.inj hu).1
              subst h9
              exact bEndV X Y hr hlk dX8_hoists_131 rfl
            · have c_6 : ¬ ((s_size8 (((nw 22) - 1) - (nw 9))) ≤ (s_size8 ((nw 22) - (nw 9)))) := c_6
              rw [if_neg c_6] at hu
              refine lv_iconst (v := 1) hx hb dX8_hoists_111 (by decide) ?_
              refine lv_goto (tgt := 116) hx hb dX8_hoists_112 (by decide) ?_
              refine lv_istore (lv' := [(6, .int 1), (5, .int (nw 9)), (4, .int ((nw 22) - 1)), (3, .int (nw 27)), (2, .int (nw 22)), (0, .ref mM), (1, .int 1)]) hx hb dX8_hoists_116 hl (by decide) rfl (fun ls hl => ?_)
              refine lv_iload hx hb dX8_hoists_118 (lv_at hl 0 rfl) ?_
              refine lv_if_ne (tgt := 131) hx hb dX8_hoists_120 (by decide) (fun _ => ?_) (fun c_ => absurd c_ (by decide))
              have h9 := (Prod.mk.inj hu).1
              subst h9
              exact bEndV X Y hr hlk dX8_hoists_131 rfl
      · have c_3 : ¬ ((nw 27) ≤ (nw 22)) := c_3
        rw [if_neg c_3] at hu
        refine lv_iload_n hx hb dX8_hoists_44 rfl (lv_at hl 1 rfl) ?_
        refine lv_iconst (v := 1) hx hb dX8_hoists_45 (by decide) ?_
        refine bAdd (v := (nw 22) + 1) X dX8_hoists_46 rfl ?_
        refine lv_goto (tgt := 53) hx hb dX8_hoists_47 (by decide) ?_
        refine lv_istore (lv' := [(4, .int ((nw 22) + 1)), (3, .int (nw 27)), (2, .int (nw 22)), (0, .ref mM), (1, .int 1)]) hx hb dX8_hoists_53 hl (by decide) rfl (fun ls hl => ?_)
        refine lv_aload_n hx hb dX8_hoists_55 rfl (lv_at hl 3 rfl) ?_
        refine lv_iconst (v := 1) hx hb dX8_hoists_56 (by decide) ?_
        refine lv_iload_n hx hb dX8_hoists_57 rfl (lv_at hl 4 rfl) ?_
        refine bSub (v := 0) X dX8_hoists_58 (by decide) ?_
        refine lv_iconst (v := 2) hx hb dX8_hoists_59 (by decide) ?_
        refine bVI0 (As := [.int 0, .int 2]) (rest := []) (wc := [(mM, .inr (8, [.ref mN, .ref mR, .ref mA, .ref mP, .int ch, .ref mT, .int le, .int sp, .ref mD])), (mN, .inl (cyI, 515, .inl nw))]) (ci := 8) (q0 := 0) X Y (c_of8 l D cyC cyI mM mN mR mA mP mT mD ch le sp nw 0 2 (nw 9) (bOf (i := 9) (by decide) rfl) (bInD (by decide))) gX8_hoists_X8_of rfl ⟨rfl, rfl⟩ hd_X8_of ⟨(Nat.le_of_ble_eq_true rfl), (Nat.le_of_ble_eq_true rfl)⟩ rfl rfl rfl [0, 1] rfl rfl rfl rfl hl.1 (Nat.le_of_ble_eq_true rfl) ⟨Nat.zero_le _, Nat.zero_le _⟩ dX8_hoists_60 (fun H locs Y => ?_)
        refine lv_istore (lv' := [(5, .int (nw 9)), (4, .int ((nw 22) + 1)), (3, .int (nw 27)), (2, .int (nw 22)), (0, .ref mM), (1, .int 1)]) hx hb dX8_hoists_63 hl (by decide) rfl (fun ls hl => ?_)
        refine lv_aload_n hx hb dX8_hoists_65 rfl (lv_at hl 4 rfl) ?_
        refine bGet (v := .ref mN) (T := TX8) (N := 9) (ci := 8) X Y i_X8_hoists_X8 0 rfl rfl 0 (Nat.le_of_ble_eq_true rfl) f_X8_hoists_7 rfl rfl dX8_hoists_66 ?_
        refine lv_iconst (v := 5) hx hb dX8_hoists_69 (by decide) ?_
        refine bIald (v := nw 5) X Y 1 rfl (bInD (by decide)) dX8_hoists_70 rfl ?_
        refine lv_bipush (v := (-4)) hx hb dX8_hoists_71 (by decide) ?_
        refine lv_icmp_eq (tgt := 115) hx hb dX8_hoists_73 (by decide) (fun c_7 => ?_) (fun c_7 => ?_)
        · have c_7 : nw 5 = (-4) := c_7
          rw [if_pos c_7] at hu
          refine lv_iconst (v := 0) hx hb dX8_hoists_115 (by decide) ?_
          refine lv_istore (lv' := [(6, .int 0), (5, .int (nw 9)), (4, .int ((nw 22) + 1)), (3, .int (nw 27)), (2, .int (nw 22)), (0, .ref mM), (1, .int 1)]) hx hb dX8_hoists_116 hl (by decide) rfl (fun ls hl => ?_)
          refine lv_iload hx hb dX8_hoists_118 (lv_at hl 0 rfl) ?_
          refine lv_if_ne (tgt := 131) hx hb dX8_hoists_120 (by decide) (fun c_ => absurd (by decide) c_) (fun _ => ?_)
          refine lv_aload_n hx hb dX8_hoists_123 rfl (lv_at hl 5 rfl) ?_
          refine lv_iload_n hx hb dX8_hoists_124 rfl (lv_at hl 6 rfl) ?_
          refine lv_iconst (v := 2) hx hb dX8_hoists_125 (by decide) ?_
          refine lv_iload hx hb dX8_hoists_126 (lv_at hl 2 rfl) ?_
          refine bVV (As := [.int 1, .int 2, .int ((nw 22) + 1)]) (rest := []) (wc := [(mM, .inr (8, [.ref mN, .ref mR, .ref mA, .ref mP, .int ch, .ref mT, .int le, .int sp, .ref mD])), (mN, .inl (cyI, 515, .inl nw))]) (w1 := [(mM, .inr (8, [.ref mN, .ref mR, .ref mA, .ref mP, .int ch, .ref mT, .int le, .int sp, .ref mD])), (mN, .inl (cyI, 515, .inl (upd nw 22 ((nw 22) + 1))))]) (ws' := [(mM, .inr (8, [.ref mN, .ref mR, .ref mA, .ref mP, .int ch, .ref mT, .int le, .int sp, .ref mD])), (mN, .inl (cyI, 515, .inl (upd nw 22 ((nw 22) + 1))))]) (ad := [mM, mN]) (wr := []) (nn := 2) (ci := 8) (q0 := 0) X Y (c_tells8 l D cyC cyI mM mN mR mA mP mT mD ch le sp nw 1 2 ((nw 22) + 1) (upd nw 22 ((nw 22) + 1)) (bTells (i := 22) (by decide) rfl) (bInD (by decide))) gX8_hoists_X8_tells rfl ⟨rfl, rfl⟩ hd_X8_tells ⟨(Nat.le_of_ble_eq_true rfl), (Nat.le_of_ble_eq_true rfl)⟩ rfl rfl rfl [0, 1] [] rfl rfl rfl rfl rfl rfl rfl rfl (by decide) rfl rfl hl.1 (Nat.le_of_ble_eq_true rfl) ⟨Nat.zero_le _, Nat.zero_le _⟩ dX8_hoists_128 (fun H locs Y => ?_)
          have h9 := (Prod.mk.inj hu).1
          subst h9
          exact bEndV X Y hr hlk dX8_hoists_131 rfl
        · have c_7 : ¬ (nw 5 = (-4)) := c_7
          rw [if_neg c_7] at hu
          refine lv_iload hx hb dX8_hoists_76 (lv_at hl 1 rfl) ?_
          refine lv_iload hx hb dX8_hoists_78 (lv_at hl 0 rfl) ?_
          refine bSub (v := ((nw 22) + 1) - (nw 9)) X dX8_hoists_80 rfl ?_
          refine bSI (As := [.int (((nw 22) + 1) - (nw 9))]) (rest := []) X Y (c_size8 l D cyC cyI (((nw 22) + 1) - (nw 9)) (s_size8 (((nw 22) + 1) - (nw 9))) rfl) gX8_hoists_X8_size rfl ⟨rfl, rfl⟩ hd_X8_size.2 ⟨(Nat.le_of_ble_eq_true rfl), (Nat.le_of_ble_eq_true rfl)⟩ rfl rfl hl.1 (Nat.le_of_ble_eq_true rfl) ⟨Nat.zero_le _, Nat.zero_le _⟩ dX8_hoists_81 (fun H locs Y => ?_)
          refine lv_aload_n hx hb dX8_hoists_84 rfl (lv_at hl 4 rfl) ?_
          refine bGet (v := .ref mN) (T := TX8) (N := 9) (ci := 8) X Y i_X8_hoists_X8 0 rfl rfl 0 (Nat.le_of_ble_eq_true rfl) f_X8_hoists_7 rfl rfl dX8_hoists_85 ?_
          refine lv_iconst (v := 5) hx hb dX8_hoists_88 (by decide) ?_
          refine bIald (v := nw 5) X Y 1 rfl (bInD (by decide)) dX8_hoists_89 rfl ?_
          refine lv_icmp_le (tgt := 115) hx hb dX8_hoists_90 (by decide) (fun c_8 => ?_) (fun c_8 => ?_)
          · have c_8 : (s_size8 (((nw 22) + 1) - (nw 9))) ≤ (nw 5) := c_8
            rw [if_pos c_8] at hu
            refine lv_iconst (v := 0) hx hb dX8_hoists_115 (by decide) ?_
            refine lv_istore (lv' := [(6, .int 0), (5, .int (nw 9)), (4, .int ((nw 22) + 1)), (3, .int (nw 27)), (2, .int (nw 22)), (0, .ref mM), (1, .int 1)]) hx hb dX8_hoists_116 hl (by decide) rfl (fun ls hl => ?_)
            refine lv_iload hx hb dX8_hoists_118 (lv_at hl 0 rfl) ?_
            refine lv_if_ne (tgt := 131) hx hb dX8_hoists_120 (by decide) (fun c_ => absurd (by decide) c_) (fun _ => ?_)
            refine lv_aload_n hx hb dX8_hoists_123 rfl (lv_at hl 5 rfl) ?_
            refine lv_iload_n hx hb dX8_hoists_124 rfl (lv_at hl 6 rfl) ?_
            refine lv_iconst (v := 2) hx hb dX8_hoists_125 (by decide) ?_
            refine lv_iload hx hb dX8_hoists_126 (lv_at hl 2 rfl) ?_
            refine bVV (As := [.int 1, .int 2, .int ((nw 22) + 1)]) (rest := []) (wc := [(mM, .inr (8, [.ref mN, .ref mR, .ref mA, .ref mP, .int ch, .ref mT, .int le, .int sp, .ref mD])), (mN, .inl (cyI, 515, .inl nw))]) (w1 := [(mM, .inr (8, [.ref mN, .ref mR, .ref mA, .ref mP, .int ch, .ref mT, .int le, .int sp, .ref mD])), (mN, .inl (cyI, 515, .inl (upd nw 22 ((nw 22) + 1))))]) (ws' := [(mM, .inr (8, [.ref mN, .ref mR, .ref mA, .ref mP, .int ch, .ref mT, .int le, .int sp, .ref mD])), (mN, .inl (cyI, 515, .inl (upd nw 22 ((nw 22) + 1))))]) (ad := [mM, mN]) (wr := []) (nn := 2) (ci := 8) (q0 := 0) X Y (c_tells8 l D cyC cyI mM mN mR mA mP mT mD ch le sp nw 1 2 ((nw 22) + 1) (upd nw 22 ((nw 22) + 1)) (bTells (i := 22) (by decide) rfl) (bInD (by decide))) gX8_hoists_X8_tells rfl ⟨rfl, rfl⟩ hd_X8_tells ⟨(Nat.le_of_ble_eq_true rfl), (Nat.le_of_ble_eq_true rfl)⟩ rfl rfl rfl [0, 1] [] rfl rfl rfl rfl rfl rfl rfl rfl (by decide) rfl rfl hl.1 (Nat.le_of_ble_eq_true rfl) ⟨Nat.zero_le _, Nat.zero_le _⟩ dX8_hoists_128 (fun H locs Y => ?_)
            have h9 := (Prod.mk.inj hu).1
            subst h9
            exact bEndV X Y hr hlk dX8_hoists_131 rfl
          · have c_8 : ¬ ((s_size8 (((nw 22) + 1) - (nw 9))) ≤ (nw 5)) := c_8
            rw [if_neg c_8] at hu
            refine lv_iload hx hb dX8_hoists_93 (lv_at hl 1 rfl) ?_
            refine lv_iload hx hb dX8_hoists_95 (lv_at hl 0 rfl) ?_
            refine bSub (v := ((nw 22) + 1) - (nw 9)) X dX8_hoists_97 rfl ?_
            refine bSI (As := [.int (((nw 22) + 1) - (nw 9))]) (rest := []) X Y (c_size8 l D cyC cyI (((nw 22) + 1) - (nw 9)) (s_size8 (((nw 22) + 1) - (nw 9))) rfl) gX8_hoists_X8_size rfl ⟨rfl, rfl⟩ hd_X8_size.2 ⟨(Nat.le_of_ble_eq_true rfl), (Nat.le_of_ble_eq_true rfl)⟩ rfl rfl hl.1 (Nat.le_of_ble_eq_true rfl) ⟨Nat.zero_le _, Nat.zero_le _⟩ dX8_hoists_98 (fun H locs Y => ?_)
            refine lv_iload_n hx hb dX8_hoists_101 rfl (lv_at hl 3 rfl) ?_
            refine lv_iload hx hb dX8_hoists_102 (lv_at hl 0 rfl) ?_
            refine bSub (v := (nw 22) - (nw 9)) X dX8_hoists_104 rfl ?_
            refine bSI (As := [.int ((nw 22) - (nw 9))]) (rest := [.int (s_size8 (((nw 22) + 1) - (nw 9)))]) X Y (c_size8 l D cyC cyI ((nw 22) - (nw 9)) (s_size8 ((nw 22) - (nw 9))) rfl) gX8_hoists_X8_size rfl ⟨rfl, rfl⟩ hd_X8_size.2 ⟨(Nat.le_of_ble_eq_true rfl), (Nat.le_of_ble_eq_true rfl)⟩ rfl rfl hl.1 (Nat.le_of_ble_eq_true rfl) ⟨Nat.zero_le _, Nat.zero_le _⟩ dX8_hoists_105 (fun H locs Y => ?_)
            refine lv_icmp_le (tgt := 115) hx hb dX8_hoists_108 (by decide) (fun c_9 => ?_) (fun c_9 => ?_)
            · have c_9 : (s_size8 (((nw 22) + 1) - (nw 9))) ≤ (s_size8 ((nw 22) - (nw 9))) := c_9
              rw [if_pos c_9] at hu
              refine lv_iconst (v := 0) hx hb dX8_hoists_115 (by decide) ?_
              refine lv_istore (lv' := [(6, .int 0), (5, .int (nw 9)), (4, .int ((nw 22) + 1)), (3, .int (nw 27)), (2, .int (nw 22)), (0, .ref mM), (1, .int 1)]) hx hb dX8_hoists_116 hl (by decide) rfl (fun ls hl => ?_)
              refine lv_iload hx hb dX8_hoists_118 (lv_at hl 0 rfl) ?_
              refine lv_if_ne (tgt := 131) hx hb dX8_hoists_120 (by decide) (fun c_ => absurd (by decide) c_) (fun _ => ?_)
              refine lv_aload_n hx hb dX8_hoists_123 rfl (lv_at hl 5 rfl) ?_
              refine lv_iload_n hx hb dX8_hoists_124 rfl (lv_at hl 6 rfl) ?_
              refine lv_iconst (v := 2) hx hb dX8_hoists_125 (by decide) ?_
              refine lv_iload hx hb dX8_hoists_126 (lv_at hl 2 rfl) ?_
              refine bVV (As := [.int 1, .int 2, .int ((nw 22) + 1)]) (rest := []) (wc := [(mM, .inr (8, [.ref mN, .ref mR, .ref mA, .ref mP, .int ch, .ref mT, .int le, .int sp, .ref mD])), (mN, .inl (cyI, 515, .inl nw))]) (w1 := [(mM, .inr (8, [.ref mN, .ref mR, .ref mA, .ref mP, .int ch, .ref mT, .int le, .int sp, .ref mD])), (mN, .inl (cyI, 515, .inl (upd nw 22 ((nw 22) + 1))))]) (ws' := [(mM, .inr (8, [.ref mN, .ref mR, .ref mA, .ref mP, .int ch, .ref mT, .int le, .int sp, .ref mD])), (mN, .inl (cyI, 515, .inl (upd nw 22 ((nw 22) + 1))))]) (ad := [mM, mN]) (wr := []) (nn := 2) (ci := 8) (q0 := 0) X Y (c_tells8 l D cyC cyI mM mN mR mA mP mT mD ch le sp nw 1 2 ((nw 22) + 1) (upd nw 22 ((nw 22) + 1)) (bTells (i := 22) (by decide) rfl) (bInD (by decide))) gX8_hoists_X8_tells rfl ⟨rfl, rfl⟩ hd_X8_tells ⟨(Nat.le_of_ble_eq_true rfl), (Nat.le_of_ble_eq_true rfl)⟩ rfl rfl rfl [0, 1] [] rfl rfl rfl rfl rfl rfl rfl rfl (by decide) rfl rfl hl.1 (Nat.le_of_ble_eq_true rfl) ⟨Nat.zero_le _, Nat.zero_le _⟩ dX8_hoists_128 (fun H locs Y => ?_)
              have h9 := (Prod.mk.inj hu).1
              subst h9
              exact bEndV X Y hr hlk dX8_hoists_131 rfl
            · have c_9 : ¬ ((s_size8 (((nw 22) + 1) - (nw 9))) ≤ (s_size8 ((nw 22) - (nw 9)))) := c_9
              rw [if_neg c_9] at hu
              refine lv_iconst (v := 1) hx hb dX8_hoists_111 (by decide) ?_
              refine lv_goto (tgt := 116) hx hb dX8_hoists_112 (by decide) ?_
              refine lv_istore (lv' := [(6, .int 1), (5, .int (nw 9)), (4, .int ((nw 22) + 1)), (3, .int (nw 27)), (2, .int (nw 22)), (0, .ref mM), (1, .int 1)]) hx hb dX8_hoists_116 hl (by decide) rfl (fun ls hl => ?_)
              refine lv_iload hx hb dX8_hoists_118 (lv_at hl 0 rfl) ?_
              refine lv_if_ne (tgt := 131) hx hb dX8_hoists_120 (by decide) (fun _ => ?_) (fun c_ => absurd c_ (by decide))
              have h9 := (Prod.mk.inj hu).1
              subst h9
              exact bEndV X Y hr hlk dX8_hoists_131 rfl
    · have c_2 : ¬ ((s_size8 (nw 21)) ≤ (nw 4)) := c_2
      rw [if_neg c_2] at hu
      have h9 := (Prod.mk.inj hu).1
      subst h9
      exact bEndV X Y hr hlk dX8_hoists_38 rfl
theorem stK_0 {nw A : Nat → Int32} (h : s_stepsCome8_0 nw = (A, ())) (i : Nat) (h1 : i < 13 ∨ i = 14 ∨ 19 < i) : A i = nw i := by
  have e : A = (s_stepsCome8_0 nw).1 := by rw [h]
  subst e
  unfold s_stepsCome8_0 s_stepsCome8_00 s_stepsCome8_01 s_stepsCome8_02
  repeat' split
  all_goals (dsimp only; simp only [upd]; repeat rw [if_neg (by omega)])
theorem goK_0 {nw A : Nat → Int32} {v : Int32} (h : s_goes8_0 nw v = (A, ())) (i : Nat) (h1 : i ≠ 7) (h2 : i ≠ 8) (h3 : i ≠ 11) (h4 : i ≠ 12) : A i = nw i := by
  have e : A = (s_goes8_0 nw v).1 := by rw [h]
  subst e
  unfold s_goes8_0
  dsimp only; simp only [upd]; repeat rw [if_neg (by omega)]
theorem stK_1 {nw A : Nat → Int32} (h : s_stepsCome8_1 nw = (A, ())) (i : Nat) (h1 : i < 26 ∨ i = 27 ∨ 32 < i) : A i = nw i := by
  have e : A = (s_stepsCome8_1 nw).1 := by rw [h]
  subst e
  unfold s_stepsCome8_1 s_stepsCome8_10 s_stepsCome8_11 s_stepsCome8_12
  repeat' split
  all_goals (dsimp only; simp only [upd]; repeat rw [if_neg (by omega)])
theorem goK_1 {nw A : Nat → Int32} {v : Int32} (h : s_goes8_1 nw v = (A, ())) (i : Nat) (h1 : i ≠ 20) (h2 : i ≠ 21) (h3 : i ≠ 24) (h4 : i ≠ 25) : A i = nw i := by
  have e : A = (s_goes8_1 nw v).1 := by rw [h]
  subst e
  unfold s_goes8_1
  dsimp only; simp only [upd]; repeat rw [if_neg (by omega)]
theorem i_X8_goesBy_X8 : ∀ w ∈ wsX80, w ∈ wsX8_goesBy := by decide +kernel
theorem f_X8_goesBy_7 : Cond.fieldLink RX8 7 "SwingCranesModel" "now" "[I" ∈ wsX8_goesBy := by decide +kernel
theorem hd_X8_stepsCome : bD1 yX8_stepsCome RX8 1 := by decide +kernel
theorem hd_X8_wanted : bD1 yX8_wanted RX8 1 := by decide +kernel
theorem hd_X8_braked : bD1 yX8_braked RX8 2 := by decide +kernel
theorem hd_X8_goes : bD1 yX8_goes RX8 2 := by decide +kernel
theorem hd_X8_hoists : bD1 yX8_hoists RX8 1 := by decide +kernel
def s_goesBy8 (nw : Nat → Int32) : Int32 × (Nat → Int32) :=
  match s_stepsCome8_0 (upd nw 6 ((nw 6) + 1)) with
  | (u_1_0, _) =>
    match s_stepsCome8_1 u_1_0 with
    | (u_2_0, _) =>
      match s_goes8_0 u_2_0 (s_braked8_0 u_2_0 (s_wanted8_0 u_2_0)) with
      | (u_3_0, _) =>
        match s_goes8_1 u_3_0 (s_braked8_1 u_2_0 (s_wanted8_1 u_2_0)) with
        | (u_4_0, _) =>
          match s_hoists8_0 u_4_0 with
          | (u_5_0, _) =>
            match s_hoists8_1 u_5_0 with
            | (u_6_0, _) =>
              if (s_braked8_0 u_2_0 (s_wanted8_0 u_2_0)) = (s_wanted8_0 u_2_0) then
                if (s_braked8_1 u_2_0 (s_wanted8_1 u_2_0)) = (s_wanted8_1 u_2_0) then
                  (0, u_6_0)
                else
                  (2, u_6_0)
              else
                if (s_braked8_1 u_2_0 (s_wanted8_1 u_2_0)) = (s_wanted8_1 u_2_0) then
                  (1, u_6_0)
                else
                  (3, u_6_0)
set_option maxHeartbeats 4000000 in
set_option maxRecDepth 100000 in
theorem c_goesBy8 (l : Launch) (D : va_G) (cyC cyI : ClassId) (mM : Nat) (mN : Nat) (mR : Nat) (mA : Nat) (mP : Nat) (mT : Nat) (mD : Nat) (ch : Int32) (le : Int32) (sp : Int32) (nw : Nat → Int32) (o0 : Int32) (o1 : Nat → Int32) (hu : s_goesBy8 nw = (o0, o1)) (hc1 : 1 ≤ nw 2) (hs0 : nw 15 = 0 ∨ nw 15 = 1 ∨ nw 15 = 2) (hs1 : nw 28 = 0 ∨ nw 28 = 1 ∨ nw 28 = 2) (hr0 : ¬ nw 9 = 0) (hr1 : ¬ nw 22 = 0) : CI l yX8_goesBy wsX8_goesBy { frames := 4, cells := 0, slots := 0, locals := 88 } D cyC cyI [.ref mM] [(mM, .inr (8, [.ref mN, .ref mR, .ref mA, .ref mP, .int ch, .ref mT, .int le, .int sp, .ref mD])), (mN, .inl (cyI, 515, .inl nw))] o0 [(mM, .inr (8, [.ref mN, .ref mR, .ref mA, .ref mP, .int ch, .ref mT, .int le, .int sp, .ref mD])), (mN, .inl (cyI, 515, .inl o1))] := by
  refine CI.of (cc := cX8_goesBy) (n := 5) (ret := (some .int)) (by decide +kernel) rfl (Nat.le_of_ble_eq_true rfl) ?_
  intro p_ e_ s_ m_ bl_ me_ cd_ A_ ls X Y hr hlk hl
  have hx := X.1.1
  have hb := X.1.2.1
  have hl : lv_has ls 5 [(0, .ref mM)] := hl
  unfold s_goesBy8 at hu
  refine lv_aload_n hx hb dX8_goesBy_0 rfl (lv_at hl 0 rfl) ?_
  refine bGet (v := .ref mN) (T := TX8) (N := 9) (ci := 8) X Y i_X8_goesBy_X8 0 rfl rfl 0 (Nat.le_of_ble_eq_true rfl) f_X8_goesBy_7 rfl rfl dX8_goesBy_1 ?_
  refine lv_bipush (v := 6) hx hb dX8_goesBy_4 (by decide) ?_
  refine lv_dup2_11 hx hb dX8_goesBy_6 rfl rfl ?_
  refine bIald (v := nw 6) X Y 1 rfl (bInD (by decide)) dX8_goesBy_7 rfl ?_
  refine lv_iconst (v := 1) hx hb dX8_goesBy_8 (by decide) ?_
  refine bAdd (v := (nw 6) + 1) X dX8_goesBy_9 rfl ?_
  refine bIast (f' := upd nw 6 ((nw 6) + 1)) (ws' := [(mM, .inr (8, [.ref mN, .ref mR, .ref mA, .ref mP, .int ch, .ref mT, .int le, .int sp, .ref mD])), (mN, .inl (cyI, 515, .inl (upd nw 6 ((nw 6) + 1))))]) X Y 1 rfl (bInD (by decide)) rfl rfl dX8_goesBy_10 (fun H locs Y => ?_)
  refine lv_aload_n hx hb dX8_goesBy_11 rfl (lv_at hl 0 rfl) ?_
  refine lv_iconst (v := 0) hx hb dX8_goesBy_12 (by decide) ?_
  obtain ⟨u_1_0, hr_1⟩ := bEx1 (s_stepsCome8_0 (upd nw 6 ((nw 6) + 1)))
  rw [hr_1] at hu
  dsimp only at hu
  have stK_0_1 := stK_0 hr_1
  refine bVV (As := [.int 0]) (rest := []) (wc := [(mM, .inr (8, [.ref mN, .ref mR, .ref mA, .ref mP, .int ch, .ref mT, .int le, .int sp, .ref mD])), (mN, .inl (cyI, 515, .inl (upd nw 6 ((nw 6) + 1))))]) (w1 := [(mM, .inr (8, [.ref mN, .ref mR, .ref mA, .ref mP, .int ch, .ref mT, .int le, .int sp, .ref mD])), (mN, .inl (cyI, 515, .inl u_1_0))]) (ws' := [(mM, .inr (8, [.ref mN, .ref mR, .ref mA, .ref mP, .int ch, .ref mT, .int le, .int sp, .ref mD])), (mN, .inl (cyI, 515, .inl u_1_0))]) (ad := [mM, mN]) (wr := []) (nn := 2) (ci := 8) (q0 := 0) X Y (c_stepsCome8_0 l D cyC cyI mM mN mR mA mP mT mD ch le sp (upd nw 6 ((nw 6) + 1)) u_1_0 hr_1 hs0) gX8_goesBy_X8_stepsCome rfl ⟨rfl, rfl⟩ hd_X8_stepsCome ⟨(Nat.le_of_ble_eq_true rfl), (Nat.le_of_ble_eq_true rfl)⟩ rfl rfl rfl [0, 1] [] rfl rfl rfl rfl rfl rfl rfl rfl (by decide) rfl rfl hl.1 (Nat.le_of_ble_eq_true rfl) ⟨Nat.zero_le _, Nat.zero_le _⟩ dX8_goesBy_13 (fun H locs Y => ?_)
  refine lv_aload_n hx hb dX8_goesBy_16 rfl (lv_at hl 0 rfl) ?_
  refine lv_iconst (v := 1) hx hb dX8_goesBy_17 (by decide) ?_
  obtain ⟨u_2_0, hr_2⟩ := bEx1 (s_stepsCome8_1 u_1_0)
  rw [hr_2] at hu
  dsimp only at hu
  have stK_1_2 := stK_1 hr_2
  refine bVV (As := [.int 1]) (rest := []) (wc := [(mM, .inr (8, [.ref mN, .ref mR, .ref mA, .ref mP, .int ch, .ref mT, .int le, .int sp, .ref mD])), (mN, .inl (cyI, 515, .inl u_1_0))]) (w1 := [(mM, .inr (8, [.ref mN, .ref mR, .ref mA, .ref mP, .int ch, .ref mT, .int le, .int sp, .ref mD])), (mN, .inl (cyI, 515, .inl u_2_0))]) (ws' := [(mM, .inr (8, [.ref mN, .ref mR, .ref mA, .ref mP, .int ch, .ref mT, .int le, .int sp, .ref mD])), (mN, .inl (cyI, 515, .inl u_2_0))]) (ad := [mM, mN]) (wr := []) (nn := 2) (ci := 8) (q0 := 0) X Y (c_stepsCome8_1 l D cyC cyI mM mN mR mA mP mT mD ch le sp u_1_0 u_2_0 hr_2 (by rw [stK_0_1 28 (by omega)]; exact hs1)) gX8_goesBy_X8_stepsCome rfl ⟨rfl, rfl⟩ hd_X8_stepsCome ⟨(Nat.le_of_ble_eq_true rfl), (Nat.le_of_ble_eq_true rfl)⟩ rfl rfl rfl [0, 1] [] rfl rfl rfl rfl rfl rfl rfl rfl (by decide) rfl rfl hl.1 (Nat.le_of_ble_eq_true rfl) ⟨Nat.zero_le _, Nat.zero_le _⟩ dX8_goesBy_18 (fun H locs Y => ?_)
  refine lv_aload_n hx hb dX8_goesBy_21 rfl (lv_at hl 0 rfl) ?_
  refine lv_iconst (v := 0) hx hb dX8_goesBy_22 (by decide) ?_
  refine bVI0 (As := [.int 0]) (rest := []) (wc := [(mM, .inr (8, [.ref mN, .ref mR, .ref mA, .ref mP, .int ch, .ref mT, .int le, .int sp, .ref mD])), (mN, .inl (cyI, 515, .inl u_2_0))]) (ci := 8) (q0 := 0) X Y (c_wanted8_0 l D cyC cyI mM mN mR mA mP mT mD ch le sp u_2_0 (s_wanted8_0 u_2_0) rfl) gX8_goesBy_X8_wanted rfl ⟨rfl, rfl⟩ hd_X8_wanted ⟨(Nat.le_of_ble_eq_true rfl), (Nat.le_of_ble_eq_true rfl)⟩ rfl rfl rfl [0, 1] rfl rfl rfl rfl hl.1 (Nat.le_of_ble_eq_true rfl) ⟨Nat.zero_le _, Nat.zero_le _⟩ dX8_goesBy_23 (fun H locs Y => ?_)
  refine lv_istore_n (lv' := [(1, .int (s_wanted8_0 u_2_0)), (0, .ref mM)]) hx hb dX8_goesBy_26 rfl hl (by decide) rfl (fun ls hl => ?_)
  refine lv_aload_n hx hb dX8_goesBy_27 rfl (lv_at hl 1 rfl) ?_
  refine lv_iconst (v := 1) hx hb dX8_goesBy_28 (by decide) ?_
  refine bVI0 (As := [.int 1]) (rest := []) (wc := [(mM, .inr (8, [.ref mN, .ref mR, .ref mA, .ref mP, .int ch, .ref mT, .int le, .int sp, .ref mD])), (mN, .inl (cyI, 515, .inl u_2_0))]) (ci := 8) (q0 := 0) X Y (c_wanted8_1 l D cyC cyI mM mN mR mA mP mT mD ch le sp u_2_0 (s_wanted8_1 u_2_0) rfl) gX8_goesBy_X8_wanted rfl ⟨rfl, rfl⟩ hd_X8_wanted ⟨(Nat.le_of_ble_eq_true rfl), (Nat.le_of_ble_eq_true rfl)⟩ rfl rfl rfl [0, 1] rfl rfl rfl rfl hl.1 (Nat.le_of_ble_eq_true rfl) ⟨Nat.zero_le _, Nat.zero_le _⟩ dX8_goesBy_29 (fun H locs Y => ?_)
  refine lv_istore_n (lv' := [(2, .int (s_wanted8_1 u_2_0)), (1, .int (s_wanted8_0 u_2_0)), (0, .ref mM)]) hx hb dX8_goesBy_32 rfl hl (by decide) rfl (fun ls hl => ?_)
  refine lv_aload_n hx hb dX8_goesBy_33 rfl (lv_at hl 2 rfl) ?_
  refine lv_iconst (v := 0) hx hb dX8_goesBy_34 (by decide) ?_
  refine lv_iload_n hx hb dX8_goesBy_35 rfl (lv_at hl 1 rfl) ?_
  refine bVI0 (As := [.int 0, .int (s_wanted8_0 u_2_0)]) (rest := []) (wc := [(mM, .inr (8, [.ref mN, .ref mR, .ref mA, .ref mP, .int ch, .ref mT, .int le, .int sp, .ref mD])), (mN, .inl (cyI, 515, .inl u_2_0))]) (ci := 8) (q0 := 0) X Y (c_braked8_0 l D cyC cyI mM mN mR mA mP mT mD ch le sp u_2_0 (s_wanted8_0 u_2_0) (s_braked8_0 u_2_0 (s_wanted8_0 u_2_0)) rfl (by rw [stK_1_2 2 (by omega), stK_0_1 2 (by omega)]; exact hc1)) gX8_goesBy_X8_braked rfl ⟨rfl, rfl⟩ hd_X8_braked ⟨(Nat.le_of_ble_eq_true rfl), (Nat.le_of_ble_eq_true rfl)⟩ rfl rfl rfl [0, 1] rfl rfl rfl rfl hl.1 (Nat.le_of_ble_eq_true rfl) ⟨Nat.zero_le _, Nat.zero_le _⟩ dX8_goesBy_36 (fun H locs Y => ?_)
  refine lv_istore_n (lv' := [(3, .int (s_braked8_0 u_2_0 (s_wanted8_0 u_2_0))), (2, .int (s_wanted8_1 u_2_0)), (1, .int (s_wanted8_0 u_2_0)), (0, .ref mM)]) hx hb dX8_goesBy_39 rfl hl (by decide) rfl (fun ls hl => ?_)
  refine lv_aload_n hx hb dX8_goesBy_40 rfl (lv_at hl 3 rfl) ?_
  refine lv_iconst (v := 1) hx hb dX8_goesBy_41 (by decide) ?_
  refine lv_iload_n hx hb dX8_goesBy_42 rfl (lv_at hl 1 rfl) ?_
  refine bVI0 (As := [.int 1, .int (s_wanted8_1 u_2_0)]) (rest := []) (wc := [(mM, .inr (8, [.ref mN, .ref mR, .ref mA, .ref mP, .int ch, .ref mT, .int le, .int sp, .ref mD])), (mN, .inl (cyI, 515, .inl u_2_0))]) (ci := 8) (q0 := 0) X Y (c_braked8_1 l D cyC cyI mM mN mR mA mP mT mD ch le sp u_2_0 (s_wanted8_1 u_2_0) (s_braked8_1 u_2_0 (s_wanted8_1 u_2_0)) rfl (by rw [stK_1_2 2 (by omega), stK_0_1 2 (by omega)]; exact hc1)) gX8_goesBy_X8_braked rfl ⟨rfl, rfl⟩ hd_X8_braked ⟨(Nat.le_of_ble_eq_true rfl), (Nat.le_of_ble_eq_true rfl)⟩ rfl rfl rfl [0, 1] rfl rfl rfl rfl hl.1 (Nat.le_of_ble_eq_true rfl) ⟨Nat.zero_le _, Nat.zero_le _⟩ dX8_goesBy_43 (fun H locs Y => ?_)
  refine lv_istore (lv' := [(4, .int (s_braked8_1 u_2_0 (s_wanted8_1 u_2_0))), (3, .int (s_braked8_0 u_2_0 (s_wanted8_0 u_2_0))), (2, .int (s_wanted8_1 u_2_0)), (1, .int (s_wanted8_0 u_2_0)), (0, .ref mM)]) hx hb dX8_goesBy_46 hl (by decide) rfl (fun ls hl => ?_)
  refine lv_aload_n hx hb dX8_goesBy_48 rfl (lv_at hl 4 rfl) ?_
  refine lv_iconst (v := 0) hx hb dX8_goesBy_49 (by decide) ?_
  refine lv_iload_n hx hb dX8_goesBy_50 rfl (lv_at hl 1 rfl) ?_
  obtain ⟨u_3_0, hr_3⟩ := bEx1 (s_goes8_0 u_2_0 (s_braked8_0 u_2_0 (s_wanted8_0 u_2_0)))
  rw [hr_3] at hu
  dsimp only at hu
  have goK_0_3 := goK_0 hr_3
  refine bVV (As := [.int 0, .int (s_braked8_0 u_2_0 (s_wanted8_0 u_2_0))]) (rest := []) (wc := [(mM, .inr (8, [.ref mN, .ref mR, .ref mA, .ref mP, .int ch, .ref mT, .int le, .int sp, .ref mD])), (mN, .inl (cyI, 515, .inl u_2_0))]) (w1 := [(mM, .inr (8, [.ref mN, .ref mR, .ref mA, .ref mP, .int ch, .ref mT, .int le, .int sp, .ref mD])), (mN, .inl (cyI, 515, .inl u_3_0))]) (ws' := [(mM, .inr (8, [.ref mN, .ref mR, .ref mA, .ref mP, .int ch, .ref mT, .int le, .int sp, .ref mD])), (mN, .inl (cyI, 515, .inl u_3_0))]) (ad := [mM, mN]) (wr := []) (nn := 2) (ci := 8) (q0 := 0) X Y (c_goes8_0 l D cyC cyI mM mN mR mA mP mT mD ch le sp u_2_0 (s_braked8_0 u_2_0 (s_wanted8_0 u_2_0)) u_3_0 hr_3 (by rw [stK_1_2 9 (by omega), stK_0_1 9 (by omega)]; exact hr0)) gX8_goesBy_X8_goes rfl ⟨rfl, rfl⟩ hd_X8_goes ⟨(Nat.le_of_ble_eq_true rfl), (Nat.le_of_ble_eq_true rfl)⟩ rfl rfl rfl [0, 1] [] rfl rfl rfl rfl rfl rfl rfl rfl (by decide) rfl rfl hl.1 (Nat.le_of_ble_eq_true rfl) ⟨Nat.zero_le _, Nat.zero_le _⟩ dX8_goesBy_51 (fun H locs Y => ?_)
  refine lv_aload_n hx hb dX8_goesBy_54 rfl (lv_at hl 4 rfl) ?_
  refine lv_iconst (v := 1) hx hb dX8_goesBy_55 (by decide) ?_
  refine lv_iload hx hb dX8_goesBy_56 (lv_at hl 0 rfl) ?_
  obtain ⟨u_4_0, hr_4⟩ := bEx1 (s_goes8_1 u_3_0 (s_braked8_1 u_2_0 (s_wanted8_1 u_2_0)))
  rw [hr_4] at hu
  dsimp only at hu
  have goK_1_4 := goK_1 hr_4
  refine bVV (As := [.int 1, .int (s_braked8_1 u_2_0 (s_wanted8_1 u_2_0))]) (rest := []) (wc := [(mM, .inr (8, [.ref mN, .ref mR, .ref mA, .ref mP, .int ch, .ref mT, .int le, .int sp, .ref mD])), (mN, .inl (cyI, 515, .inl u_3_0))]) (w1 := [(mM, .inr (8, [.ref mN, .ref mR, .ref mA, .ref mP, .int ch, .ref mT, .int le, .int sp, .ref mD])), (mN, .inl (cyI, 515, .inl u_4_0))]) (ws' := [(mM, .inr (8, [.ref mN, .ref mR, .ref mA, .ref mP, .int ch, .ref mT, .int le, .int sp, .ref mD])), (mN, .inl (cyI, 515, .inl u_4_0))]) (ad := [mM, mN]) (wr := []) (nn := 2) (ci := 8) (q0 := 0) X Y (c_goes8_1 l D cyC cyI mM mN mR mA mP mT mD ch le sp u_3_0 (s_braked8_1 u_2_0 (s_wanted8_1 u_2_0)) u_4_0 hr_4 (by rw [goK_0_3 22 (by omega) (by omega) (by omega) (by omega), stK_1_2 22 (by omega), stK_0_1 22 (by omega)]; exact hr1)) gX8_goesBy_X8_goes rfl ⟨rfl, rfl⟩ hd_X8_goes ⟨(Nat.le_of_ble_eq_true rfl), (Nat.le_of_ble_eq_true rfl)⟩ rfl rfl rfl [0, 1] [] rfl rfl rfl rfl rfl rfl rfl rfl (by decide) rfl rfl hl.1 (Nat.le_of_ble_eq_true rfl) ⟨Nat.zero_le _, Nat.zero_le _⟩ dX8_goesBy_58 (fun H locs Y => ?_)
  refine lv_aload_n hx hb dX8_goesBy_61 rfl (lv_at hl 4 rfl) ?_
  refine lv_iconst (v := 0) hx hb dX8_goesBy_62 (by decide) ?_
  obtain ⟨u_5_0, hr_5⟩ := bEx1 (s_hoists8_0 u_4_0)
  rw [hr_5] at hu
  dsimp only at hu
  refine bVV (As := [.int 0]) (rest := []) (wc := [(mM, .inr (8, [.ref mN, .ref mR, .ref mA, .ref mP, .int ch, .ref mT, .int le, .int sp, .ref mD])), (mN, .inl (cyI, 515, .inl u_4_0))]) (w1 := [(mM, .inr (8, [.ref mN, .ref mR, .ref mA, .ref mP, .int ch, .ref mT, .int le, .int sp, .ref mD])), (mN, .inl (cyI, 515, .inl u_5_0))]) (ws' := [(mM, .inr (8, [.ref mN, .ref mR, .ref mA, .ref mP, .int ch, .ref mT, .int le, .int sp, .ref mD])), (mN, .inl (cyI, 515, .inl u_5_0))]) (ad := [mM, mN]) (wr := []) (nn := 2) (ci := 8) (q0 := 0) X Y (c_hoists8_0 l D cyC cyI mM mN mR mA mP mT mD ch le sp u_4_0 u_5_0 hr_5) gX8_goesBy_X8_hoists rfl ⟨rfl, rfl⟩ hd_X8_hoists ⟨(Nat.le_of_ble_eq_true rfl), (Nat.le_of_ble_eq_true rfl)⟩ rfl rfl rfl [0, 1] [] rfl rfl rfl rfl rfl rfl rfl rfl (by decide) rfl rfl hl.1 (Nat.le_of_ble_eq_true rfl) ⟨Nat.zero_le _, Nat.zero_le _⟩ dX8_goesBy_63 (fun H locs Y => ?_)
  refine lv_aload_n hx hb dX8_goesBy_66 rfl (lv_at hl 4 rfl) ?_
  refine lv_iconst (v := 1) hx hb dX8_goesBy_67 (by decide) ?_
  obtain ⟨u_6_0, hr_6⟩ := bEx1 (s_hoists8_1 u_5_0)
  rw [hr_6] at hu
  dsimp only at hu
  refine bVV (As := [.int 1]) (rest := []) (wc := [(mM, .inr (8, [.ref mN, .ref mR, .ref mA, .ref mP, .int ch, .ref mT, .int le, .int sp, .ref mD])), (mN, .inl (cyI, 515, .inl u_5_0))]) (w1 := [(mM, .inr (8, [.ref mN, .ref mR, .ref mA, .ref mP, .int ch, .ref mT, .int le, .int sp, .ref mD])), (mN, .inl (cyI, 515, .inl u_6_0))]) (ws' := [(mM, .inr (8, [.ref mN, .ref mR, .ref mA, .ref mP, .int ch, .ref mT, .int le, .int sp, .ref mD])), (mN, .inl (cyI, 515, .inl u_6_0))]) (ad := [mM, mN]) (wr := []) (nn := 2) (ci := 8) (q0 := 0) X Y (c_hoists8_1 l D cyC cyI mM mN mR mA mP mT mD ch le sp u_5_0 u_6_0 hr_6) gX8_goesBy_X8_hoists rfl ⟨rfl, rfl⟩ hd_X8_hoists ⟨(Nat.le_of_ble_eq_true rfl), (Nat.le_of_ble_eq_true rfl)⟩ rfl rfl rfl [0, 1] [] rfl rfl rfl rfl rfl rfl rfl rfl (by decide) rfl rfl hl.1 (Nat.le_of_ble_eq_true rfl) ⟨Nat.zero_le _, Nat.zero_le _⟩ dX8_goesBy_68 (fun H locs Y => ?_)
  refine lv_iload_n hx hb dX8_goesBy_71 rfl (lv_at hl 1 rfl) ?_
  refine lv_iload_n hx hb dX8_goesBy_72 rfl (lv_at hl 3 rfl) ?_
  refine lv_icmp_eq (tgt := 80) hx hb dX8_goesBy_73 (by decide) (fun c_7 => ?_) (fun c_7 => ?_)
  · have c_7 : (s_braked8_0 u_2_0 (s_wanted8_0 u_2_0)) = (s_wanted8_0 u_2_0) := c_7
    rw [if_pos c_7] at hu
    refine lv_iconst (v := 0) hx hb dX8_goesBy_80 (by decide) ?_
    refine lv_iload hx hb dX8_goesBy_81 (lv_at hl 0 rfl) ?_
    refine lv_iload_n hx hb dX8_goesBy_83 rfl (lv_at hl 2 rfl) ?_
    refine lv_icmp_eq (tgt := 91) hx hb dX8_goesBy_84 (by decide) (fun c_8 => ?_) (fun c_8 => ?_)
    · have c_8 : (s_braked8_1 u_2_0 (s_wanted8_1 u_2_0)) = (s_wanted8_1 u_2_0) := c_8
      rw [if_pos c_8] at hu
      refine lv_iconst (v := 0) hx hb dX8_goesBy_91 (by decide) ?_
      refine bAdd (v := 0) X dX8_goesBy_92 (by decide) ?_
      have h9 := (Prod.mk.inj hu).1; replace hu := (Prod.mk.inj hu).2; subst h9
      subst hu
      exact bEndI X Y hr hlk dX8_goesBy_93 rfl rfl
    · have c_8 : ¬ ((s_braked8_1 u_2_0 (s_wanted8_1 u_2_0)) = (s_wanted8_1 u_2_0)) := c_8
      rw [if_neg c_8] at hu
      refine lv_iconst (v := 2) hx hb dX8_goesBy_87 (by decide) ?_
      refine lv_goto (tgt := 92) hx hb dX8_goesBy_88 (by decide) ?_
      refine bAdd (v := 2) X dX8_goesBy_92 (by decide) ?_
      have h9 := (Prod.mk.inj hu).1; replace hu := (Prod.mk.inj hu).2; subst h9
      subst hu
      exact bEndI X Y hr hlk dX8_goesBy_93 rfl rfl
  · have c_7 : ¬ ((s_braked8_0 u_2_0 (s_wanted8_0 u_2_0)) = (s_wanted8_0 u_2_0)) := c_7
    rw [if_neg c_7] at hu
    refine lv_iconst (v := 1) hx hb dX8_goesBy_76 (by decide) ?_
    refine lv_goto (tgt := 81) hx hb dX8_goesBy_77 (by decide) ?_
    refine lv_iload hx hb dX8_goesBy_81 (lv_at hl 0 rfl) ?_
    refine lv_iload_n hx hb dX8_goesBy_83 rfl (lv_at hl 2 rfl) ?_
    refine lv_icmp_eq (tgt := 91) hx hb dX8_goesBy_84 (by decide) (fun c_9 => ?_) (fun c_9 => ?_)
    · have c_9 : (s_braked8_1 u_2_0 (s_wanted8_1 u_2_0)) = (s_wanted8_1 u_2_0) := c_9
      rw [if_pos c_9] at hu
      refine lv_iconst (v := 0) hx hb dX8_goesBy_91 (by decide) ?_
      refine bAdd (v := 1) X dX8_goesBy_92 (by decide) ?_
      have h9 := (Prod.mk.inj hu).1; replace hu := (Prod.mk.inj hu).2; subst h9
      subst hu
      exact bEndI X Y hr hlk dX8_goesBy_93 rfl rfl
    · have c_9 : ¬ ((s_braked8_1 u_2_0 (s_wanted8_1 u_2_0)) = (s_wanted8_1 u_2_0)) := c_9
      rw [if_neg c_9] at hu
      refine lv_iconst (v := 2) hx hb dX8_goesBy_87 (by decide) ?_
      refine lv_goto (tgt := 92) hx hb dX8_goesBy_88 (by decide) ?_
      refine bAdd (v := 3) X dX8_goesBy_92 (by decide) ?_
      have h9 := (Prod.mk.inj hu).1; replace hu := (Prod.mk.inj hu).2; subst h9
      subst hu
      exact bEndI X Y hr hlk dX8_goesBy_93 rfl rfl
