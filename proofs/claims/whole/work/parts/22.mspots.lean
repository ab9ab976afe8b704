def s_spotCode8_0 (nw : Nat → Int32) : Int32 :=
  (100 * ((nw 7) / 50)) + ((nw 9) / 10)
set_option maxHeartbeats 4000000 in
set_option maxRecDepth 100000 in
theorem c_spotCode8_0 (l : Launch) (D : va_G) (cyC cyI : ClassId) (mM : Nat) (mN : Nat) (mR : Nat) (mA : Nat) (mP : Nat) (mT : Nat) (mD : Nat) (ch : Int32) (le : Int32) (sp : Int32) (nw : Nat → Int32) (o0 : Int32) (hu : s_spotCode8_0 nw = o0) : CI l yX8_spotCode wsX8_spotCode { frames := 1, cells := 0, slots := 0, locals := 22 } D cyC cyI [.ref mM, .int 0] [(mM, .inr (8, [.ref mN, .ref mR, .ref mA, .ref mP, .int ch, .ref mT, .int le, .int sp, .ref mD])), (mN, .inl (cyI, 515, .inl nw))] o0 [(mM, .inr (8, [.ref mN, .ref mR, .ref mA, .ref mP, .int ch, .ref mT, .int le, .int sp, .ref mD])), (mN, .inl (cyI, 515, .inl nw))] := by
  refine CI.of (cc := cX8_spotCode) (n := 2) (ret := (some .int)) (by decide +kernel) rfl (Nat.le_of_ble_eq_true rfl) ?_
  intro p_ e_ s_ m_ bl_ me_ cd_ A_ ls X Y hr hlk hl
  have hx := X.1.1
  have hb := X.1.2.1
  have hl : lv_has ls 2 [(0, .ref mM), (1, .int 0)] := hl
  unfold s_spotCode8_0 at hu
  refine lv_bipush (v := 100) hx hb dX8_spotCode_0 (by decide) ?_
  refine lv_aload_n hx hb dX8_spotCode_2 rfl (lv_at hl 0 rfl) ?_
  refine lv_iload_n hx hb dX8_spotCode_3 rfl (lv_at hl 1 rfl) ?_
  refine lv_iconst (v := 0) hx hb dX8_spotCode_4 (by decide) ?_
  refine bVI0 (As := [.int 0, .int 0]) (rest := [.int 100]) (wc := [(mM, .inr (8, [.ref mN, .ref mR, .ref mA, .ref mP, .int ch, .ref mT, .int le, .int sp, .ref mD])), (mN, .inl (cyI, 515, .inl nw))]) (ci := 8) (q0 := 0) X Y (c_of8 l D cyC cyI mM mN mR mA mP mT mD ch le sp nw 0 0 (nw 7) (bOf (i := 7) (by decide) rfl) (bInD (by decide))) gX8_spotCode_X8_of rfl ⟨rfl, rfl⟩ hd_X8_of ⟨(Nat.le_of_ble_eq_true rfl), (Nat.le_of_ble_eq_true rfl)⟩ rfl rfl rfl [0, 1] rfl rfl rfl rfl hl.1 (Nat.le_of_ble_eq_true rfl) ⟨Nat.zero_le _, Nat.zero_le _⟩ dX8_spotCode_5 (fun H locs Y => ?_)
  refine lv_bipush (v := 50) hx hb dX8_spotCode_8 (by decide) ?_
  refine bDiv (v := (nw 7) / 50) X dX8_spotCode_10 (by decide) rfl ?_
  refine bMul (v := 100 * ((nw 7) / 50)) X dX8_spotCode_11 rfl ?_
  refine lv_aload_n hx hb dX8_spotCode_12 rfl (lv_at hl 0 rfl) ?_
  refine lv_iload_n hx hb dX8_spotCode_13 rfl (lv_at hl 1 rfl) ?_
  refine lv_iconst (v := 2) hx hb dX8_spotCode_14 (by decide) ?_
  refine bVI0 (As := [.int 0, .int 2]) (rest := [.int (100 * ((nw 7) / 50))]) (wc := [(mM, .inr (8, [.ref mN, .ref mR, .ref mA, .ref mP, .int ch, .ref mT, .int le, .int sp, .ref mD])), (mN, .inl (cyI, 515, .inl nw))]) (ci := 8) (q0 := 0) X Y (c_of8 l D cyC cyI mM mN mR mA mP mT mD ch le sp nw 0 2 (nw 9) (bOf (i := 9) (by decide) rfl) (bInD (by decide))) gX8_spotCode_X8_of rfl ⟨rfl, rfl⟩ hd_X8_of ⟨(Nat.le_of_ble_eq_true rfl), (Nat.le_of_ble_eq_true rfl)⟩ rfl rfl rfl [0, 1] rfl rfl rfl rfl hl.1 (Nat.le_of_ble_eq_true rfl) ⟨Nat.zero_le _, Nat.zero_le _⟩ dX8_spotCode_15 (fun H locs Y => ?_)
  refine lv_bipush (v := 10) hx hb dX8_spotCode_18 (by decide) ?_
  refine bDiv (v := (nw 9) / 10) X dX8_spotCode_20 (by decide) rfl ?_
  refine bAdd (v := (100 * ((nw 7) / 50)) + ((nw 9) / 10)) X dX8_spotCode_21 rfl ?_
  subst hu
  exact bEndI X Y hr hlk dX8_spotCode_22 rfl rfl
def s_spotCode8_1 (nw : Nat → Int32) : Int32 :=
  (100 * ((nw 20) / 50)) + ((nw 22) / 10)
set_option maxHeartbeats 4000000 in
set_option maxRecDepth 100000 in
theorem c_spotCode8_1 (l : Launch) (D : va_G) (cyC cyI : ClassId) (mM : Nat) (mN : Nat) (mR : Nat) (mA : Nat) (mP : Nat) (mT : Nat) (mD : Nat) (ch : Int32) (le : Int32) (sp : Int32) (nw : Nat → Int32) (o0 : Int32) (hu : s_spotCode8_1 nw = o0) : CI l yX8_spotCode wsX8_spotCode { frames := 1, cells := 0, slots := 0, locals := 22 } D cyC cyI [.ref mM, .int 1] [(mM, .inr (8, [.ref mN, .ref mR, .ref mA, .ref mP, .int ch, .ref mT, .int le, .int sp, .ref mD])), (mN, .inl (cyI, 515, .inl nw))] o0 [(mM, .inr (8, [.ref mN, .ref mR, .ref mA, .ref mP, .int ch, .ref mT, .int le, .int sp, .ref mD])), (mN, .inl (cyI, 515, .inl nw))] := by
  refine CI.of (cc := cX8_spotCode) (n := 2) (ret := (some .int)) (by decide +kernel) rfl (Nat.le_of_ble_eq_true rfl) ?_
  intro p_ e_ s_ m_ bl_ me_ cd_ A_ ls X Y hr hlk hl
  have hx := X.1.1
  have hb := X.1.2.1
  have hl : lv_has ls 2 [(0, .ref mM), (1, .int 1)] := hl
  unfold s_spotCode8_1 at hu
  refine lv_bipush (v := 100) hx hb dX8_spotCode_0 (by decide) ?_
  refine lv_aload_n hx hb dX8_spotCode_2 rfl (lv_at hl 0 rfl) ?_
  refine lv_iload_n hx hb dX8_spotCode_3 rfl (lv_at hl 1 rfl) ?_
  refine lv_iconst (v := 0) hx hb dX8_spotCode_4 (by decide) ?_
  refine bVI0 (As := [.int 1, .int 0]) (rest := [.int 100]) (wc := [(mM, .inr (8, [.ref mN, .ref mR, .ref mA, .ref mP, .int ch, .ref mT, .int le, .int sp, .ref mD])), (mN, .inl (cyI, 515, .inl nw))]) (ci := 8) (q0 := 0) X Y (c_of8 l D cyC cyI mM mN mR mA mP mT mD ch le sp nw 1 0 (nw 20) (bOf (i := 20) (by decide) rfl) (bInD (by decide))) gX8_spotCode_X8_of rfl ⟨rfl, rfl⟩ hd_X8_of ⟨(Nat.le_of_ble_eq_true rfl), (Nat.le_of_ble_eq_true rfl)⟩ rfl rfl rfl [0, 1] rfl rfl rfl rfl hl.1 (Nat.le_of_ble_eq_true rfl) ⟨Nat.zero_le _, Nat.zero_le _⟩ dX8_spotCode_5 (fun H locs Y => ?_)
  refine lv_bipush (v := 50) hx hb dX8_spotCode_8 (by decide) ?_
  refine bDiv (v := (nw 20) / 50) X dX8_spotCode_10 (by decide) rfl ?_
  refine bMul (v := 100 * ((nw 20) / 50)) X dX8_spotCode_11 rfl ?_
  refine lv_aload_n hx hb dX8_spotCode_12 rfl (lv_at hl 0 rfl) ?_
  refine lv_iload_n hx hb dX8_spotCode_13 rfl (lv_at hl 1 rfl) ?_
  refine lv_iconst (v := 2) hx hb dX8_spotCode_14 (by decide) ?_
  refine bVI0 (As := [.int 1, .int 2]) (rest := [.int (100 * ((nw 20) / 50))]) (wc := [(mM, .inr (8, [.ref mN, .ref mR, .ref mA, .ref mP, .int ch, .ref mT, .int le, .int sp, .ref mD])), (mN, .inl (cyI, 515, .inl nw))]) (ci := 8) (q0 := 0) X Y (c_of8 l D cyC cyI mM mN mR mA mP mT mD ch le sp nw 1 2 (nw 22) (bOf (i := 22) (by decide) rfl) (bInD (by decide))) gX8_spotCode_X8_of rfl ⟨rfl, rfl⟩ hd_X8_of ⟨(Nat.le_of_ble_eq_true rfl), (Nat.le_of_ble_eq_true rfl)⟩ rfl rfl rfl [0, 1] rfl rfl rfl rfl hl.1 (Nat.le_of_ble_eq_true rfl) ⟨Nat.zero_le _, Nat.zero_le _⟩ dX8_spotCode_15 (fun H locs Y => ?_)
  refine lv_bipush (v := 10) hx hb dX8_spotCode_18 (by decide) ?_
  refine bDiv (v := (nw 22) / 10) X dX8_spotCode_20 (by decide) rfl ?_
  refine bAdd (v := (100 * ((nw 20) / 50)) + ((nw 22) / 10)) X dX8_spotCode_21 rfl ?_
  subst hu
  exact bEndI X Y hr hlk dX8_spotCode_22 rfl rfl
theorem hd_X8_spotPlace : bD1 yX8_spotPlace RX8 1 := by decide +kernel
theorem i_X8_spotIndex_X8 : ∀ w ∈ wsX80, w ∈ wsX8_spotIndex := by decide +kernel
theorem f_X8_spotIndex_7 : Cond.fieldLink RX8 7 "SwingCranesModel" "now" "[I" ∈ wsX8_spotIndex := by decide +kernel
def g_spotIndex8_0 (nw : Nat → Int32) (mm : Nat ) (cd : Int32) : Nat → Nat → Nat
  | 0, _ => 0
  | n_ + 1, j =>
    if (nI mm) ≤ nI j then
      j
    else
      if nw (j + 34) = cd then
        j
      else
        g_spotIndex8_0 nw mm cd n_ (j + 1)
def s_spotIndex8_0 (nw : Nat → Int32) (mm : Nat ) (cd : Int32) : Nat :=
  g_spotIndex8_0 nw mm cd (121) 0
set_option maxHeartbeats 4000000 in
set_option maxRecDepth 100000 in
theorem lp_spotIndex8_0 {p_ : Program} {e_ : Env} {s_ : State} {m_ : MethodId} {bl_ : List Frame} {me_ : Method} {cd_ : Code} {A_ : Nat → Prop} (l : Launch) (D : va_G) (cyC cyI : ClassId) (mM : Nat) (mN : Nat) (mR : Nat) (mA : Nat) (mP : Nat) (mT : Nat) (mD : Nat) (ch : Int32) (le : Int32) (sp : Int32) (nw : Nat → Int32) (mm : Nat ) (cd : Int32) (o0 : Nat) (X : bX p_ s_ m_ ([.ref mM, .int 0, .int cd] : List Value).toArray cd_ cX8_spotIndex 5 wsX8_spotIndex yX8_spotIndex.cls D cyC cyI) (hr : me_.sig.returnType = (some .int)) (hlk : me_.locks = false) (hk : nw 33 = nI mm) (hm : mm ≤ 120) : ∀ (n_ : Nat) (j : Nat) (hN : 121 ≤ j + n_) (hJ : j ≤ mm) (hu : g_spotIndex8_0 nw mm cd n_ j = o0) (ls : Array Slot) (H : Heap) (locs : List Loc), lv_has ls 5 [(0, .ref mM), (1, .int 0), (2, .int cd), (3, .int 33), (4, .int (nI j))] → bY D A_ s_.heap [(mM, .inr (8, [.ref mN, .ref mR, .ref mA, .ref mP, .int ch, .ref mT, .int le, .int sp, .ref mD])), (mN, .inl (cyI, 515, .inl nw))] H locs → W p_ l e_ ({ frames := 1, cells := 0, slots := 0, locals := 20 } : Room) s_ m_ ([.ref mM, .int 0, .int cd] : List Value).toArray bl_ me_ cd_ H locs 0 0 (bQI bl_ ([.ref mM, .int 0, .int cd] : List Value).toArray s_ D [(mM, .inr (8, [.ref mN, .ref mR, .ref mA, .ref mP, .int ch, .ref mT, .int le, .int sp, .ref mD])), (mN, .inl (cyI, 515, .inl nw))] (nI o0) A_) (F0 m_ 8 ls []) := by
  intro n_
  induction n_ with
  | zero =>
    intro j hN hJ hu ls H locs hl Y
    exfalso; omega
  | succ n_ ih =>
    intro j hN hJ hu ls H locs hl Y
    have hx := X.1.1
    have hb := X.1.2.1
    rw [g_spotIndex8_0] at hu
    refine lv_iload hx hb dX8_spotIndex_8 (lv_at hl 4 rfl) ?_
    refine lv_aload_n hx hb dX8_spotIndex_10 rfl (lv_at hl 0 rfl) ?_
    refine bGet (v := .ref mN) (T := TX8) (N := 9) (ci := 8) X Y i_X8_spotIndex_X8 0 rfl rfl 0 (Nat.le_of_ble_eq_true rfl) f_X8_spotIndex_7 rfl rfl dX8_spotIndex_11 ?_
    refine lv_iload_n hx hb dX8_spotIndex_14 rfl (lv_at hl 3 rfl) ?_
    refine bIald (v := nI mm) X Y 1 rfl (bInD (by decide)) dX8_spotIndex_15 hk ?_
    refine lv_icmp_ge (tgt := 40) hx hb dX8_spotIndex_16 (by decide) (fun c_1 => ?_) (fun c_1 => ?_)
    · have c_1 : (nI mm) ≤ nI j := c_1
      rw [if_pos c_1] at hu
      refine lv_iload hx hb dX8_spotIndex_40 (lv_at hl 4 rfl) ?_
      subst hu
      exact bEndI X Y hr hlk dX8_spotIndex_42 rfl rfl
    · have c_1 : ¬ ((nI mm) ≤ nI j) := c_1
      rw [if_neg c_1] at hu
      refine lv_aload_n hx hb dX8_spotIndex_19 rfl (lv_at hl 0 rfl) ?_
      refine bGet (v := .ref mN) (T := TX8) (N := 9) (ci := 8) X Y i_X8_spotIndex_X8 0 rfl rfl 0 (Nat.le_of_ble_eq_true rfl) f_X8_spotIndex_7 rfl rfl dX8_spotIndex_20 ?_
      refine lv_iload_n hx hb dX8_spotIndex_23 rfl (lv_at hl 3 rfl) ?_
      refine lv_iconst (v := 1) hx hb dX8_spotIndex_24 (by decide) ?_
      refine bAdd (v := 34) X dX8_spotIndex_25 (by decide) ?_
      refine lv_iload hx hb dX8_spotIndex_26 (lv_at hl 4 rfl) ?_
      refine bAdd (v := nI (j + 34)) X dX8_spotIndex_28 (nI_sum (a := 34) (b := j) rfl rfl (by omega)) ?_
      refine bIald (v := nw (j + 34)) X Y 1 rfl (by have h9 := (bLtN (j := j) (k := mm) (by omega) (by omega)).mp (bLtN2 c_1); exact bIn (by omega) (by decide)) dX8_spotIndex_29 (bIdx (by omega)) ?_
      refine lv_iload_n hx hb dX8_spotIndex_30 rfl (lv_at hl 2 rfl) ?_
      refine lv_icmp_eq (tgt := 40) hx hb dX8_spotIndex_31 (by decide) (fun c_2 => ?_) (fun c_2 => ?_)
      · have c_2 : nw (j + 34) = cd := c_2
        rw [if_pos c_2] at hu
        refine lv_iload hx hb dX8_spotIndex_40 (lv_at hl 4 rfl) ?_
        subst hu
        exact bEndI X Y hr hlk dX8_spotIndex_42 rfl rfl
      · have c_2 : ¬ (nw (j + 34) = cd) := c_2
        rw [if_neg c_2] at hu
        refine lv_iinc (v := nI (j + 1)) (lv' := [(4, .int (nI (j + 1))), (0, .ref mM), (1, .int 0), (2, .int cd), (3, .int 33)]) hx hb dX8_spotIndex_34 hl (k := 4) rfl (nI_inc _) (by decide) rfl (fun ls hl => ?_)
        refine lv_goto (tgt := 8) hx hb dX8_spotIndex_37 (by decide) ?_
        exact ih (j + 1) (by omega) (by have h9 := (bLtN (j := j) (k := mm) (by omega) (by omega)).mp (bLtN2 c_1); omega) hu _ _ _ (lv_sub hl [1, 2, 3, 4, 0] rfl) Y
set_option maxHeartbeats 4000000 in
set_option maxRecDepth 100000 in
theorem c_spotIndex8_0 (l : Launch) (D : va_G) (cyC cyI : ClassId) (mM : Nat) (mN : Nat) (mR : Nat) (mA : Nat) (mP : Nat) (mT : Nat) (mD : Nat) (ch : Int32) (le : Int32) (sp : Int32) (nw : Nat → Int32) (mm : Nat ) (cd : Int32) (o0 : Nat) (hu : s_spotIndex8_0 nw mm cd = o0) (hk : nw 33 = nI mm) (hm : mm ≤ 120) : CI l yX8_spotIndex wsX8_spotIndex { frames := 1, cells := 0, slots := 0, locals := 20 } D cyC cyI [.ref mM, .int 0, .int cd] [(mM, .inr (8, [.ref mN, .ref mR, .ref mA, .ref mP, .int ch, .ref mT, .int le, .int sp, .ref mD])), (mN, .inl (cyI, 515, .inl nw))] (nI o0) [(mM, .inr (8, [.ref mN, .ref mR, .ref mA, .ref mP, .int ch, .ref mT, .int le, .int sp, .ref mD])), (mN, .inl (cyI, 515, .inl nw))] := by
  refine CI.of (cc := cX8_spotIndex) (n := 5) (ret := (some .int)) (by decide +kernel) rfl (Nat.le_of_ble_eq_true rfl) ?_
  intro p_ e_ s_ m_ bl_ me_ cd_ A_ ls X Y hr hlk hl
  have hx := X.1.1
  have hb := X.1.2.1
  have hl : lv_has ls 5 [(0, .ref mM), (1, .int 0), (2, .int cd)] := hl
  unfold s_spotIndex8_0 at hu
  refine lv_iload_n hx hb dX8_spotIndex_0 rfl (lv_at hl 1 rfl) ?_
  refine bSI (As := [.int 0]) (rest := []) X Y (c_spotPlace8 l D cyC cyI 0 33 (by decide +kernel)) gX8_spotIndex_X8_spotPlace rfl ⟨rfl, rfl⟩ hd_X8_spotPlace.2 ⟨(Nat.le_of_ble_eq_true rfl), (Nat.le_of_ble_eq_true rfl)⟩ rfl rfl hl.1 (Nat.le_of_ble_eq_true rfl) ⟨Nat.zero_le _, Nat.zero_le _⟩ dX8_spotIndex_1 (fun H locs Y => ?_)
  refine lv_istore_n (lv' := [(3, .int 33), (0, .ref mM), (1, .int 0), (2, .int cd)]) hx hb dX8_spotIndex_4 rfl hl (by decide) rfl (fun ls hl => ?_)
  refine lv_iconst (v := 0) hx hb dX8_spotIndex_5 (by decide) ?_
  refine lv_istore (lv' := [(4, .int 0), (3, .int 33), (0, .ref mM), (1, .int 0), (2, .int cd)]) hx hb dX8_spotIndex_6 hl (by decide) rfl (fun ls hl => ?_)
  exact lp_spotIndex8_0 l D cyC cyI mM mN mR mA mP mT mD ch le sp nw mm cd o0 X hr hlk hk hm (121) 0 (by omega) (by omega) hu _ _ _ (lv_sub hl [2, 3, 4, 1, 0] rfl) Y
def g_spotIndex8_1 (nw : Nat → Int32) (mm : Nat ) (cd : Int32) : Nat → Nat → Nat
  | 0, _ => 0
  | n_ + 1, j =>
    if (nI mm) ≤ nI j then
      j
    else
      if nw (j + 275) = cd then
        j
      else
        g_spotIndex8_1 nw mm cd n_ (j + 1)
def s_spotIndex8_1 (nw : Nat → Int32) (mm : Nat ) (cd : Int32) : Nat :=
  g_spotIndex8_1 nw mm cd (121) 0
set_option maxHeartbeats 4000000 in
set_option maxRecDepth 100000 in
theorem lp_spotIndex8_1 {p_ : Program} {e_ : Env} {s_ : State} {m_ : MethodId} {bl_ : List Frame} {me_ : Method} {cd_ : Code} {A_ : Nat → Prop} (l : Launch) (D : va_G) (cyC cyI : ClassId) (mM : Nat) (mN : Nat) (mR : Nat) (mA : Nat) (mP : Nat) (mT : Nat) (mD : Nat) (ch : Int32) (le : Int32) (sp : Int32) (nw : Nat → Int32) (mm : Nat ) (cd : Int32) (o0 : Nat) (X : bX p_ s_ m_ ([.ref mM, .int 1, .int cd] : List Value).toArray cd_ cX8_spotIndex 5 wsX8_spotIndex yX8_spotIndex.cls D cyC cyI) (hr : me_.sig.returnType = (some .int)) (hlk : me_.locks = false) (hk : nw 274 = nI mm) (hm : mm ≤ 120) : ∀ (n_ : Nat) (j : Nat) (hN : 121 ≤ j + n_) (hJ : j ≤ mm) (hu : g_spotIndex8_1 nw mm cd n_ j = o0) (ls : Array Slot) (H : Heap) (locs : List Loc), lv_has ls 5 [(0, .ref mM), (1, .int 1), (2, .int cd), (3, .int 274), (4, .int (nI j))] → bY D A_ s_.heap [(mM, .inr (8, [.ref mN, .ref mR, .ref mA, .ref mP, .int ch, .ref mT, .int le, .int sp, .ref mD])), (mN, .inl (cyI, 515, .inl nw))] H locs → W p_ l e_ ({ frames := 1, cells := 0, slots := 0, locals := 20 } : Room) s_ m_ ([.ref mM, .int 1, .int cd] : List Value).toArray bl_ me_ cd_ H locs 0 0 (bQI bl_ ([.ref mM, .int 1, .int cd] : List Value).toArray s_ D [(mM, .inr (8, [.ref mN, .ref mR, .ref mA, .ref mP, .int ch, .ref mT, .int le, .int sp, .ref mD])), (mN, .inl (cyI, 515, .inl nw))] (nI o0) A_) (F0 m_ 8 ls []) := by
  intro n_
  induction n_ with
  | zero =>
    intro j hN hJ hu ls H locs hl Y
    exfalso; omega
  | succ n_ ih =>
    intro j hN hJ hu ls H locs hl Y
    have hx := X.1.1
    have hb := X.1.2.1
    rw [g_spotIndex8_1] at hu
    refine lv_iload hx hb dX8_spotIndex_8 (lv_at hl 4 rfl) ?_
    refine lv_aload_n hx hb dX8_spotIndex_10 rfl (lv_at hl 0 rfl) ?_
    refine bGet (v := .ref mN) (T := TX8) (N := 9) (ci := 8) X Y i_X8_spotIndex_X8 0 rfl rfl 0 (Nat.le_of_ble_eq_true rfl) f_X8_spotIndex_7 rfl rfl dX8_spotIndex_11 ?_
    refine lv_iload_n hx hb dX8_spotIndex_14 rfl (lv_at hl 3 rfl) ?_
    refine bIald (v := nI mm) X Y 1 rfl (bInD (by decide)) dX8_spotIndex_15 hk ?_
    refine lv_icmp_ge (tgt := 40) hx hb dX8_spotIndex_16 (by decide) (fun c_1 => ?_) (fun c_1 => ?_)
    · have c_1 : (nI mm) ≤ nI j := c_1
      rw [if_pos c_1] at hu
      refine lv_iload hx hb dX8_spotIndex_40 (lv_at hl 4 rfl) ?_
      subst hu
      exact bEndI X Y hr hlk dX8_spotIndex_42 rfl rfl
    · have c_1 : ¬ ((nI mm) ≤ nI j) := c_1
      rw [if_neg c_1] at hu
      refine lv_aload_n hx hb dX8_spotIndex_19 rfl (lv_at hl 0 rfl) ?_
      refine bGet (v := .ref mN) (T := TX8) (N := 9) (ci := 8) X Y i_X8_spotIndex_X8 0 rfl rfl 0 (Nat.le_of_ble_eq_true rfl) f_X8_spotIndex_7 rfl rfl dX8_spotIndex_20 ?_
      refine lv_iload_n hx hb dX8_spotIndex_23 rfl (lv_at hl 3 rfl) ?_
      refine lv_iconst (v := 1) hx hb dX8_spotIndex_24 (by decide) ?_
      refine bAdd (v := 275) X dX8_spotIndex_25 (by decide) ?_
      refine lv_iload hx hb dX8_spotIndex_26 (lv_at hl 4 rfl) ?_
      refine bAdd (v := nI (j + 275)) X dX8_spotIndex_28 (nI_sum (a := 275) (b := j) rfl rfl (by omega)) ?_
      refine bIald (v := nw (j + 275)) X Y 1 rfl (by have h9 := (bLtN (j := j) (k := mm) (by omega) (by omega)).mp (bLtN2 c_1); exact bIn (by omega) (by decide)) dX8_spotIndex_29 (bIdx (by omega)) ?_
      refine lv_iload_n hx hb dX8_spotIndex_30 rfl (lv_at hl 2 rfl) ?_
      refine lv_icmp_eq (tgt := 40) hx hb dX8_spotIndex_31 (by decide) (fun c_2 => ?_) (fun c_2 => ?_)
      · have c_2 : nw (j + 275) = cd := c_2
        rw [if_pos c_2] at hu
        refine lv_iload hx hb dX8_spotIndex_40 (lv_at hl 4 rfl) ?_
        subst hu
        exact bEndI X Y hr hlk dX8_spotIndex_42 rfl rfl
      · have c_2 : ¬ (nw (j + 275) = cd) := c_2
        rw [if_neg c_2] at hu
        refine lv_iinc (v := nI (j + 1)) (lv' := [(4, .int (nI (j + 1))), (0, .ref mM), (1, .int 1), (2, .int cd), (3, .int 274)]) hx hb dX8_spotIndex_34 hl (k := 4) rfl (nI_inc _) (by decide) rfl (fun ls hl => ?_)
        refine lv_goto (tgt := 8) hx hb dX8_spotIndex_37 (by decide) ?_
        exact ih (j + 1) (by omega) (by have h9 := (bLtN (j := j) (k := mm) (by omega) (by omega)).mp (bLtN2 c_1); omega) hu _ _ _ (lv_sub hl [1, 2, 3, 4, 0] rfl) Y
set_option maxHeartbeats 4000000 in
set_option maxRecDepth 100000 in
theorem c_spotIndex8_1 (l : Launch) (D : va_G) (cyC cyI : ClassId) (mM : Nat) (mN : Nat) (mR : Nat) (mA : Nat) (mP : Nat) (mT : Nat) (mD : Nat) (ch : Int32) (le : Int32) (sp : Int32) (nw : Nat → Int32) (mm : Nat ) (cd : Int32) (o0 : Nat) (hu : s_spotIndex8_1 nw mm cd = o0) (hk : nw 274 = nI mm) (hm : mm ≤ 120) : CI l yX8_spotIndex wsX8_spotIndex { frames := 1, cells := 0, slots := 0, locals := 20 } D cyC cyI [.ref mM, .int 1, .int cd] [(mM, .inr (8, [.ref mN, .ref mR, .ref mA, .ref mP, .int ch, .ref mT, .int le, .int sp, .ref mD])), (mN, .inl (cyI, 515, .inl nw))] (nI o0) [(mM, .inr (8, [.ref mN, .ref mR, .ref mA, .ref mP, .int ch, .ref mT, .int le, .int sp, .ref mD])), (mN, .inl (cyI, 515, .inl nw))] := by
  refine CI.of (cc := cX8_spotIndex) (n := 5) (ret := (some .int)) (by decide +kernel) rfl (Nat.le_of_ble_eq_true rfl) ?_
  intro p_ e_ s_ m_ bl_ me_ cd_ A_ ls X Y hr hlk hl
  have hx := X.1.1
  have hb := X.1.2.1
  have hl : lv_has ls 5 [(0, .ref mM), (1, .int 1), (2, .int cd)] := hl
  unfold s_spotIndex8_1 at hu
  refine lv_iload_n hx hb dX8_spotIndex_0 rfl (lv_at hl 1 rfl) ?_
  refine bSI (As := [.int 1]) (rest := []) X Y (c_spotPlace8 l D cyC cyI 1 274 (by decide +kernel)) gX8_spotIndex_X8_spotPlace rfl ⟨rfl, rfl⟩ hd_X8_spotPlace.2 ⟨(Nat.le_of_ble_eq_true rfl), (Nat.le_of_ble_eq_true rfl)⟩ rfl rfl hl.1 (Nat.le_of_ble_eq_true rfl) ⟨Nat.zero_le _, Nat.zero_le _⟩ dX8_spotIndex_1 (fun H locs Y => ?_)
  refine lv_istore_n (lv' := [(3, .int 274), (0, .ref mM), (1, .int 1), (2, .int cd)]) hx hb dX8_spotIndex_4 rfl hl (by decide) rfl (fun ls hl => ?_)
  refine lv_iconst (v := 0) hx hb dX8_spotIndex_5 (by decide) ?_
  refine lv_istore (lv' := [(4, .int 0), (3, .int 274), (0, .ref mM), (1, .int 1), (2, .int cd)]) hx hb dX8_spotIndex_6 hl (by decide) rfl (fun ls hl => ?_)
  exact lp_spotIndex8_1 l D cyC cyI mM mN mR mA mP mT mD ch le sp nw mm cd o0 X hr hlk hk hm (121) 0 (by omega) (by omega) hu _ _ _ (lv_sub hl [2, 3, 4, 1, 0] rfl) Y
theorem hd_X8_spotCode : bD1 yX8_spotCode RX8 1 := by decide +kernel
theorem hd_X8_spotIndex : bD1 yX8_spotIndex RX8 2 := by decide +kernel
theorem i_X8_counts_X8 : ∀ w ∈ wsX80, w ∈ wsX8_counts := by decide +kernel
theorem f_X8_counts_7 : Cond.fieldLink RX8 7 "SwingCranesModel" "now" "[I" ∈ wsX8_counts := by decide +kernel
def s_counts8_0 (nw : Nat → Int32) (mm : Nat ) : (Nat → Int32) × Unit :=
  if nI (s_spotIndex8_0 nw mm (s_spotCode8_0 nw)) = (nI mm) then
    (upd (upd (upd (upd nw (s_spotIndex8_0 nw mm (s_spotCode8_0 nw) + 34) (s_spotCode8_0 nw)) (s_spotIndex8_0 nw mm (s_spotCode8_0 nw) + 154) 0) 33 (((upd (upd nw (s_spotIndex8_0 nw mm (s_spotCode8_0 nw) + 34) (s_spotCode8_0 nw)) (s_spotIndex8_0 nw mm (s_spotCode8_0 nw) + 154) 0) 33) + 1)) (s_spotIndex8_0 nw mm (s_spotCode8_0 nw) + 154) (((upd (upd (upd nw (s_spotIndex8_0 nw mm (s_spotCode8_0 nw) + 34) (s_spotCode8_0 nw)) (s_spotIndex8_0 nw mm (s_spotCode8_0 nw) + 154) 0) 33 (((upd (upd nw (s_spotIndex8_0 nw mm (s_spotCode8_0 nw) + 34) (s_spotCode8_0 nw)) (s_spotIndex8_0 nw mm (s_spotCode8_0 nw) + 154) 0) 33) + 1)) (s_spotIndex8_0 nw mm (s_spotCode8_0 nw) + 154)) + 1), ())
  else
    (upd nw (s_spotIndex8_0 nw mm (s_spotCode8_0 nw) + 154) ((nw (s_spotIndex8_0 nw mm (s_spotCode8_0 nw) + 154)) + 1), ())
set_option maxHeartbeats 4000000 in
set_option maxRecDepth 100000 in
theorem c_counts8_0 (l : Launch) (D : va_G) (cyC cyI : ClassId) (mM : Nat) (mN : Nat) (mR : Nat) (mA : Nat) (mP : Nat) (mT : Nat) (mD : Nat) (ch : Int32) (le : Int32) (sp : Int32) (nw : Nat → Int32) (mm : Nat ) (o0 : Nat → Int32) (hu : s_counts8_0 nw mm = (o0, ())) (hk : nw 33 = nI mm) (hm : mm ≤ 120) (hlt : (s_spotIndex8_0 nw mm (s_spotCode8_0 nw)) < 120) : CV l yX8_counts wsX8_counts { frames := 2, cells := 0, slots := 0, locals := 44 } D cyC cyI [.ref mM, .int 0] [(mM, .inr (8, [.ref mN, .ref mR, .ref mA, .ref mP, .int ch, .ref mT, .int le, .int sp, .ref mD])), (mN, .inl (cyI, 515, .inl nw))] [(mM, .inr (8, [.ref mN, .ref mR, .ref mA, .ref mP, .int ch, .ref mT, .int le, .int sp, .ref mD])), (mN, .inl (cyI, 515, .inl o0))] := by
  refine CV.of (cc := cX8_counts) (n := 5) (ret := none) (by decide +kernel) rfl (Nat.le_of_ble_eq_true rfl) ?_
  intro p_ e_ s_ m_ bl_ me_ cd_ A_ ls X Y hr hlk hl
  have hx := X.1.1
  have hb := X.1.2.1
  have hl : lv_has ls 5 [(0, .ref mM), (1, .int 0)] := hl
  unfold s_counts8_0 at hu
  refine lv_iload_n hx hb dX8_counts_0 rfl (lv_at hl 1 rfl) ?_
  refine bSI (As := [.int 0]) (rest := []) X Y (c_spotPlace8 l D cyC cyI 0 33 (by decide +kernel)) gX8_counts_X8_spotPlace rfl ⟨rfl, rfl⟩ hd_X8_spotPlace.2 ⟨(Nat.le_of_ble_eq_true rfl), (Nat.le_of_ble_eq_true rfl)⟩ rfl rfl hl.1 (Nat.le_of_ble_eq_true rfl) ⟨Nat.zero_le _, Nat.zero_le _⟩ dX8_counts_1 (fun H locs Y => ?_)
  refine lv_istore_n (lv' := [(2, .int 33), (0, .ref mM), (1, .int 0)]) hx hb dX8_counts_4 rfl hl (by decide) rfl (fun ls hl => ?_)
  refine lv_aload_n hx hb dX8_counts_5 rfl (lv_at hl 1 rfl) ?_
  refine lv_iload_n hx hb dX8_counts_6 rfl (lv_at hl 2 rfl) ?_
  refine bVI0 (As := [.int 0]) (rest := []) (wc := [(mM, .inr (8, [.ref mN, .ref mR, .ref mA, .ref mP, .int ch, .ref mT, .int le, .int sp, .ref mD])), (mN, .inl (cyI, 515, .inl nw))]) (ci := 8) (q0 := 0) X Y (c_spotCode8_0 l D cyC cyI mM mN mR mA mP mT mD ch le sp nw (s_spotCode8_0 nw) rfl) gX8_counts_X8_spotCode rfl ⟨rfl, rfl⟩ hd_X8_spotCode ⟨(Nat.le_of_ble_eq_true rfl), (Nat.le_of_ble_eq_true rfl)⟩ rfl rfl rfl [0, 1] rfl rfl rfl rfl hl.1 (Nat.le_of_ble_eq_true rfl) ⟨Nat.zero_le _, Nat.zero_le _⟩ dX8_counts_7 (fun H locs Y => ?_)
  refine lv_istore_n (lv' := [(3, .int (s_spotCode8_0 nw)), (2, .int 33), (0, .ref mM), (1, .int 0)]) hx hb dX8_counts_10 rfl hl (by decide) rfl (fun ls hl => ?_)
  refine lv_aload_n hx hb dX8_counts_11 rfl (lv_at hl 2 rfl) ?_
  refine lv_iload_n hx hb dX8_counts_12 rfl (lv_at hl 3 rfl) ?_
  refine lv_iload_n hx hb dX8_counts_13 rfl (lv_at hl 0 rfl) ?_
  refine bVI0 (As := [.int 0, .int (s_spotCode8_0 nw)]) (rest := []) (wc := [(mM, .inr (8, [.ref mN, .ref mR, .ref mA, .ref mP, .int ch, .ref mT, .int le, .int sp, .ref mD])), (mN, .inl (cyI, 515, .inl nw))]) (ci := 8) (q0 := 0) X Y (c_spotIndex8_0 l D cyC cyI mM mN mR mA mP mT mD ch le sp nw mm (s_spotCode8_0 nw) (s_spotIndex8_0 nw mm (s_spotCode8_0 nw)) rfl (by first | assumption | omega | decide) (by first | assumption | omega | decide)) gX8_counts_X8_spotIndex rfl ⟨rfl, rfl⟩ hd_X8_spotIndex ⟨(Nat.le_of_ble_eq_true rfl), (Nat.le_of_ble_eq_true rfl)⟩ rfl rfl rfl [0, 1] rfl rfl rfl rfl hl.1 (Nat.le_of_ble_eq_true rfl) ⟨Nat.zero_le _, Nat.zero_le _⟩ dX8_counts_14 (fun H locs Y => ?_)
  refine lv_istore (lv' := [(4, .int (nI (s_spotIndex8_0 nw mm (s_spotCode8_0 nw)))), (3, .int (s_spotCode8_0 nw)), (2, .int 33), (0, .ref mM), (1, .int 0)]) hx hb dX8_counts_17 hl (by decide) rfl (fun ls hl => ?_)
  refine lv_iload hx hb dX8_counts_19 (lv_at hl 0 rfl) ?_
  refine lv_aload_n hx hb dX8_counts_21 rfl (lv_at hl 3 rfl) ?_
  refine bGet (v := .ref mN) (T := TX8) (N := 9) (ci := 8) X Y i_X8_counts_X8 0 rfl rfl 0 (Nat.le_of_ble_eq_true rfl) f_X8_counts_7 rfl rfl dX8_counts_22 ?_
  refine lv_iload_n hx hb dX8_counts_25 rfl (lv_at hl 2 rfl) ?_
  refine bIald (v := nI mm) X Y 1 rfl (bInD (by decide)) dX8_counts_26 hk ?_
  refine lv_icmp_ne (tgt := 67) hx hb dX8_counts_27 (by decide) (fun c_1 => ?_) (fun c_1 => ?_)
  · have c_1 : ¬ (nI (s_spotIndex8_0 nw mm (s_spotCode8_0 nw)) = (nI mm)) := c_1
    rw [if_neg c_1] at hu
    refine lv_aload_n hx hb dX8_counts_67 rfl (lv_at hl 3 rfl) ?_
    refine bGet (v := .ref mN) (T := TX8) (N := 9) (ci := 8) X Y i_X8_counts_X8 0 rfl rfl 0 (Nat.le_of_ble_eq_true rfl) f_X8_counts_7 rfl rfl dX8_counts_68 ?_
    refine lv_iload_n hx hb dX8_counts_71 rfl (lv_at hl 2 rfl) ?_
    refine lv_iconst (v := 1) hx hb dX8_counts_72 (by decide) ?_
    refine bAdd (v := 34) X dX8_counts_73 (by decide) ?_
    refine lv_bipush (v := 120) hx hb dX8_counts_74 (by decide) ?_
    refine bAdd (v := 154) X dX8_counts_76 (by decide) ?_
    refine lv_iload hx hb dX8_counts_77 (lv_at hl 0 rfl) ?_
    refine bAdd (v := nI (s_spotIndex8_0 nw mm (s_spotCode8_0 nw) + 154)) X dX8_counts_79 (nI_sum (a := 154) (b := (s_spotIndex8_0 nw mm (s_spotCode8_0 nw))) rfl rfl (by omega)) ?_
    refine lv_dup2_11 hx hb dX8_counts_80 rfl rfl ?_
    refine bIald (v := nw (s_spotIndex8_0 nw mm (s_spotCode8_0 nw) + 154)) X Y 1 rfl (bIn (by omega) (by decide)) dX8_counts_81 (bIdx (by omega)) ?_
    refine lv_iconst (v := 1) hx hb dX8_counts_82 (by decide) ?_
    refine bAdd (v := (nw (s_spotIndex8_0 nw mm (s_spotCode8_0 nw) + 154)) + 1) X dX8_counts_83 rfl ?_
    refine bIast (f' := upd nw (s_spotIndex8_0 nw mm (s_spotCode8_0 nw) + 154) ((nw (s_spotIndex8_0 nw mm (s_spotCode8_0 nw) + 154)) + 1)) (ws' := [(mM, .inr (8, [.ref mN, .ref mR, .ref mA, .ref mP, .int ch, .ref mT, .int le, .int sp, .ref mD])), (mN, .inl (cyI, 515, .inl (upd nw (s_spotIndex8_0 nw mm (s_spotCode8_0 nw) + 154) ((nw (s_spotIndex8_0 nw mm (s_spotCode8_0 nw) + 154)) + 1))))]) X Y 1 rfl (bIn (by omega) (by decide)) (bIdxs (by omega)) rfl dX8_counts_84 (fun H locs Y => ?_)
    have h9 := (Prod.mk.inj hu).1
    subst h9
    exact bEndV X Y hr hlk dX8_counts_85 rfl
  · have c_1 : nI (s_spotIndex8_0 nw mm (s_spotCode8_0 nw)) = (nI mm) := c_1
    rw [if_pos c_1] at hu
    refine lv_aload_n hx hb dX8_counts_30 rfl (lv_at hl 3 rfl) ?_
    refine bGet (v := .ref mN) (T := TX8) (N := 9) (ci := 8) X Y i_X8_counts_X8 0 rfl rfl 0 (Nat.le_of_ble_eq_true rfl) f_X8_counts_7 rfl rfl dX8_counts_31 ?_
    refine lv_iload_n hx hb dX8_counts_34 rfl (lv_at hl 2 rfl) ?_
    refine lv_iconst (v := 1) hx hb dX8_counts_35 (by decide) ?_
    refine bAdd (v := 34) X dX8_counts_36 (by decide) ?_
    refine lv_iload hx hb dX8_counts_37 (lv_at hl 0 rfl) ?_
    refine bAdd (v := nI (s_spotIndex8_0 nw mm (s_spotCode8_0 nw) + 34)) X dX8_counts_39 (nI_sum (a := 34) (b := (s_spotIndex8_0 nw mm (s_spotCode8_0 nw))) rfl rfl (by omega)) ?_
    refine lv_iload_n hx hb dX8_counts_40 rfl (lv_at hl 1 rfl) ?_
    refine bIast (f' := upd nw (s_spotIndex8_0 nw mm (s_spotCode8_0 nw) + 34) (s_spotCode8_0 nw)) (ws' := [(mM, .inr (8, [.ref mN, .ref mR, .ref mA, .ref mP, .int ch, .ref mT, .int le, .int sp, .ref mD])), (mN, .inl (cyI, 515, .inl (upd nw (s_spotIndex8_0 nw mm (s_spotCode8_0 nw) + 34) (s_spotCode8_0 nw))))]) X Y 1 rfl (bIn (by omega) (by decide)) (bIdxs (by omega)) rfl dX8_counts_41 (fun H locs Y => ?_)
    refine lv_aload_n hx hb dX8_counts_42 rfl (lv_at hl 3 rfl) ?_
    refine bGet (v := .ref mN) (T := TX8) (N := 9) (ci := 8) X Y i_X8_counts_X8 0 rfl rfl 0 (Nat.le_of_ble_eq_true rfl) f_X8_counts_7 rfl rfl dX8_counts_43 ?_
    refine lv_iload_n hx hb dX8_counts_46 rfl (lv_at hl 2 rfl) ?_
    refine lv_iconst (v := 1) hx hb dX8_counts_47 (by decide) ?_
    refine bAdd (v := 34) X dX8_counts_48 (by decide) ?_
    refine lv_bipush (v := 120) hx hb dX8_counts_49 (by decide) ?_
    refine bAdd (v := 154) X dX8_counts_51 (by decide) ?_
    refine lv_iload hx hb dX8_counts_52 (lv_at hl 0 rfl) ?_
    refine bAdd (v := nI (s_spotIndex8_0 nw mm (s_spotCode8_0 nw) + 154)) X dX8_counts_54 (nI_sum (a := 154) (b := (s_spotIndex8_0 nw mm (s_spotCode8_0 nw))) rfl rfl (by omega)) ?_
    refine lv_iconst (v := 0) hx hb dX8_counts_55 (by decide) ?_
    refine bIast (f' := upd (upd nw (s_spotIndex8_0 nw mm (s_spotCode8_0 nw) + 34) (s_spotCode8_0 nw)) (s_spotIndex8_0 nw mm (s_spotCode8_0 nw) + 154) 0) (ws' := [(mM, .inr (8, [.ref mN, .ref mR, .ref mA, .ref mP, .int ch, .ref mT, .int le, .int sp, .ref mD])), (mN, .inl (cyI, 515, .inl (upd (upd nw (s_spotIndex8_0 nw mm (s_spotCode8_0 nw) + 34) (s_spotCode8_0 nw)) (s_spotIndex8_0 nw mm (s_spotCode8_0 nw) + 154) 0)))]) X Y 1 rfl (bIn (by omega) (by decide)) (bIdxs (by omega)) rfl dX8_counts_56 (fun H locs Y => ?_)
    refine lv_aload_n hx hb dX8_counts_57 rfl (lv_at hl 3 rfl) ?_
    refine bGet (v := .ref mN) (T := TX8) (N := 9) (ci := 8) X Y i_X8_counts_X8 0 rfl rfl 0 (Nat.le_of_ble_eq_true rfl) f_X8_counts_7 rfl rfl dX8_counts_58 ?_
    refine lv_iload_n hx hb dX8_counts_61 rfl (lv_at hl 2 rfl) ?_
    refine lv_dup2_11 hx hb dX8_counts_62 rfl rfl ?_
    refine bIald (v := (upd (upd nw (s_spotIndex8_0 nw mm (s_spotCode8_0 nw) + 34) (s_spotCode8_0 nw)) (s_spotIndex8_0 nw mm (s_spotCode8_0 nw) + 154) 0) 33) X Y 1 rfl (bInD (by decide)) dX8_counts_63 rfl ?_
    refine lv_iconst (v := 1) hx hb dX8_counts_64 (by decide) ?_
    refine bAdd (v := ((upd (upd nw (s_spotIndex8_0 nw mm (s_spotCode8_0 nw) + 34) (s_spotCode8_0 nw)) (s_spotIndex8_0 nw mm (s_spotCode8_0 nw) + 154) 0) 33) + 1) X dX8_counts_65 rfl ?_
    refine bIast (f' := upd (upd (upd nw (s_spotIndex8_0 nw mm (s_spotCode8_0 nw) + 34) (s_spotCode8_0 nw)) (s_spotIndex8_0 nw mm (s_spotCode8_0 nw) + 154) 0) 33 (((upd (upd nw (s_spotIndex8_0 nw mm (s_spotCode8_0 nw) + 34) (s_spotCode8_0 nw)) (s_spotIndex8_0 nw mm (s_spotCode8_0 nw) + 154) 0) 33) + 1)) (ws' := [(mM, .inr (8, [.ref mN, .ref mR, .ref mA, .ref mP, .int ch, .ref mT, .int le, .int sp, .ref mD])), (mN, .inl (cyI, 515, .inl (upd (upd (upd nw (s_spotIndex8_0 nw mm (s_spotCode8_0 nw) + 34) (s_spotCode8_0 nw)) (s_spotIndex8_0 nw mm (s_spotCode8_0 nw) + 154) 0) 33 (((upd (upd nw (s_spotIndex8_0 nw mm (s_spotCode8_0 nw) + 34) (s_spotCode8_0 nw)) (s_spotIndex8_0 nw mm (s_spotCode8_0 nw) + 154) 0) 33) + 1))))]) X Y 1 rfl (bInD (by decide)) rfl rfl dX8_counts_66 (fun H locs Y => ?_)
    refine lv_aload_n hx hb dX8_counts_67 rfl (lv_at hl 3 rfl) ?_
    refine bGet (v := .ref mN) (T := TX8) (N := 9) (ci := 8) X Y i_X8_counts_X8 0 rfl rfl 0 (Nat.le_of_ble_eq_true rfl) f_X8_counts_7 rfl rfl dX8_counts_68 ?_
    refine lv_iload_n hx hb dX8_counts_71 rfl (lv_at hl 2 rfl) ?_
    refine lv_iconst (v := 1) hx hb dX8_counts_72 (by decide) ?_
    refine bAdd (v := 34) X dX8_counts_73 (by decide) ?_
    refine lv_bipush (v := 120) hx hb dX8_counts_74 (by decide) ?_
    refine bAdd (v := 154) X dX8_counts_76 (by decide) ?_
    refine lv_iload hx hb dX8_counts_77 (lv_at hl 0 rfl) ?_
    refine bAdd (v := nI (s_spotIndex8_0 nw mm (s_spotCode8_0 nw) + 154)) X dX8_counts_79 (nI_sum (a := 154) (b := (s_spotIndex8_0 nw mm (s_spotCode8_0 nw))) rfl rfl (by omega)) ?_
    refine lv_dup2_11 hx hb dX8_counts_80 rfl rfl ?_
    refine bIald (v := (upd (upd (upd nw (s_spotIndex8_0 nw mm (s_spotCode8_0 nw) + 34) (s_spotCode8_0 nw)) (s_spotIndex8_0 nw mm (s_spotCode8_0 nw) + 154) 0) 33 (((upd (upd nw (s_spotIndex8_0 nw mm (s_spotCode8_0 nw) + 34) (s_spotCode8_0 nw)) (s_spotIndex8_0 nw mm (s_spotCode8_0 nw) + 154) 0) 33) + 1)) (s_spotIndex8_0 nw mm (s_spotCode8_0 nw) + 154)) X Y 1 rfl (bIn (by omega) (by decide)) dX8_counts_81 (bIdx (by omega)) ?_
    refine lv_iconst (v := 1) hx hb dX8_counts_82 (by decide) ?_
    refine bAdd (v := ((upd (upd (upd nw (s_spotIndex8_0 nw mm (s_spotCode8_0 nw) + 34) (s_spotCode8_0 nw)) (s_spotIndex8_0 nw mm (s_spotCode8_0 nw) + 154) 0) 33 (((upd (upd nw (s_spotIndex8_0 nw mm (s_spotCode8_0 nw) + 34) (s_spotCode8_0 nw)) (s_spotIndex8_0 nw mm (s_spotCode8_0 nw) + 154) 0) 33) + 1)) (s_spotIndex8_0 nw mm (s_spotCode8_0 nw) + 154)) + 1) X dX8_counts_83 rfl ?_
    refine bIast (f' := upd (upd (upd (upd nw (s_spotIndex8_0 nw mm (s_spotCode8_0 nw) + 34) (s_spotCode8_0 nw)) (s_spotIndex8_0 nw mm (s_spotCode8_0 nw) + 154) 0) 33 (((upd (upd nw (s_spotIndex8_0 nw mm (s_spotCode8_0 nw) + 34) (s_spotCode8_0 nw)) (s_spotIndex8_0 nw mm (s_spotCode8_0 nw) + 154) 0) 33) + 1)) (s_spotIndex8_0 nw mm (s_spotCode8_0 nw) + 154) (((upd (upd (upd nw (s_spotIndex8_0 nw mm (s_spotCode8_0 nw) + 34) (s_spotCode8_0 nw)) (s_spotIndex8_0 nw mm (s_spotCode8_0 nw) + 154) 0) 33 (((upd (upd nw (s_spotIndex8_0 nw mm (s_spotCode8_0 nw) + 34) (s_spotCode8_0 nw)) (s_spotIndex8_0 nw mm (s_spotCode8_0 nw) + 154) 0) 33) + 1)) (s_spotIndex8_0 nw mm (s_spotCode8_0 nw) + 154)) + 1)) (ws' := [(mM, .inr (8, [.ref mN, .ref mR, .ref mA, .ref mP, .int ch, .ref mT, .int le, .int sp, .ref mD])), (mN, .inl (cyI, 515, .inl (upd (upd (upd (upd nw (s_spotIndex8_0 nw mm (s_spotCode8_0 nw) + 34) (s_spotCode8_0 nw)) (s_spotIndex8_0 nw mm (s_spotCode8_0 nw) + 154) 0) 33 (((upd (upd nw (s_spotIndex8_0 nw mm (s_spotCode8_0 nw) + 34) (s_spotCode8_0 nw)) (s_spotIndex8_0 nw mm (s_spotCode8_0 nw) + 154) 0) 33) + 1)) (s_spotIndex8_0 nw mm (s_spotCode8_0 nw) + 154) (((upd (upd (upd nw (s_spotIndex8_0 nw mm (s_spotCode8_0 nw) + 34) (s_spotCode8_0 nw)) (s_spotIndex8_0 nw mm (s_spotCode8_0 nw) + 154) 0) 33 (((upd (upd nw (s_spotIndex8_0 nw mm (s_spotCode8_0 nw) + 34) (s_spotCode8_0 nw)) (s_spotIndex8_0 nw mm (s_spotCode8_0 nw) + 154) 0) 33) + 1)) (s_spotIndex8_0 nw mm (s_spotCode8_0 nw) + 154)) + 1))))]) X Y 1 rfl (bIn (by omega) (by decide)) (bIdxs (by omega)) rfl dX8_counts_84 (fun H locs Y => ?_)
    have h9 := (Prod.mk.inj hu).1
    subst h9
    exact bEndV X Y hr hlk dX8_counts_85 rfl
def s_counts8_1 (nw : Nat → Int32) (mm : Nat ) : (Nat → Int32) × Unit :=
  if nI (s_spotIndex8_1 nw mm (s_spotCode8_1 nw)) = (nI mm) then
    (upd (upd (upd (upd nw (s_spotIndex8_1 nw mm (s_spotCode8_1 nw) + 275) (s_spotCode8_1 nw)) (s_spotIndex8_1 nw mm (s_spotCode8_1 nw) + 395) 0) 274 (((upd (upd nw (s_spotIndex8_1 nw mm (s_spotCode8_1 nw) + 275) (s_spotCode8_1 nw)) (s_spotIndex8_1 nw mm (s_spotCode8_1 nw) + 395) 0) 274) + 1)) (s_spotIndex8_1 nw mm (s_spotCode8_1 nw) + 395) (((upd (upd (upd nw (s_spotIndex8_1 nw mm (s_spotCode8_1 nw) + 275) (s_spotCode8_1 nw)) (s_spotIndex8_1 nw mm (s_spotCode8_1 nw) + 395) 0) 274 (((upd (upd nw (s_spotIndex8_1 nw mm (s_spotCode8_1 nw) + 275) (s_spotCode8_1 nw)) (s_spotIndex8_1 nw mm (s_spotCode8_1 nw) + 395) 0) 274) + 1)) (s_spotIndex8_1 nw mm (s_spotCode8_1 nw) + 395)) + 1), ())
  else
    (upd nw (s_spotIndex8_1 nw mm (s_spotCode8_1 nw) + 395) ((nw (s_spotIndex8_1 nw mm (s_spotCode8_1 nw) + 395)) + 1), ())
set_option maxHeartbeats 4000000 in
set_option maxRecDepth 100000 in
theorem c_counts8_1 (l : Launch) (D : va_G) (cyC cyI : ClassId) (mM : Nat) (mN : Nat) (mR : Nat) (mA : Nat) (mP : Nat) (mT : Nat) (mD : Nat) (ch : Int32) (le : Int32) (sp : Int32) (nw : Nat → Int32) (mm : Nat ) (o0 : Nat → Int32) (hu : s_counts8_1 nw mm = (o0, ())) (hk : nw 274 = nI mm) (hm : mm ≤ 120) (hlt : (s_spotIndex8_1 nw mm (s_spotCode8_1 nw)) < 120) : CV l yX8_counts wsX8_counts { frames := 2, cells := 0, slots := 0, locals := 44 } D cyC cyI [.ref mM, .int 1] [(mM, .inr (8, [.ref mN, .ref mR, .ref mA, .ref mP, .int ch, .ref mT, .int le, .int sp, .ref mD])), (mN, .inl (cyI, 515, .inl nw))] [(mM, .inr (8, [.ref mN, .ref mR, .ref mA, .ref mP, .int ch, .ref mT, .int le, .int sp, .ref mD])), (mN, .inl (cyI, 515, .inl o0))] := by
  refine CV.of (cc := cX8_counts) (n := 5) (ret := none) (by decide +kernel) rfl (Nat.le_of_ble_eq_true rfl) ?_
  intro p_ e_ s_ m_ bl_ me_ cd_ A_ ls X Y hr hlk hl
  have hx := X.1.1
  have hb := X.1.2.1
  have hl : lv_has ls 5 [(0, .ref mM), (1, .int 1)] := hl
  unfold s_counts8_1 at hu
  refine lv_iload_n hx hb dX8_counts_0 rfl (lv_at hl 1 rfl) ?_
  refine bSI (As := [.int 1]) (rest := []) X Y (c_spotPlace8 l D cyC cyI 1 274 (by decide +kernel)) gX8_counts_X8_spotPlace rfl ⟨rfl, rfl⟩ hd_X8_spotPlace.2 ⟨(Nat.le_of_ble_eq_true rfl), (Nat.le_of_ble_eq_true rfl)⟩ rfl rfl hl.1 (Nat.le_of_ble_eq_true rfl) ⟨Nat.zero_le _, Nat.zero_le _⟩ dX8_counts_1 (fun H locs Y => ?_)
  refine lv_istore_n (lv' := [(2, .int 274), (0, .ref mM), (1, .int 1)]) hx hb dX8_counts_4 rfl hl (by decide) rfl (fun ls hl => ?_)
  refine lv_aload_n hx hb dX8_counts_5 rfl (lv_at hl 1 rfl) ?_
  refine lv_iload_n hx hb dX8_counts_6 rfl (lv_at hl 2 rfl) ?_
  refine bVI0 (As := [.int 1]) (rest := []) (wc := [(mM, .inr (8, [.ref mN, .ref mR, .ref mA, .ref mP, .int ch, .ref mT, .int le, .int sp, .ref mD])), (mN, .inl (cyI, 515, .inl nw))]) (ci := 8) (q0 := 0) X Y (c_spotCode8_1 l D cyC cyI mM mN mR mA mP mT mD ch le sp nw (s_spotCode8_1 nw) rfl) gX8_counts_X8_spotCode rfl ⟨rfl, rfl⟩ hd_X8_spotCode ⟨(Nat.le_of_ble_eq_true rfl), (Nat.le_of_ble_eq_true rfl)⟩ rfl rfl rfl [0, 1] rfl rfl rfl rfl hl.1 (Nat.le_of_ble_eq_true rfl) ⟨Nat.zero_le _, Nat.zero_le _⟩ dX8_counts_7 (fun H locs Y => ?_)
  refine lv_istore_n (lv' := [(3, .int (s_spotCode8_1 nw)), (2, .int 274), (0, .ref mM), (1, .int 1)]) hx hb dX8_counts_10 rfl hl (by decide) rfl (fun ls hl => ?_)
  refine lv_aload_n hx hb dX8_counts_11 rfl (lv_at hl 2 rfl) ?_
  refine lv_iload_n hx hb dX8_counts_12 rfl (lv_at hl 3 rfl) ?_
  refine lv_iload_n hx hb dX8_counts_13 rfl (lv_at hl 0 rfl) ?_
  refine bVI0 (As := [.int 1, .int (s_spotCode8_1 nw)]) (rest := []) (wc := [(mM, .inr (8, [.ref mN, .ref mR, .ref mA, .ref mP, .int ch, .ref mT, .int le, .int sp, .ref mD])), (mN, .inl (cyI, 515, .inl nw))]) (ci := 8) (q0 := 0) X Y (c_spotIndex8_1 l D cyC cyI mM mN mR mA mP mT mD ch le sp nw mm (s_spotCode8_1 nw) (s_spotIndex8_1 nw mm (s_spotCode8_1 nw)) rfl (by first | assumption | omega | decide) (by first | assumption | omega | decide)) gX8_counts_X8_spotIndex rfl ⟨rfl, rfl⟩ hd_X8_spotIndex ⟨(Nat.le_of_ble_eq_true rfl), (Nat.le_of_ble_eq_true rfl)⟩ rfl rfl rfl [0, 1] rfl rfl rfl rfl hl.1 (Nat.le_of_ble_eq_true rfl) ⟨Nat.zero_le _, Nat.zero_le _⟩ dX8_counts_14 (fun H locs Y => ?_)
  refine lv_istore (lv' := [(4, .int (nI (s_spotIndex8_1 nw mm (s_spotCode8_1 nw)))), (3, .int (s_spotCode8_1 nw)), (2, .int 274), (0, .ref mM), (1, .int 1)]) hx hb dX8_counts_17 hl (by decide) rfl (fun ls hl => ?_)
  refine lv_iload hx hb dX8_counts_19 (lv_at hl 0 rfl) ?_
  refine lv_aload_n hx hb dX8_counts_21 rfl (lv_at hl 3 rfl) ?_
  refine bGet (v := .ref mN) (T := TX8) (N := 9) (ci := 8) X Y i_X8_counts_X8 0 rfl rfl 0 (Nat.le_of_ble_eq_true rfl) f_X8_counts_7 rfl rfl dX8_counts_22 ?_
  refine lv_iload_n hx hb dX8_counts_25 rfl (lv_at hl 2 rfl) ?_
  refine bIald (v := nI mm) X Y 1 rfl (bInD (by decide)) dX8_counts_26 hk ?_
  refine lv_icmp_ne (tgt := 67) hx hb dX8_counts_27 (by decide) (fun c_1 => ?_) (fun c_1 => ?_)
  · have c_1 : ¬ (nI (s_spotIndex8_1 nw mm (s_spotCode8_1 nw)) = (nI mm)) := c_1
    rw [if_neg c_1] at hu
    refine lv_aload_n hx hb dX8_counts_67 rfl (lv_at hl 3 rfl) ?_
    refine bGet (v := .ref mN) (T := TX8) (N := 9) (ci := 8) X Y i_X8_counts_X8 0 rfl rfl 0 (Nat.le_of_ble_eq_true rfl) f_X8_counts_7 rfl rfl dX8_counts_68 ?_
    refine lv_iload_n hx hb dX8_counts_71 rfl (lv_at hl 2 rfl) ?_
    refine lv_iconst (v := 1) hx hb dX8_counts_72 (by decide) ?_
    refine bAdd (v := 275) X dX8_counts_73 (by decide) ?_
    refine lv_bipush (v := 120) hx hb dX8_counts_74 (by decide) ?_
    refine bAdd (v := 395) X dX8_counts_76 (by decide) ?_
    refine lv_iload hx hb dX8_counts_77 (lv_at hl 0 rfl) ?_
    refine bAdd (v := nI (s_spotIndex8_1 nw mm (s_spotCode8_1 nw) + 395)) X dX8_counts_79 (nI_sum (a := 395) (b := (s_spotIndex8_1 nw mm (s_spotCode8_1 nw))) rfl rfl (by omega)) ?_
    refine lv_dup2_11 hx hb dX8_counts_80 rfl rfl ?_
    refine bIald (v := nw (s_spotIndex8_1 nw mm (s_spotCode8_1 nw) + 395)) X Y 1 rfl (bIn (by omega) (by decide)) dX8_counts_81 (bIdx (by omega)) ?_
    refine lv_iconst (v := 1) hx hb dX8_counts_82 (by decide) ?_
    refine bAdd (v := (nw (s_spotIndex8_1 nw mm (s_spotCode8_1 nw) + 395)) + 1) X dX8_counts_83 rfl ?_
    refine bIast (f' := upd nw (s_spotIndex8_1 nw mm (s_spotCode8_1 nw) + 395) ((nw (s_spotIndex8_1 nw mm (s_spotCode8_1 nw) + 395)) + 1)) (ws' := [(mM, .inr (8, [.ref mN, .ref mR, .ref mA, .ref mP, .int ch, .ref mT, .int le, .int sp, .ref mD])), (mN, .inl (cyI, 515, .inl (upd nw (s_spotIndex8_1 nw mm (s_spotCode8_1 nw) + 395) ((nw (s_spotIndex8_1 nw mm (s_spotCode8_1 nw) + 395)) + 1))))]) X Y 1 rfl (bIn (by omega) (by decide)) (bIdxs (by omega)) rfl dX8_counts_84 (fun H locs Y => ?_)
    have h9 := (Prod.mk.inj hu).1
    subst h9
    exact bEndV X Y hr hlk dX8_counts_85 rfl
  · have c_1 : nI (s_spotIndex8_1 nw mm (s_spotCode8_1 nw)) = (nI mm) := c_1
    rw [if_pos c_1] at hu
    refine lv_aload_n hx hb dX8_counts_30 rfl (lv_at hl 3 rfl) ?_
    refine bGet (v := .ref mN) (T := TX8) (N := 9) (ci := 8) X Y i_X8_counts_X8 0 rfl rfl 0 (Nat.le_of_ble_eq_true rfl) f_X8_counts_7 rfl rfl dX8_counts_31 ?_
    refine lv_iload_n hx hb dX8_counts_34 rfl (lv_at hl 2 rfl) ?_
    refine lv_iconst (v := 1) hx hb dX8_counts_35 (by decide) ?_
    refine bAdd (v := 275) X dX8_counts_36 (by decide) ?_
    refine lv_iload hx hb dX8_counts_37 (lv_at hl 0 rfl) ?_
    refine bAdd (v := nI (s_spotIndex8_1 nw mm (s_spotCode8_1 nw) + 275)) X dX8_counts_39 (nI_sum (a := 275) (b := (s_spotIndex8_1 nw mm (s_spotCode8_1 nw))) rfl rfl (by omega)) ?_
    refine lv_iload_n hx hb dX8_counts_40 rfl (lv_at hl 1 rfl) ?_
    refine bIast (f' := upd nw (s_spotIndex8_1 nw mm (s_spotCode8_1 nw) + 275) (s_spotCode8_1 nw)) (ws' := [(mM, .inr (8, [.ref mN, .ref mR, .ref mA, .ref mP, .int ch, .ref mT, .int le, .int sp, .ref mD])), (mN, .inl (cyI, 515, .inl (upd nw (s_spotIndex8_1 nw mm (s_spotCode8_1 nw) + 275) (s_spotCode8_1 nw))))]) X Y 1 rfl (bIn (by omega) (by decide)) (bIdxs (by omega)) rfl dX8_counts_41 (fun H locs Y => ?_)
    refine lv_aload_n hx hb dX8_counts_42 rfl (lv_at hl 3 rfl) ?_
    refine bGet (v := .ref mN) (T := TX8) (N := 9) (ci := 8) X Y i_X8_counts_X8 0 rfl rfl 0 (Nat.le_of_ble_eq_true rfl) f_X8_counts_7 rfl rfl dX8_counts_43 ?_
    refine lv_iload_n hx hb dX8_counts_46 rfl (lv_at hl 2 rfl) ?_
    refine lv_iconst (v := 1) hx hb dX8_counts_47 (by decide) ?_
    refine bAdd (v := 275) X dX8_counts_48 (by decide) ?_
    refine lv_bipush (v := 120) hx hb dX8_counts_49 (by decide) ?_
    refine bAdd (v := 395) X dX8_counts_51 (by decide) ?_
    refine lv_iload hx hb dX8_counts_52 (lv_at hl 0 rfl) ?_
    refine bAdd (v := nI (s_spotIndex8_1 nw mm (s_spotCode8_1 nw) + 395)) X dX8_counts_54 (nI_sum (a := 395) (b := (s_spotIndex8_1 nw mm (s_spotCode8_1 nw))) rfl rfl (by omega)) ?_
    refine lv_iconst (v := 0) hx hb dX8_counts_55 (by decide) ?_
    refine bIast (f' := upd (upd nw (s_spotIndex8_1 nw mm (s_spotCode8_1 nw) + 275) (s_spotCode8_1 nw)) (s_spotIndex8_1 nw mm (s_spotCode8_1 nw) + 395) 0) (ws' := [(mM, .inr (8, [.ref mN, .ref mR, .ref mA, .ref mP, .int ch, .ref mT, .int le, .int sp, .ref mD])), (mN, .inl (cyI, 515, .inl (upd (upd nw (s_spotIndex8_1 nw mm (s_spotCode8_1 nw) + 275) (s_spotCode8_1 nw)) (s_spotIndex8_1 nw mm (s_spotCode8_1 nw) + 395) 0)))]) X Y 1 rfl (bIn (by omega) (by decide)) (bIdxs (by omega)) rfl dX8_counts_56 (fun H locs Y => ?_)
    refine lv_aload_n hx hb dX8_counts_57 rfl (lv_at hl 3 rfl) ?_
    refine bGet (v := .ref mN) (T := TX8) (N := 9) (ci := 8) X Y i_X8_counts_X8 0 rfl rfl 0 (Nat.le_of_ble_eq_true rfl) f_X8_counts_7 rfl rfl dX8_counts_58 ?_
    refine lv_iload_n hx hb dX8_counts_61 rfl (lv_at hl 2 rfl) ?_
    refine lv_dup2_11 hx hb dX8_counts_62 rfl rfl ?_
    refine bIald (v := (upd (upd nw (s_spotIndex8_1 nw mm (s_spotCode8_1 nw) + 275) (s_spotCode8_1 nw)) (s_spotIndex8_1 nw mm (s_spotCode8_1 nw) + 395) 0) 274) X Y 1 rfl (bInD (by decide)) dX8_counts_63 rfl ?_
    refine lv_iconst (v := 1) hx hb dX8_counts_64 (by decide) ?_
    refine bAdd (v := ((upd (upd nw (s_spotIndex8_1 nw mm (s_spotCode8_1 nw) + 275) (s_spotCode8_1 nw)) (s_spotIndex8_1 nw mm (s_spotCode8_1 nw) + 395) 0) 274) + 1) X dX8_counts_65 rfl ?_
    refine bIast (f' := upd (upd (upd nw (s_spotIndex8_1 nw mm (s_spotCode8_1 nw) + 275) (s_spotCode8_1 nw)) (s_spotIndex8_1 nw mm (s_spotCode8_1 nw) + 395) 0) 274 (((upd (upd nw (s_spotIndex8_1 nw mm (s_spotCode8_1 nw) + 275) (s_spotCode8_1 nw)) (s_spotIndex8_1 nw mm (s_spotCode8_1 nw) + 395) 0) 274) + 1)) (ws' := [(mM, .inr (8, [.ref mN, .ref mR, .ref mA, .ref mP, .int ch, .ref mT, .int le, .int sp, .ref mD])), (mN, .inl (cyI, 515, .inl (upd (upd (upd nw (s_spotIndex8_1 nw mm (s_spotCode8_1 nw) + 275) (s_spotCode8_1 nw)) (s_spotIndex8_1 nw mm (s_spotCode8_1 nw) + 395) 0) 274 (((upd (upd nw (s_spotIndex8_1 nw mm (s_spotCode8_1 nw) + 275) (s_spotCode8_1 nw)) (s_spotIndex8_1 nw mm (s_spotCode8_1 nw) + 395) 0) 274) + 1))))]) X Y 1 rfl (bInD (by decide)) rfl rfl dX8_counts_66 (fun H locs Y => ?_)
    refine lv_aload_n hx hb dX8_counts_67 rfl (lv_at hl 3 rfl) ?_
    refine bGet (v := .ref mN) (T := TX8) (N := 9) (ci := 8) X Y i_X8_counts_X8 0 rfl rfl 0 (Nat.le_of_ble_eq_true rfl) f_X8_counts_7 rfl rfl dX8_counts_68 ?_
    refine lv_iload_n hx hb dX8_counts_71 rfl (lv_at hl 2 rfl) ?_
    refine lv_iconst (v := 1) hx hb dX8_counts_72 (by decide) ?_
    refine bAdd (v := 275) X dX8_counts_73 (by decide) ?_
    refine lv_bipush (v := 120) hx hb dX8_counts_74 (by decide) ?_
    refine bAdd (v := 395) X dX8_counts_76 (by decide) ?_
    refine lv_iload hx hb dX8_counts_77 (lv_at hl 0 rfl) ?_
    refine bAdd (v := nI (s_spotIndex8_1 nw mm (s_spotCode8_1 nw) + 395)) X dX8_counts_79 (nI_sum (a := 395) (b := (s_spotIndex8_1 nw mm (s_spotCode8_1 nw))) rfl rfl (by omega)) ?_
    refine lv_dup2_11 hx hb dX8_counts_80 rfl rfl ?_
    refine bIald (v := (upd (upd (upd nw (s_spotIndex8_1 nw mm (s_spotCode8_1 nw) + 275) (s_spotCode8_1 nw)) (s_spotIndex8_1 nw mm (s_spotCode8_1 nw) + 395) 0) 274 (((upd (upd nw (s_spotIndex8_1 nw mm (s_spotCode8_1 nw) + 275) (s_spotCode8_1 nw)) (s_spotIndex8_1 nw mm (s_spotCode8_1 nw) + 395) 0) 274) + 1)) (s_spotIndex8_1 nw mm (s_spotCode8_1 nw) + 395)) X Y 1 rfl (bIn (by omega) (by decide)) dX8_counts_81 (bIdx (by omega)) ?_
    refine lv_iconst (v := 1) hx hb dX8_counts_82 (by decide) ?_
    refine bAdd (v := ((upd (upd (upd nw (s_spotIndex8_1 nw mm (s_spotCode8_1 nw) + 275) (s_spotCode8_1 nw)) (s_spotIndex8_1 nw mm (s_spotCode8_1 nw) + 395) 0) 274 (((upd (upd nw (s_spotIndex8_1 nw mm (s_spotCode8_1 nw) + 275) (s_spotCode8_1 nw)) (s_spotIndex8_1 nw mm (s_spotCode8_1 nw) + 395) 0) 274) + 1)) (s_spotIndex8_1 nw mm (s_spotCode8_1 nw) + 395)) + 1) X dX8_counts_83 rfl ?_
    refine bIast (f' := upd (upd (upd (upd nw (s_spotIndex8_1 nw mm (s_spotCode8_1 nw) + 275) (s_spotCode8_1 nw)) (s_spotIndex8_1 nw mm (s_spotCode8_1 nw) + 395) 0) 274 (((upd (upd nw (s_spotIndex8_1 nw mm (s_spotCode8_1 nw) + 275) (s_spotCode8_1 nw)) (s_spotIndex8_1 nw mm (s_spotCode8_1 nw) + 395) 0) 274) + 1)) (s_spotIndex8_1 nw mm (s_spotCode8_1 nw) + 395) (((upd (upd (upd nw (s_spotIndex8_1 nw mm (s_spotCode8_1 nw) + 275) (s_spotCode8_1 nw)) (s_spotIndex8_1 nw mm (s_spotCode8_1 nw) + 395) 0) 274 (((upd (upd nw (s_spotIndex8_1 nw mm (s_spotCode8_1 nw) + 275) (s_spotCode8_1 nw)) (s_spotIndex8_1 nw mm (s_spotCode8_1 nw) + 395) 0) 274) + 1)) (s_spotIndex8_1 nw mm (s_spotCode8_1 nw) + 395)) + 1)) (ws' := [(mM, .inr (8, [.ref mN, .ref mR, .ref mA, .ref mP, .int ch, .ref mT, .int le, .int sp, .ref mD])), (mN, .inl (cyI, 515, .inl (upd (upd (upd (upd nw (s_spotIndex8_1 nw mm (s_spotCode8_1 nw) + 275) (s_spotCode8_1 nw)) (s_spotIndex8_1 nw mm (s_spotCode8_1 nw) + 395) 0) 274 (((upd (upd nw (s_spotIndex8_1 nw mm (s_spotCode8_1 nw) + 275) (s_spotCode8_1 nw)) (s_spotIndex8_1 nw mm (s_spotCode8_1 nw) + 395) 0) 274) + 1)) (s_spotIndex8_1 nw mm (s_spotCode8_1 nw) + 395) (((upd (upd (upd nw (s_spotIndex8_1 nw mm (s_spotCode8_1 nw) + 275) (s_spotCode8_1 nw)) (s_spotIndex8_1 nw mm (s_spotCode8_1 nw) + 395) 0) 274 (((upd (upd nw (s_spotIndex8_1 nw mm (s_spotCode8_1 nw) + 275) (s_spotCode8_1 nw)) (s_spotIndex8_1 nw mm (s_spotCode8_1 nw) + 395) 0) 274) + 1)) (s_spotIndex8_1 nw mm (s_spotCode8_1 nw) + 395)) + 1))))]) X Y 1 rfl (bIn (by omega) (by decide)) (bIdxs (by omega)) rfl dX8_counts_84 (fun H locs Y => ?_)
    have h9 := (Prod.mk.inj hu).1
    subst h9
    exact bEndV X Y hr hlk dX8_counts_85 rfl
