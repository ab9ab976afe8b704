theorem i_X3_put_X3 : ∀ w ∈ wsX30, w ∈ wsX3_put := by decide +kernel
theorem f_X3_put_11 : Cond.fieldLink RX3 11 "SwingCranes$Spots" "names" "[I" ∈ wsX3_put := by decide +kernel
theorem f_X3_put_15 : Cond.fieldLink RX3 15 "SwingCranes$Spots" "ticks" "[I" ∈ wsX3_put := by decide +kernel
def s_put (af : Nat → Int32) (ag : Nat → Int32) (k : Int32) (nm : Int32) (to : Int32) : (Nat → Int32) × (Nat → Int32) :=
  if k < 0 then
    (af, ag)
  else
    if 120 ≤ k then
      (af, ag)
    else
      (upd af k.toNatClampNeg nm, upd ag k.toNatClampNeg to)
set_option maxHeartbeats 4000000 in
set_option maxRecDepth 100000 in
theorem c_put (l : Launch) (D : va_G) (cyC cyI : ClassId) (h : Nat) (hn : Nat) (ht : Nat) (am : Int32) (af : Nat → Int32) (ag : Nat → Int32) (k : Int32) (nm : Int32) (to : Int32) (o0 : Nat → Int32) (o1 : Nat → Int32) (hu : s_put af ag k nm to = (o0, o1)) : CV l yX3_put wsX3_put { frames := 0, cells := 0, slots := 0, locals := 0 } D cyC cyI [.ref h, .int k, .int nm, .int to] [(h, .inr (3, [.ref hn, .ref ht, .int am])), (hn, .inl (cyI, 120, .inl af)), (ht, .inl (cyI, 120, .inl ag))] [(h, .inr (3, [.ref hn, .ref ht, .int am])), (hn, .inl (cyI, 120, .inl o0)), (ht, .inl (cyI, 120, .inl o1))] := by
  refine CV.of (cc := cX3_put) (n := 4) (ret := none) (by decide +kernel) rfl (Nat.le_of_ble_eq_true rfl) ?_
  intro p_ e_ s_ m_ bl_ me_ cd_ A_ ls X Y hr hlk hl
  have hx := X.1.1
  have hb := X.1.2.1
  have hl : lv_has ls 4 [(0, .ref h), (1, .int k), (2, .int nm), (3, .int to)] := hl
  unfold s_put at hu
  refine lv_iload_n hx hb dX3_put_0 rfl (lv_at hl 1 rfl) ?_
  refine lv_if_lt (tgt := 36) hx hb dX3_put_1 (by decide) (fun c_1 => ?_) (fun c_1 => ?_)
  · have c_1 : k < 0 := c_1
    rw [if_pos c_1] at hu
    have h9 := (Prod.mk.inj hu).1; replace hu := (Prod.mk.inj hu).2; subst h9
    subst hu
    exact bEndV X Y hr hlk dX3_put_36 rfl
  · have c_1 : ¬ (k < 0) := c_1
    rw [if_neg c_1] at hu
    refine lv_iload_n hx hb dX3_put_4 rfl (lv_at hl 1 rfl) ?_
    refine lv_aload_n hx hb dX3_put_5 rfl (lv_at hl 0 rfl) ?_
    refine bGet (v := .ref hn) (T := TX3) (N := 3) (ci := 3) X Y i_X3_put_X3 0 rfl rfl 0 (Nat.le_of_ble_eq_true rfl) f_X3_put_11 rfl rfl dX3_put_6 ?_
    refine bLen (v := 120) X Y 1 1 rfl rfl rfl dX3_put_9 ?_
    refine lv_icmp_ge (tgt := 36) hx hb dX3_put_10 (by decide) (fun c_2 => ?_) (fun c_2 => ?_)
    · have c_2 : 120 ≤ k := c_2
      rw [if_pos c_2] at hu
      have h9 := (Prod.mk.inj hu).1; replace hu := (Prod.mk.inj hu).2; subst h9
      subst hu
      exact bEndV X Y hr hlk dX3_put_36 rfl
    · have c_2 : ¬ (120 ≤ k) := c_2
      rw [if_neg c_2] at hu
      refine lv_iload_n hx hb dX3_put_13 rfl (lv_at hl 1 rfl) ?_
      refine lv_aload_n hx hb dX3_put_14 rfl (lv_at hl 0 rfl) ?_
      refine bGet (v := .ref ht) (T := TX3) (N := 3) (ci := 3) X Y i_X3_put_X3 0 rfl rfl 1 (Nat.le_of_ble_eq_true rfl) f_X3_put_15 rfl rfl dX3_put_15 ?_
      refine bLen (v := 120) X Y 2 1 rfl rfl rfl dX3_put_18 ?_
      refine lv_icmp_ge (tgt := 36) hx hb dX3_put_19 (by decide) (fun c_3 => ?_) (fun c_3 => ?_)
      · have c_3 : 120 ≤ k := c_3
        exact absurd c_3 c_2
      · have c_3 : ¬ (120 ≤ k) := c_3
        refine lv_aload_n hx hb dX3_put_22 rfl (lv_at hl 0 rfl) ?_
        refine bGet (v := .ref hn) (T := TX3) (N := 3) (ci := 3) X Y i_X3_put_X3 0 rfl rfl 0 (Nat.le_of_ble_eq_true rfl) f_X3_put_11 rfl rfl dX3_put_23 ?_
        refine lv_iload_n hx hb dX3_put_26 rfl (lv_at hl 1 rfl) ?_
        refine lv_iload_n hx hb dX3_put_27 rfl (lv_at hl 2 rfl) ?_
        refine bIast (f' := upd af k.toNatClampNeg nm) (ws' := [(h, .inr (3, [.ref hn, .ref ht, .int am])), (hn, .inl (cyI, 120, .inl (upd af k.toNatClampNeg nm))), (ht, .inl (cyI, 120, .inl ag))]) X Y 1 rfl (by first | assumption | exact bInK (x := 120) (N := 120) (by assumption) (by assumption) rfl (by decide) | exact bInK2 (x := 120) (N := 120) (by assumption) (by assumption) rfl (by decide)) rfl rfl dX3_put_28 (fun H locs Y => ?_)
        refine lv_aload_n hx hb dX3_put_29 rfl (lv_at hl 0 rfl) ?_
        refine bGet (v := .ref ht) (T := TX3) (N := 3) (ci := 3) X Y i_X3_put_X3 0 rfl rfl 1 (Nat.le_of_ble_eq_true rfl) f_X3_put_15 rfl rfl dX3_put_30 ?_
        refine lv_iload_n hx hb dX3_put_33 rfl (lv_at hl 1 rfl) ?_
        refine lv_iload_n hx hb dX3_put_34 rfl (lv_at hl 3 rfl) ?_
        refine bIast (f' := upd ag k.toNatClampNeg to) (ws' := [(h, .inr (3, [.ref hn, .ref ht, .int am])), (hn, .inl (cyI, 120, .inl (upd af k.toNatClampNeg nm))), (ht, .inl (cyI, 120, .inl (upd ag k.toNatClampNeg to)))]) X Y 2 rfl (by first | assumption | exact bInK (x := 120) (N := 120) (by assumption) (by assumption) rfl (by decide) | exact bInK2 (x := 120) (N := 120) (by assumption) (by assumption) rfl (by decide)) rfl rfl dX3_put_35 (fun H locs Y => ?_)
        have h9 := (Prod.mk.inj hu).1; replace hu := (Prod.mk.inj hu).2; subst h9
        subst hu
        exact bEndV X Y hr hlk dX3_put_36 rfl
def s_nameOf (b : Int32) (f : Int32) : Int32 :=
  (b * 100) + f
set_option maxHeartbeats 4000000 in
set_option maxRecDepth 100000 in
theorem c_nameOf (l : Launch) (D : va_G) (cyC cyI : ClassId) (h : Nat) (hn : Nat) (ht : Nat) (am : Int32) (af : Nat → Int32) (ag : Nat → Int32) (b : Int32) (f : Int32) (o0 : Int32) (hu : s_nameOf b f = o0) : CI l yX3_nameOf wsX3_nameOf { frames := 0, cells := 0, slots := 0, locals := 0 } D cyC cyI [.ref h, .int b, .int f] [(h, .inr (3, [.ref hn, .ref ht, .int am])), (hn, .inl (cyI, 120, .inl af)), (ht, .inl (cyI, 120, .inl ag))] o0 [(h, .inr (3, [.ref hn, .ref ht, .int am])), (hn, .inl (cyI, 120, .inl af)), (ht, .inl (cyI, 120, .inl ag))] := by
  refine CI.of (cc := cX3_nameOf) (n := 3) (ret := (some .int)) (by decide +kernel) rfl (Nat.le_of_ble_eq_true rfl) ?_
  intro p_ e_ s_ m_ bl_ me_ cd_ A_ ls X Y hr hlk hl
  have hx := X.1.1
  have hb := X.1.2.1
  have hl : lv_has ls 3 [(0, .ref h), (1, .int b), (2, .int f)] := hl
  unfold s_nameOf at hu
  refine lv_iload_n hx hb dX3_nameOf_0 rfl (lv_at hl 1 rfl) ?_
  refine lv_bipush (v := 100) hx hb dX3_nameOf_1 (by decide) ?_
  refine bMul (v := b * 100) X dX3_nameOf_3 rfl ?_
  refine lv_iload_n hx hb dX3_nameOf_4 rfl (lv_at hl 2 rfl) ?_
  refine bAdd (v := (b * 100) + f) X dX3_nameOf_5 rfl ?_
  subst hu
  exact bEndI X Y hr hlk dX3_nameOf_6 rfl rfl
theorem i_X3_nameAt_X3 : ∀ w ∈ wsX30, w ∈ wsX3_nameAt := by decide +kernel
theorem f_X3_nameAt_11 : Cond.fieldLink RX3 11 "SwingCranes$Spots" "names" "[I" ∈ wsX3_nameAt := by decide +kernel
def s_nameAt (af : Nat → Int32) (k : Int32) : Int32 :=
  if k < 0 then
    0
  else
    if 120 ≤ k then
      0
    else
      af k.toNatClampNeg
set_option maxHeartbeats 4000000 in
set_option maxRecDepth 100000 in
theorem c_nameAt (l : Launch) (D : va_G) (cyC cyI : ClassId) (h : Nat) (hn : Nat) (ht : Nat) (am : Int32) (af : Nat → Int32) (ag : Nat → Int32) (k : Int32) (o0 : Int32) (hu : s_nameAt af k = o0) : CI l yX3_nameAt wsX3_nameAt { frames := 0, cells := 0, slots := 0, locals := 0 } D cyC cyI [.ref h, .int k] [(h, .inr (3, [.ref hn, .ref ht, .int am])), (hn, .inl (cyI, 120, .inl af)), (ht, .inl (cyI, 120, .inl ag))] o0 [(h, .inr (3, [.ref hn, .ref ht, .int am])), (hn, .inl (cyI, 120, .inl af)), (ht, .inl (cyI, 120, .inl ag))] := by
  refine CI.of (cc := cX3_nameAt) (n := 2) (ret := (some .int)) (by decide +kernel) rfl (Nat.le_of_ble_eq_true rfl) ?_
  intro p_ e_ s_ m_ bl_ me_ cd_ A_ ls X Y hr hlk hl
  have hx := X.1.1
  have hb := X.1.2.1
  have hl : lv_has ls 2 [(0, .ref h), (1, .int k)] := hl
  unfold s_nameAt at hu
  refine lv_iload_n hx hb dX3_nameAt_0 rfl (lv_at hl 1 rfl) ?_
  refine lv_if_lt (tgt := 22) hx hb dX3_nameAt_1 (by decide) (fun c_1 => ?_) (fun c_1 => ?_)
  · have c_1 : k < 0 := c_1
    rw [if_pos c_1] at hu
    refine lv_iconst (v := 0) hx hb dX3_nameAt_22 (by decide) ?_
    subst hu
    exact bEndI X Y hr hlk dX3_nameAt_23 rfl rfl
  · have c_1 : ¬ (k < 0) := c_1
    rw [if_neg c_1] at hu
    refine lv_iload_n hx hb dX3_nameAt_4 rfl (lv_at hl 1 rfl) ?_
    refine lv_aload_n hx hb dX3_nameAt_5 rfl (lv_at hl 0 rfl) ?_
    refine bGet (v := .ref hn) (T := TX3) (N := 3) (ci := 3) X Y i_X3_nameAt_X3 0 rfl rfl 0 (Nat.le_of_ble_eq_true rfl) f_X3_nameAt_11 rfl rfl dX3_nameAt_6 ?_
    refine bLen (v := 120) X Y 1 1 rfl rfl rfl dX3_nameAt_9 ?_
    refine lv_icmp_ge (tgt := 22) hx hb dX3_nameAt_10 (by decide) (fun c_2 => ?_) (fun c_2 => ?_)
    · have c_2 : 120 ≤ k := c_2
      rw [if_pos c_2] at hu
      refine lv_iconst (v := 0) hx hb dX3_nameAt_22 (by decide) ?_
      subst hu
      exact bEndI X Y hr hlk dX3_nameAt_23 rfl rfl
    · have c_2 : ¬ (120 ≤ k) := c_2
      rw [if_neg c_2] at hu
      refine lv_aload_n hx hb dX3_nameAt_13 rfl (lv_at hl 0 rfl) ?_
      refine bGet (v := .ref hn) (T := TX3) (N := 3) (ci := 3) X Y i_X3_nameAt_X3 0 rfl rfl 0 (Nat.le_of_ble_eq_true rfl) f_X3_nameAt_11 rfl rfl dX3_nameAt_14 ?_
      refine lv_iload_n hx hb dX3_nameAt_17 rfl (lv_at hl 1 rfl) ?_
      refine bIald (v := af k.toNatClampNeg) X Y 1 rfl (by first | assumption | exact bInK (x := 120) (N := 120) (by assumption) (by assumption) rfl (by decide) | exact bInK2 (x := 120) (N := 120) (by assumption) (by assumption) rfl (by decide)) dX3_nameAt_18 rfl ?_
      refine lv_goto (tgt := 23) hx hb dX3_nameAt_19 (by decide) ?_
      subst hu
      exact bEndI X Y hr hlk dX3_nameAt_23 rfl rfl
theorem i_X3_ticksAt_X3 : ∀ w ∈ wsX30, w ∈ wsX3_ticksAt := by decide +kernel
theorem f_X3_ticksAt_18 : Cond.fieldLink RX3 18 "SwingCranes$Spots" "many" "I" ∈ wsX3_ticksAt := by decide +kernel
theorem f_X3_ticksAt_15 : Cond.fieldLink RX3 15 "SwingCranes$Spots" "ticks" "[I" ∈ wsX3_ticksAt := by decide +kernel
def s_ticksAt (am : Int32) (ag : Nat → Int32) (k : Int32) : Int32 :=
  if k < 0 then
    0
  else
    if am ≤ k then
      0
    else
      if 120 ≤ k then
        0
      else
        ag k.toNatClampNeg
set_option maxHeartbeats 4000000 in
set_option maxRecDepth 100000 in
theorem c_ticksAt (l : Launch) (D : va_G) (cyC cyI : ClassId) (h : Nat) (hn : Nat) (ht : Nat) (am : Int32) (af : Nat → Int32) (ag : Nat → Int32) (k : Int32) (o0 : Int32) (hu : s_ticksAt am ag k = o0) : CI l yX3_ticksAt wsX3_ticksAt { frames := 0, cells := 0, slots := 0, locals := 0 } D cyC cyI [.ref h, .int k] [(h, .inr (3, [.ref hn, .ref ht, .int am])), (hn, .inl (cyI, 120, .inl af)), (ht, .inl (cyI, 120, .inl ag))] o0 [(h, .inr (3, [.ref hn, .ref ht, .int am])), (hn, .inl (cyI, 120, .inl af)), (ht, .inl (cyI, 120, .inl ag))] := by
  refine CI.of (cc := cX3_ticksAt) (n := 2) (ret := (some .int)) (by decide +kernel) rfl (Nat.le_of_ble_eq_true rfl) ?_
  intro p_ e_ s_ m_ bl_ me_ cd_ A_ ls X Y hr hlk hl
  have hx := X.1.1
  have hb := X.1.2.1
  have hl : lv_has ls 2 [(0, .ref h), (1, .int k)] := hl
  unfold s_ticksAt at hu
  refine lv_iload_n hx hb dX3_ticksAt_0 rfl (lv_at hl 1 rfl) ?_
  refine lv_if_lt (tgt := 30) hx hb dX3_ticksAt_1 (by decide) (fun c_1 => ?_) (fun c_1 => ?_)
  · have c_1 : k < 0 := c_1
    rw [if_pos c_1] at hu
    refine lv_iconst (v := 0) hx hb dX3_ticksAt_30 (by decide) ?_
    subst hu
    exact bEndI X Y hr hlk dX3_ticksAt_31 rfl rfl
  · have c_1 : ¬ (k < 0) := c_1
    rw [if_neg c_1] at hu
    refine lv_iload_n hx hb dX3_ticksAt_4 rfl (lv_at hl 1 rfl) ?_
    refine lv_aload_n hx hb dX3_ticksAt_5 rfl (lv_at hl 0 rfl) ?_
    refine bGet (v := .int am) (T := TX3) (N := 3) (ci := 3) X Y i_X3_ticksAt_X3 0 rfl rfl 2 (Nat.le_of_ble_eq_true rfl) f_X3_ticksAt_18 rfl rfl dX3_ticksAt_6 ?_
    refine lv_icmp_ge (tgt := 30) hx hb dX3_ticksAt_9 (by decide) (fun c_2 => ?_) (fun c_2 => ?_)
    · have c_2 : am ≤ k := c_2
      rw [if_pos c_2] at hu
      refine lv_iconst (v := 0) hx hb dX3_ticksAt_30 (by decide) ?_
      subst hu
      exact bEndI X Y hr hlk dX3_ticksAt_31 rfl rfl
    · have c_2 : ¬ (am ≤ k) := c_2
      rw [if_neg c_2] at hu
      refine lv_iload_n hx hb dX3_ticksAt_12 rfl (lv_at hl 1 rfl) ?_
      refine lv_aload_n hx hb dX3_ticksAt_13 rfl (lv_at hl 0 rfl) ?_
      refine bGet (v := .ref ht) (T := TX3) (N := 3) (ci := 3) X Y i_X3_ticksAt_X3 0 rfl rfl 1 (Nat.le_of_ble_eq_true rfl) f_X3_ticksAt_15 rfl rfl dX3_ticksAt_14 ?_
      refine bLen (v := 120) X Y 2 1 rfl rfl rfl dX3_ticksAt_17 ?_
      refine lv_icmp_ge (tgt := 30) hx hb dX3_ticksAt_18 (by decide) (fun c_3 => ?_) (fun c_3 => ?_)
      · have c_3 : 120 ≤ k := c_3
        rw [if_pos c_3] at hu
        refine lv_iconst (v := 0) hx hb dX3_ticksAt_30 (by decide) ?_
        subst hu
        exact bEndI X Y hr hlk dX3_ticksAt_31 rfl rfl
      · have c_3 : ¬ (120 ≤ k) := c_3
        rw [if_neg c_3] at hu
        refine lv_aload_n hx hb dX3_ticksAt_21 rfl (lv_at hl 0 rfl) ?_
        refine bGet (v := .ref ht) (T := TX3) (N := 3) (ci := 3) X Y i_X3_ticksAt_X3 0 rfl rfl 1 (Nat.le_of_ble_eq_true rfl) f_X3_ticksAt_15 rfl rfl dX3_ticksAt_22 ?_
        refine lv_iload_n hx hb dX3_ticksAt_25 rfl (lv_at hl 1 rfl) ?_
        refine bIald (v := ag k.toNatClampNeg) X Y 2 rfl (by first | assumption | exact bInK (x := 120) (N := 120) (by assumption) (by assumption) rfl (by decide) | exact bInK2 (x := 120) (N := 120) (by assumption) (by assumption) rfl (by decide)) dX3_ticksAt_26 rfl ?_
        refine lv_goto (tgt := 31) hx hb dX3_ticksAt_27 (by decide) ?_
        subst hu
        exact bEndI X Y hr hlk dX3_ticksAt_31 rfl rfl
theorem i_X3_find_X3 : ∀ w ∈ wsX30, w ∈ wsX3_find := by decide +kernel
theorem f_X3_find_18 : Cond.fieldLink RX3 18 "SwingCranes$Spots" "many" "I" ∈ wsX3_find := by decide +kernel
theorem hd_X3_nameAt : bD1 yX3_nameAt RX3 1 := by decide +kernel
def g_find (am : Int32) (af : Nat → Int32) (nm : Int32) : Nat → Nat → Int32
  | 0, _ => 0
  | n_ + 1, j =>
    if am ≤ nI j then
      am
    else
      if 120 ≤ nI j then
        am
      else
        if (s_nameAt af (nI j)) = nm then
          nI j
        else
          g_find am af nm n_ (j + 1)
def s_find (am : Int32) (af : Nat → Int32) (nm : Int32) : Int32 :=
  g_find am af nm (121) 0
set_option maxHeartbeats 4000000 in
set_option maxRecDepth 100000 in
theorem lp_find {p_ : Program} {e_ : Env} {s_ : State} {m_ : MethodId} {bl_ : List Frame} {me_ : Method} {cd_ : Code} {A_ : Nat → Prop} (l : Launch) (D : va_G) (cyC cyI : ClassId) (h : Nat) (hn : Nat) (ht : Nat) (am : Int32) (af : Nat → Int32) (ag : Nat → Int32) (nm : Int32) (o0 : Int32) (X : bX p_ s_ m_ ([.ref h, .int nm] : List Value).toArray cd_ cX3_find 3 wsX3_find yX3_find.cls D cyC cyI) (hr : me_.sig.returnType = (some .int)) (hlk : me_.locks = false) : ∀ (n_ : Nat) (j : Nat) (hN : 121 ≤ j + n_) (hJ : j ≤ 120) (hu : g_find am af nm n_ j = o0) (ls : Array Slot) (H : Heap) (locs : List Loc), lv_has ls 3 [(0, .ref h), (1, .int nm), (2, .int (nI j))] → bY D A_ s_.heap [(h, .inr (3, [.ref hn, .ref ht, .int am])), (hn, .inl (cyI, 120, .inl af)), (ht, .inl (cyI, 120, .inl ag))] H locs → W p_ l e_ ({ frames := 1, cells := 0, slots := 0, locals := 21 } : Room) s_ m_ ([.ref h, .int nm] : List Value).toArray bl_ me_ cd_ H locs 0 0 (bQI bl_ ([.ref h, .int nm] : List Value).toArray s_ D [(h, .inr (3, [.ref hn, .ref ht, .int am])), (hn, .inl (cyI, 120, .inl af)), (ht, .inl (cyI, 120, .inl ag))] o0 A_) (F0 m_ 2 ls []) := by
  intro n_
  induction n_ with
  | zero =>
    intro j hN hJ hu ls H locs hl Y
    exfalso; omega
  | succ n_ ih =>
    intro j hN hJ hu ls H locs hl Y
    have hx := X.1.1
    have hb := X.1.2.1
    rw [g_find] at hu
    refine lv_iload_n hx hb dX3_find_2 rfl (lv_at hl 2 rfl) ?_
    refine lv_aload_n hx hb dX3_find_3 rfl (lv_at hl 0 rfl) ?_
    refine bGet (v := .int am) (T := TX3) (N := 3) (ci := 3) X Y i_X3_find_X3 0 rfl rfl 2 (Nat.le_of_ble_eq_true rfl) f_X3_find_18 rfl rfl dX3_find_4 ?_
    refine lv_icmp_ge (tgt := 33) hx hb dX3_find_7 (by decide) (fun c_1 => ?_) (fun c_1 => ?_)
    · have c_1 : am ≤ nI j := c_1
      rw [if_pos c_1] at hu
      refine lv_aload_n hx hb dX3_find_33 rfl (lv_at hl 0 rfl) ?_
      refine bGet (v := .int am) (T := TX3) (N := 3) (ci := 3) X Y i_X3_find_X3 0 rfl rfl 2 (Nat.le_of_ble_eq_true rfl) f_X3_find_18 rfl rfl dX3_find_34 ?_
      subst hu
      exact bEndI X Y hr hlk dX3_find_37 rfl rfl
    · have c_1 : ¬ (am ≤ nI j) := c_1
      rw [if_neg c_1] at hu
      refine lv_iload_n hx hb dX3_find_10 rfl (lv_at hl 2 rfl) ?_
      refine lv_bipush (v := 120) hx hb dX3_find_11 (by decide) ?_
      refine lv_icmp_ge (tgt := 33) hx hb dX3_find_13 (by decide) (fun c_2 => ?_) (fun c_2 => ?_)
      · have c_2 : 120 ≤ nI j := c_2
        rw [if_pos c_2] at hu
        refine lv_aload_n hx hb dX3_find_33 rfl (lv_at hl 0 rfl) ?_
        refine bGet (v := .int am) (T := TX3) (N := 3) (ci := 3) X Y i_X3_find_X3 0 rfl rfl 2 (Nat.le_of_ble_eq_true rfl) f_X3_find_18 rfl rfl dX3_find_34 ?_
        subst hu
        exact bEndI X Y hr hlk dX3_find_37 rfl rfl
      · have c_2 : ¬ (120 ≤ nI j) := c_2
        rw [if_neg c_2] at hu
        refine lv_aload_n hx hb dX3_find_16 rfl (lv_at hl 0 rfl) ?_
        refine lv_iload_n hx hb dX3_find_17 rfl (lv_at hl 2 rfl) ?_
        refine bVI0 (As := [.int (nI j)]) (rest := []) (wc := [(h, .inr (3, [.ref hn, .ref ht, .int am])), (hn, .inl (cyI, 120, .inl af)), (ht, .inl (cyI, 120, .inl ag))]) (ci := 3) (q0 := 0) X Y (c_nameAt l D cyC cyI h hn ht am af ag (nI j) (s_nameAt af (nI j)) rfl) gX3_find_X3_nameAt rfl ⟨rfl, rfl⟩ hd_X3_nameAt ⟨(Nat.le_of_ble_eq_true rfl), (Nat.le_of_ble_eq_true rfl)⟩ rfl rfl rfl [0, 1, 2] rfl rfl rfl rfl hl.1 (Nat.le_of_ble_eq_true rfl) ⟨Nat.zero_le _, Nat.zero_le _⟩ dX3_find_18 (fun H locs Y => ?_)
        refine lv_iload_n hx hb dX3_find_21 rfl (lv_at hl 1 rfl) ?_
        refine lv_icmp_ne (tgt := 27) hx hb dX3_find_22 (by decide) (fun c_3 => ?_) (fun c_3 => ?_)
        · have c_3 : ¬ ((s_nameAt af (nI j)) = nm) := c_3
          rw [if_neg c_3] at hu
          refine lv_iinc (v := nI (j + 1)) (lv' := [(2, .int (nI (j + 1))), (0, .ref h), (1, .int nm)]) hx hb dX3_find_27 hl (k := 2) rfl (nI_inc _) (by decide) rfl (fun ls hl => ?_)
          refine lv_goto (tgt := 2) hx hb dX3_find_30 (by decide) ?_
          exact ih (j + 1) (by omega) (by have := bNle (k := 120) rfl (by omega) (by decide) c_2; omega) hu _ _ _ (lv_sub hl [1, 2, 0] rfl) Y
        · have c_3 : (s_nameAt af (nI j)) = nm := c_3
          rw [if_pos c_3] at hu
          refine lv_iload_n hx hb dX3_find_25 rfl (lv_at hl 2 rfl) ?_
          subst hu
          exact bEndI X Y hr hlk dX3_find_26 rfl rfl
set_option maxHeartbeats 4000000 in
set_option maxRecDepth 100000 in
theorem c_find (l : Launch) (D : va_G) (cyC cyI : ClassId) (h : Nat) (hn : Nat) (ht : Nat) (am : Int32) (af : Nat → Int32) (ag : Nat → Int32) (nm : Int32) (o0 : Int32) (hu : s_find am af nm = o0) : CI l yX3_find wsX3_find { frames := 1, cells := 0, slots := 0, locals := 21 } D cyC cyI [.ref h, .int nm] [(h, .inr (3, [.ref hn, .ref ht, .int am])), (hn, .inl (cyI, 120, .inl af)), (ht, .inl (cyI, 120, .inl ag))] o0 [(h, .inr (3, [.ref hn, .ref ht, .int am])), (hn, .inl (cyI, 120, .inl af)), (ht, .inl (cyI, 120, .inl ag))] := by
  refine CI.of (cc := cX3_find) (n := 3) (ret := (some .int)) (by decide +kernel) rfl (Nat.le_of_ble_eq_true rfl) ?_
  intro p_ e_ s_ m_ bl_ me_ cd_ A_ ls X Y hr hlk hl
  have hx := X.1.1
  have hb := X.1.2.1
  have hl : lv_has ls 3 [(0, .ref h), (1, .int nm)] := hl
  unfold s_find at hu
  refine lv_iconst (v := 0) hx hb dX3_find_0 (by decide) ?_
  refine lv_istore_n (lv' := [(2, .int 0), (0, .ref h), (1, .int nm)]) hx hb dX3_find_1 rfl hl (by decide) rfl (fun ls hl => ?_)
  exact lp_find l D cyC cyI h hn ht am af ag nm o0 X hr hlk (121) 0 (by omega) (by omega) hu _ _ _ (lv_sub hl [1, 2, 0] rfl) Y
theorem hd_X3_nameOf : bD1 yX3_nameOf RX3 2 := by decide +kernel
theorem hd_X3_find : bD1 yX3_find RX3 1 := by decide +kernel
theorem hd_X3_ticksAt : bD1 yX3_ticksAt RX3 1 := by decide +kernel
def s_ticksIn (am : Int32) (af : Nat → Int32) (ag : Nat → Int32) (b : Int32) (f : Int32) : Int32 :=
  (s_ticksAt am ag (s_find am af (s_nameOf b f)))
set_option maxHeartbeats 4000000 in
set_option maxRecDepth 100000 in
theorem c_ticksIn (l : Launch) (D : va_G) (cyC cyI : ClassId) (h : Nat) (hn : Nat) (ht : Nat) (am : Int32) (af : Nat → Int32) (ag : Nat → Int32) (b : Int32) (f : Int32) (o0 : Int32) (hu : s_ticksIn am af ag b f = o0) : CI l yX3_ticksIn wsX3_ticksIn { frames := 2, cells := 0, slots := 0, locals := 43 } D cyC cyI [.ref h, .int b, .int f] [(h, .inr (3, [.ref hn, .ref ht, .int am])), (hn, .inl (cyI, 120, .inl af)), (ht, .inl (cyI, 120, .inl ag))] o0 [(h, .inr (3, [.ref hn, .ref ht, .int am])), (hn, .inl (cyI, 120, .inl af)), (ht, .inl (cyI, 120, .inl ag))] := by
  refine CI.of (cc := cX3_ticksIn) (n := 3) (ret := (some .int)) (by decide +kernel) rfl (Nat.le_of_ble_eq_true rfl) ?_
  intro p_ e_ s_ m_ bl_ me_ cd_ A_ ls X Y hr hlk hl
  have hx := X.1.1
  have hb := X.1.2.1
  have hl : lv_has ls 3 [(0, .ref h), (1, .int b), (2, .int f)] := hl
  unfold s_ticksIn at hu
  refine lv_aload_n hx hb dX3_ticksIn_0 rfl (lv_at hl 0 rfl) ?_
  refine lv_aload_n hx hb dX3_ticksIn_1 rfl (lv_at hl 0 rfl) ?_
  refine lv_aload_n hx hb dX3_ticksIn_2 rfl (lv_at hl 0 rfl) ?_
  refine lv_iload_n hx hb dX3_ticksIn_3 rfl (lv_at hl 1 rfl) ?_
  refine lv_iload_n hx hb dX3_ticksIn_4 rfl (lv_at hl 2 rfl) ?_
  refine bVI0 (As := [.int b, .int f]) (rest := [.ref h, .ref h]) (wc := [(h, .inr (3, [.ref hn, .ref ht, .int am])), (hn, .inl (cyI, 120, .inl af)), (ht, .inl (cyI, 120, .inl ag))]) (ci := 3) (q0 := 0) X Y (c_nameOf l D cyC cyI h hn ht am af ag b f (s_nameOf b f) rfl) gX3_ticksIn_X3_nameOf rfl ⟨rfl, rfl⟩ hd_X3_nameOf ⟨(Nat.le_of_ble_eq_true rfl), (Nat.le_of_ble_eq_true rfl)⟩ rfl rfl rfl [0, 1, 2] rfl rfl rfl rfl hl.1 (Nat.le_of_ble_eq_true rfl) ⟨Nat.zero_le _, Nat.zero_le _⟩ dX3_ticksIn_5 (fun H locs Y => ?_)
  refine bVI0 (As := [.int (s_nameOf b f)]) (rest := [.ref h]) (wc := [(h, .inr (3, [.ref hn, .ref ht, .int am])), (hn, .inl (cyI, 120, .inl af)), (ht, .inl (cyI, 120, .inl ag))]) (ci := 3) (q0 := 0) X Y (c_find l D cyC cyI h hn ht am af ag (s_nameOf b f) (s_find am af (s_nameOf b f)) rfl) gX3_ticksIn_X3_find rfl ⟨rfl, rfl⟩ hd_X3_find ⟨(Nat.le_of_ble_eq_true rfl), (Nat.le_of_ble_eq_true rfl)⟩ rfl rfl rfl [0, 1, 2] rfl rfl rfl rfl hl.1 (Nat.le_of_ble_eq_true rfl) ⟨Nat.zero_le _, Nat.zero_le _⟩ dX3_ticksIn_8 (fun H locs Y => ?_)
  refine bVI0 (As := [.int (s_find am af (s_nameOf b f))]) (rest := []) (wc := [(h, .inr (3, [.ref hn, .ref ht, .int am])), (hn, .inl (cyI, 120, .inl af)), (ht, .inl (cyI, 120, .inl ag))]) (ci := 3) (q0 := 0) X Y (c_ticksAt l D cyC cyI h hn ht am af ag (s_find am af (s_nameOf b f)) (s_ticksAt am ag (s_find am af (s_nameOf b f))) rfl) gX3_ticksIn_X3_ticksAt rfl ⟨rfl, rfl⟩ hd_X3_ticksAt ⟨(Nat.le_of_ble_eq_true rfl), (Nat.le_of_ble_eq_true rfl)⟩ rfl rfl rfl [0, 1, 2] rfl rfl rfl rfl hl.1 (Nat.le_of_ble_eq_true rfl) ⟨Nat.zero_le _, Nat.zero_le _⟩ dX3_ticksIn_11 (fun H locs Y => ?_)
  subst hu
  exact bEndI X Y hr hlk dX3_ticksIn_14 rfl rfl
def s_blockAt (af : Nat → Int32) (k : Int32) : Int32 :=
  (s_nameAt af k) / 100
set_option maxHeartbeats 4000000 in
set_option maxRecDepth 100000 in
theorem c_blockAt (l : Launch) (D : va_G) (cyC cyI : ClassId) (h : Nat) (hn : Nat) (ht : Nat) (am : Int32) (af : Nat → Int32) (ag : Nat → Int32) (k : Int32) (o0 : Int32) (hu : s_blockAt af k = o0) : CI l yX3_blockAt wsX3_blockAt { frames := 1, cells := 0, slots := 0, locals := 21 } D cyC cyI [.ref h, .int k] [(h, .inr (3, [.ref hn, .ref ht, .int am])), (hn, .inl (cyI, 120, .inl af)), (ht, .inl (cyI, 120, .inl ag))] o0 [(h, .inr (3, [.ref hn, .ref ht, .int am])), (hn, .inl (cyI, 120, .inl af)), (ht, .inl (cyI, 120, .inl ag))] := by
  refine CI.of (cc := cX3_blockAt) (n := 2) (ret := (some .int)) (by decide +kernel) rfl (Nat.le_of_ble_eq_true rfl) ?_
  intro p_ e_ s_ m_ bl_ me_ cd_ A_ ls X Y hr hlk hl
  have hx := X.1.1
  have hb := X.1.2.1
  have hl : lv_has ls 2 [(0, .ref h), (1, .int k)] := hl
  unfold s_blockAt at hu
  refine lv_aload_n hx hb dX3_blockAt_0 rfl (lv_at hl 0 rfl) ?_
  refine lv_iload_n hx hb dX3_blockAt_1 rfl (lv_at hl 1 rfl) ?_
  refine bVI0 (As := [.int k]) (rest := []) (wc := [(h, .inr (3, [.ref hn, .ref ht, .int am])), (hn, .inl (cyI, 120, .inl af)), (ht, .inl (cyI, 120, .inl ag))]) (ci := 3) (q0 := 0) X Y (c_nameAt l D cyC cyI h hn ht am af ag k (s_nameAt af k) rfl) gX3_blockAt_X3_nameAt rfl ⟨rfl, rfl⟩ hd_X3_nameAt ⟨(Nat.le_of_ble_eq_true rfl), (Nat.le_of_ble_eq_true rfl)⟩ rfl rfl rfl [0, 1, 2] rfl rfl rfl rfl hl.1 (Nat.le_of_ble_eq_true rfl) ⟨Nat.zero_le _, Nat.zero_le _⟩ dX3_blockAt_2 (fun H locs Y => ?_)
  refine lv_bipush (v := 100) hx hb dX3_blockAt_5 (by decide) ?_
  refine bDiv (v := (s_nameAt af k) / 100) X dX3_blockAt_7 (by decide) rfl ?_
  subst hu
  exact bEndI X Y hr hlk dX3_blockAt_8 rfl rfl
def s_floorAt (af : Nat → Int32) (k : Int32) : Int32 :=
  (s_nameAt af k) - (s_nameAt af k) / 100 * 100
set_option maxHeartbeats 4000000 in
set_option maxRecDepth 100000 in
theorem c_floorAt (l : Launch) (D : va_G) (cyC cyI : ClassId) (h : Nat) (hn : Nat) (ht : Nat) (am : Int32) (af : Nat → Int32) (ag : Nat → Int32) (k : Int32) (o0 : Int32) (hu : s_floorAt af k = o0) : CI l yX3_floorAt wsX3_floorAt { frames := 1, cells := 0, slots := 0, locals := 21 } D cyC cyI [.ref h, .int k] [(h, .inr (3, [.ref hn, .ref ht, .int am])), (hn, .inl (cyI, 120, .inl af)), (ht, .inl (cyI, 120, .inl ag))] o0 [(h, .inr (3, [.ref hn, .ref ht, .int am])), (hn, .inl (cyI, 120, .inl af)), (ht, .inl (cyI, 120, .inl ag))] := by
  refine CI.of (cc := cX3_floorAt) (n := 2) (ret := (some .int)) (by decide +kernel) rfl (Nat.le_of_ble_eq_true rfl) ?_
  intro p_ e_ s_ m_ bl_ me_ cd_ A_ ls X Y hr hlk hl
  have hx := X.1.1
  have hb := X.1.2.1
  have hl : lv_has ls 2 [(0, .ref h), (1, .int k)] := hl
  unfold s_floorAt at hu
  refine lv_aload_n hx hb dX3_floorAt_0 rfl (lv_at hl 0 rfl) ?_
  refine lv_iload_n hx hb dX3_floorAt_1 rfl (lv_at hl 1 rfl) ?_
  refine bVI0 (As := [.int k]) (rest := []) (wc := [(h, .inr (3, [.ref hn, .ref ht, .int am])), (hn, .inl (cyI, 120, .inl af)), (ht, .inl (cyI, 120, .inl ag))]) (ci := 3) (q0 := 0) X Y (c_nameAt l D cyC cyI h hn ht am af ag k (s_nameAt af k) rfl) gX3_floorAt_X3_nameAt rfl ⟨rfl, rfl⟩ hd_X3_nameAt ⟨(Nat.le_of_ble_eq_true rfl), (Nat.le_of_ble_eq_true rfl)⟩ rfl rfl rfl [0, 1, 2] rfl rfl rfl rfl hl.1 (Nat.le_of_ble_eq_true rfl) ⟨Nat.zero_le _, Nat.zero_le _⟩ dX3_floorAt_2 (fun H locs Y => ?_)
  refine lv_bipush (v := 100) hx hb dX3_floorAt_5 (by decide) ?_
  refine bRem (v := (s_nameAt af k) - (s_nameAt af k) / 100 * 100) X dX3_floorAt_7 (by decide) rfl ?_
  subst hu
  exact bEndI X Y hr hlk dX3_floorAt_8 rfl rfl
theorem i_X3_addTick_X0 : ∀ w ∈ wsX00, w ∈ wsX3_addTick := by decide +kernel
theorem f_X3_addTick_33 : Cond.fieldLink RX3 33 "SwingCranes$Crane" "place" "I" ∈ wsX3_addTick := by decide +kernel
theorem f_X3_addTick_38 : Cond.fieldLink RX3 38 "SwingCranes$Crane" "rope" "I" ∈ wsX3_addTick := by decide +kernel
theorem hd_X3_put : bD1 yX3_put RX3 3 := by decide +kernel
theorem i_X3_addTick_X3 : ∀ w ∈ wsX30, w ∈ wsX3_addTick := by decide +kernel
theorem f_X3_addTick_18 : Cond.fieldLink RX3 18 "SwingCranes$Spots" "many" "I" ∈ wsX3_addTick := by decide +kernel
def s_addTick (am : Int32) (af : Nat → Int32) (ag : Nat → Int32) (b0 : Int32) (b2 : Int32) : Int32 × (Nat → Int32) × (Nat → Int32) :=
  match s_put af ag (s_find am af (s_nameOf (b0 / 50) (b2 / 10))) (s_nameOf (b0 / 50) (b2 / 10)) ((s_ticksAt am ag (s_find am af (s_nameOf (b0 / 50) (b2 / 10)))) + 1) with
  | (u_1_0, u_1_1) =>
    if (s_find am af (s_nameOf (b0 / 50) (b2 / 10))) = am then
      if 120 ≤ am then
        (am, u_1_0, u_1_1)
      else
        (am + 1, u_1_0, u_1_1)
    else
      (am, u_1_0, u_1_1)
set_option maxHeartbeats 4000000 in
set_option maxRecDepth 100000 in
theorem c_addTick (l : Launch) (D : va_G) (cyC cyI : ClassId) (h : Nat) (hn : Nat) (ht : Nat) (am : Int32) (af : Nat → Int32) (ag : Nat → Int32) (g : Nat) (b0 : Int32) (b1 : Int32) (b2 : Int32) (b3 : Int32) (b4 : Int32) (b5 : Int32) (b6 : Int32) (b7 : Int32) (b8 : Int32) (b9 : Int32) (b10 : Int32) (b11 : Int32) (bb : Bool) (o0 : Int32) (o1 : Nat → Int32) (o2 : Nat → Int32) (hu : s_addTick am af ag b0 b2 = (o0, o1, o2)) : CV l yX3_addTick wsX3_addTick { frames := 2, cells := 0, slots := 0, locals := 43 } D cyC cyI [.ref h, .ref g] [(h, .inr (3, [.ref hn, .ref ht, .int am])), (hn, .inl (cyI, 120, .inl af)), (ht, .inl (cyI, 120, .inl ag)), (g, .inr (0, [.int b0, .int b1, .int b2, .int b3, .int b4, .int b5, .int b6, .int b7, .int b8, .int b9, .int b10, .int b11, .int (bB bb)]))] [(h, .inr (3, [.ref hn, .ref ht, .int o0])), (hn, .inl (cyI, 120, .inl o1)), (ht, .inl (cyI, 120, .inl o2)), (g, .inr (0, [.int b0, .int b1, .int b2, .int b3, .int b4, .int b5, .int b6, .int b7, .int b8, .int b9, .int b10, .int b11, .int (bB bb)]))] := by
  refine CV.of (cc := cX3_addTick) (n := 4) (ret := none) (by decide +kernel) rfl (Nat.le_of_ble_eq_true rfl) ?_
  intro p_ e_ s_ m_ bl_ me_ cd_ A_ ls X Y hr hlk hl
  have hx := X.1.1
  have hb := X.1.2.1
  have hl : lv_has ls 4 [(0, .ref h), (1, .ref g)] := hl
  unfold s_addTick at hu
  refine lv_aload_n hx hb dX3_addTick_0 rfl (lv_at hl 0 rfl) ?_
  refine lv_aload_n hx hb dX3_addTick_1 rfl (lv_at hl 1 rfl) ?_
  refine bGet (v := .int b0) (T := TX0) (N := 13) (ci := 0) X Y i_X3_addTick_X0 3 rfl rfl 0 (Nat.le_of_ble_eq_true rfl) f_X3_addTick_33 rfl rfl dX3_addTick_2 ?_
  refine lv_bipush (v := 50) hx hb dX3_addTick_5 (by decide) ?_
  refine bDiv (v := b0 / 50) X dX3_addTick_7 (by decide) rfl ?_
  refine lv_aload_n hx hb dX3_addTick_8 rfl (lv_at hl 1 rfl) ?_
  refine bGet (v := .int b2) (T := TX0) (N := 13) (ci := 0) X Y i_X3_addTick_X0 3 rfl rfl 2 (Nat.le_of_ble_eq_true rfl) f_X3_addTick_38 rfl rfl dX3_addTick_9 ?_
  refine lv_bipush (v := 10) hx hb dX3_addTick_12 (by decide) ?_
  refine bDiv (v := b2 / 10) X dX3_addTick_14 (by decide) rfl ?_
  refine bVI0 (As := [.int (b0 / 50), .int (b2 / 10)]) (rest := []) (wc := [(h, .inr (3, [.ref hn, .ref ht, .int am])), (hn, .inl (cyI, 120, .inl af)), (ht, .inl (cyI, 120, .inl ag))]) (ci := 3) (q0 := 0) X Y (c_nameOf l D cyC cyI h hn ht am af ag (b0 / 50) (b2 / 10) (s_nameOf (b0 / 50) (b2 / 10)) rfl) gX3_addTick_X3_nameOf rfl ⟨rfl, rfl⟩ hd_X3_nameOf ⟨(Nat.le_of_ble_eq_true rfl), (Nat.le_of_ble_eq_true rfl)⟩ rfl rfl rfl [0, 1, 2] rfl rfl rfl rfl hl.1 (Nat.le_of_ble_eq_true rfl) ⟨Nat.zero_le _, Nat.zero_le _⟩ dX3_addTick_15 (fun H locs Y => ?_)
  refine lv_istore_n (lv' := [(2, .int (s_nameOf (b0 / 50) (b2 / 10))), (0, .ref h), (1, .ref g)]) hx hb dX3_addTick_18 rfl hl (by decide) rfl (fun ls hl => ?_)
  refine lv_aload_n hx hb dX3_addTick_19 rfl (lv_at hl 1 rfl) ?_
  refine lv_iload_n hx hb dX3_addTick_20 rfl (lv_at hl 0 rfl) ?_
  refine bVI0 (As := [.int (s_nameOf (b0 / 50) (b2 / 10))]) (rest := []) (wc := [(h, .inr (3, [.ref hn, .ref ht, .int am])), (hn, .inl (cyI, 120, .inl af)), (ht, .inl (cyI, 120, .inl ag))]) (ci := 3) (q0 := 0) X Y (c_find l D cyC cyI h hn ht am af ag (s_nameOf (b0 / 50) (b2 / 10)) (s_find am af (s_nameOf (b0 / 50) (b2 / 10))) rfl) gX3_addTick_X3_find rfl ⟨rfl, rfl⟩ hd_X3_find ⟨(Nat.le_of_ble_eq_true rfl), (Nat.le_of_ble_eq_true rfl)⟩ rfl rfl rfl [0, 1, 2] rfl rfl rfl rfl hl.1 (Nat.le_of_ble_eq_true rfl) ⟨Nat.zero_le _, Nat.zero_le _⟩ dX3_addTick_21 (fun H locs Y => ?_)
  refine lv_istore_n (lv' := [(3, .int (s_find am af (s_nameOf (b0 / 50) (b2 / 10)))), (2, .int (s_nameOf (b0 / 50) (b2 / 10))), (0, .ref h), (1, .ref g)]) hx hb dX3_addTick_24 rfl hl (by decide) rfl (fun ls hl => ?_)
  refine lv_aload_n hx hb dX3_addTick_25 rfl (lv_at hl 2 rfl) ?_
  refine lv_iload_n hx hb dX3_addTick_26 rfl (lv_at hl 0 rfl) ?_
  refine lv_iload_n hx hb dX3_addTick_27 rfl (lv_at hl 1 rfl) ?_
  refine lv_aload_n hx hb dX3_addTick_28 rfl (lv_at hl 2 rfl) ?_
  refine lv_iload_n hx hb dX3_addTick_29 rfl (lv_at hl 0 rfl) ?_
  refine bVI0 (As := [.int (s_find am af (s_nameOf (b0 / 50) (b2 / 10)))]) (rest := [.int (s_nameOf (b0 / 50) (b2 / 10)), .int (s_find am af (s_nameOf (b0 / 50) (b2 / 10))), .ref h]) (wc := [(h, .inr (3, [.ref hn, .ref ht, .int am])), (hn, .inl (cyI, 120, .inl af)), (ht, .inl (cyI, 120, .inl ag))]) (ci := 3) (q0 := 0) X Y (c_ticksAt l D cyC cyI h hn ht am af ag (s_find am af (s_nameOf (b0 / 50) (b2 / 10))) (s_ticksAt am ag (s_find am af (s_nameOf (b0 / 50) (b2 / 10)))) rfl) gX3_addTick_X3_ticksAt rfl ⟨rfl, rfl⟩ hd_X3_ticksAt ⟨(Nat.le_of_ble_eq_true rfl), (Nat.le_of_ble_eq_true rfl)⟩ rfl rfl rfl [0, 1, 2] rfl rfl rfl rfl hl.1 (Nat.le_of_ble_eq_true rfl) ⟨Nat.zero_le _, Nat.zero_le _⟩ dX3_addTick_30 (fun H locs Y => ?_)
  refine lv_iconst (v := 1) hx hb dX3_addTick_33 (by decide) ?_
  refine bAdd (v := (s_ticksAt am ag (s_find am af (s_nameOf (b0 / 50) (b2 / 10)))) + 1) X dX3_addTick_34 rfl ?_
  obtain ⟨u_1_0, u_1_1, hr_1⟩ := bEx2 (s_put af ag (s_find am af (s_nameOf (b0 / 50) (b2 / 10))) (s_nameOf (b0 / 50) (b2 / 10)) ((s_ticksAt am ag (s_find am af (s_nameOf (b0 / 50) (b2 / 10)))) + 1))
  rw [hr_1] at hu
  dsimp only at hu
  refine bVV (As := [.int (s_find am af (s_nameOf (b0 / 50) (b2 / 10))), .int (s_nameOf (b0 / 50) (b2 / 10)), .int ((s_ticksAt am ag (s_find am af (s_nameOf (b0 / 50) (b2 / 10)))) + 1)]) (rest := []) (wc := [(h, .inr (3, [.ref hn, .ref ht, .int am])), (hn, .inl (cyI, 120, .inl af)), (ht, .inl (cyI, 120, .inl ag))]) (w1 := [(h, .inr (3, [.ref hn, .ref ht, .int am])), (hn, .inl (cyI, 120, .inl u_1_0)), (ht, .inl (cyI, 120, .inl u_1_1))]) (ws' := [(h, .inr (3, [.ref hn, .ref ht, .int am])), (hn, .inl (cyI, 120, .inl u_1_0)), (ht, .inl (cyI, 120, .inl u_1_1)), (g, .inr (0, [.int b0, .int b1, .int b2, .int b3, .int b4, .int b5, .int b6, .int b7, .int b8, .int b9, .int b10, .int b11, .int (bB bb)]))]) (ad := [h, hn, ht]) (wr := [(g, .inr (0, [.int b0, .int b1, .int b2, .int b3, .int b4, .int b5, .int b6, .int b7, .int b8, .int b9, .int b10, .int b11, .int (bB bb)]))]) (nn := 4) (ci := 3) (q0 := 0) X Y (c_put l D cyC cyI h hn ht am af ag (s_find am af (s_nameOf (b0 / 50) (b2 / 10))) (s_nameOf (b0 / 50) (b2 / 10)) ((s_ticksAt am ag (s_find am af (s_nameOf (b0 / 50) (b2 / 10)))) + 1) u_1_0 u_1_1 hr_1) gX3_addTick_X3_put rfl ⟨rfl, rfl⟩ hd_X3_put ⟨(Nat.le_of_ble_eq_true rfl), (Nat.le_of_ble_eq_true rfl)⟩ rfl rfl rfl [0, 1, 2] [3] rfl rfl rfl rfl rfl rfl rfl rfl (by decide) rfl rfl hl.1 (Nat.le_of_ble_eq_true rfl) ⟨Nat.zero_le _, Nat.zero_le _⟩ dX3_addTick_35 (fun H locs Y => ?_)
  refine lv_iload_n hx hb dX3_addTick_38 rfl (lv_at hl 0 rfl) ?_
  refine lv_aload_n hx hb dX3_addTick_39 rfl (lv_at hl 2 rfl) ?_
  refine bGet (v := .int am) (T := TX3) (N := 3) (ci := 3) X Y i_X3_addTick_X3 0 rfl rfl 2 (Nat.le_of_ble_eq_true rfl) f_X3_addTick_18 rfl rfl dX3_addTick_40 ?_
  refine lv_icmp_ne (tgt := 65) hx hb dX3_addTick_43 (by decide) (fun c_2 => ?_) (fun c_2 => ?_)
  · have c_2 : ¬ ((s_find am af (s_nameOf (b0 / 50) (b2 / 10))) = am) := c_2
    rw [if_neg c_2] at hu
    have h9 := (Prod.mk.inj hu).1; replace hu := (Prod.mk.inj hu).2; subst h9
    have h9 := (Prod.mk.inj hu).1; replace hu := (Prod.mk.inj hu).2; subst h9
    subst hu
    exact bEndV X Y hr hlk dX3_addTick_65 rfl
  · have c_2 : (s_find am af (s_nameOf (b0 / 50) (b2 / 10))) = am := c_2
    rw [if_pos c_2] at hu
    refine lv_aload_n hx hb dX3_addTick_46 rfl (lv_at hl 2 rfl) ?_
    refine bGet (v := .int am) (T := TX3) (N := 3) (ci := 3) X Y i_X3_addTick_X3 0 rfl rfl 2 (Nat.le_of_ble_eq_true rfl) f_X3_addTick_18 rfl rfl dX3_addTick_47 ?_
    refine lv_bipush (v := 120) hx hb dX3_addTick_50 (by decide) ?_
    refine lv_icmp_ge (tgt := 65) hx hb dX3_addTick_52 (by decide) (fun c_3 => ?_) (fun c_3 => ?_)
    · have c_3 : 120 ≤ am := c_3
      rw [if_pos c_3] at hu
      have h9 := (Prod.mk.inj hu).1; replace hu := (Prod.mk.inj hu).2; subst h9
      have h9 := (Prod.mk.inj hu).1; replace hu := (Prod.mk.inj hu).2; subst h9
      subst hu
      exact bEndV X Y hr hlk dX3_addTick_65 rfl
    · have c_3 : ¬ (120 ≤ am) := c_3
      rw [if_neg c_3] at hu
      refine lv_aload_n hx hb dX3_addTick_55 rfl (lv_at hl 2 rfl) ?_
      refine lv_dup hx hb dX3_addTick_56 rfl ?_
      refine bGet (v := .int am) (T := TX3) (N := 3) (ci := 3) X Y i_X3_addTick_X3 0 rfl rfl 2 (Nat.le_of_ble_eq_true rfl) f_X3_addTick_18 rfl rfl dX3_addTick_57 ?_
      refine lv_iconst (v := 1) hx hb dX3_addTick_60 (by decide) ?_
      refine bAdd (v := am + 1) X dX3_addTick_61 rfl ?_
      refine bPut (T := TX3) (N := 3) (ci := 3) (ws' := [(h, .inr (3, [.ref hn, .ref ht, .int (am + 1)])), (hn, .inl (cyI, 120, .inl u_1_0)), (ht, .inl (cyI, 120, .inl u_1_1)), (g, .inr (0, [.int b0, .int b1, .int b2, .int b3, .int b4, .int b5, .int b6, .int b7, .int b8, .int b9, .int b10, .int b11, .int (bB bb)]))]) X Y i_X3_addTick_X3 tyX3 tyX3_ok nmX3 0 rfl rfl 2 (Nat.le_of_ble_eq_true rfl) f_X3_addTick_18 rfl rfl rfl rfl (Nat.le_of_ble_eq_true rfl) rfl dX3_addTick_62 (fun H locs Y => ?_)
      have h9 := (Prod.mk.inj hu).1; replace hu := (Prod.mk.inj hu).2; subst h9
      have h9 := (Prod.mk.inj hu).1; replace hu := (Prod.mk.inj hu).2; subst h9
      subst hu
      exact bEndV X Y hr hlk dX3_addTick_65 rfl
theorem i_X3_copyFrom_X3 : ∀ w ∈ wsX30, w ∈ wsX3_copyFrom := by decide +kernel
theorem f_X3_copyFrom_18 : Cond.fieldLink RX3 18 "SwingCranes$Spots" "many" "I" ∈ wsX3_copyFrom := by decide +kernel
def g_spotsCopy (bm : Int32) (bf : Nat → Int32) (bg : Nat → Int32) : Nat → Nat → (Nat → Int32) → (Nat → Int32) → (Nat → Int32) × (Nat → Int32)
  | 0, _, _, _ => (fun _ => 0, fun _ => 0)
  | n_ + 1, j, fn, ft =>
    if bm ≤ nI j then
      (fn, ft)
    else
      if 120 ≤ nI j then
        (fn, ft)
      else
        match s_put fn ft (nI j) (s_nameAt bf (nI j)) (s_ticksAt bm bg (nI j)) with
        | (u_3_0, u_3_1) =>
          g_spotsCopy bm bf bg n_ (j + 1) u_3_0 u_3_1
def s_spotsCopy (af : Nat → Int32) (ag : Nat → Int32) (bm : Int32) (bf : Nat → Int32) (bg : Nat → Int32) : (Nat → Int32) × (Nat → Int32) :=
  g_spotsCopy bm bf bg (121) 0 af ag
set_option maxHeartbeats 4000000 in
set_option maxRecDepth 100000 in
theorem lp_spotsCopy {p_ : Program} {e_ : Env} {s_ : State} {m_ : MethodId} {bl_ : List Frame} {me_ : Method} {cd_ : Code} {A_ : Nat → Prop} (l : Launch) (D : va_G) (cyC cyI : ClassId) (h : Nat) (hn : Nat) (ht : Nat) (am : Int32) (af : Nat → Int32) (ag : Nat → Int32) (g : Nat) (gn : Nat) (gt : Nat) (bm : Int32) (bf : Nat → Int32) (bg : Nat → Int32) (o0 : Nat → Int32) (o1 : Nat → Int32) (X : bX p_ s_ m_ ([.ref h, .ref g] : List Value).toArray cd_ cX3_copyFrom 3 wsX3_copyFrom yX3_copyFrom.cls D cyC cyI) (hr : me_.sig.returnType = none) (hlk : me_.locks = false) : ∀ (n_ : Nat) (j : Nat) (fn : Nat → Int32) (ft : Nat → Int32) (hN : 121 ≤ j + n_) (hJ : j ≤ 120) (hu : g_spotsCopy bm bf bg n_ j fn ft = (o0, o1)) (ls : Array Slot) (H : Heap) (locs : List Loc), lv_has ls 3 [(0, .ref h), (1, .ref g), (2, .int (nI j))] → bY D A_ s_.heap [(h, .inr (3, [.ref hn, .ref ht, .int bm])), (hn, .inl (cyI, 120, .inl fn)), (ht, .inl (cyI, 120, .inl ft)), (g, .inr (3, [.ref gn, .ref gt, .int bm])), (gn, .inl (cyI, 120, .inl bf)), (gt, .inl (cyI, 120, .inl bg))] H locs → W p_ l e_ ({ frames := 1, cells := 0, slots := 0, locals := 23 } : Room) s_ m_ ([.ref h, .ref g] : List Value).toArray bl_ me_ cd_ H locs 0 0 (bQV bl_ ([.ref h, .ref g] : List Value).toArray s_ D [(h, .inr (3, [.ref hn, .ref ht, .int bm])), (hn, .inl (cyI, 120, .inl o0)), (ht, .inl (cyI, 120, .inl o1)), (g, .inr (3, [.ref gn, .ref gt, .int bm])), (gn, .inl (cyI, 120, .inl bf)), (gt, .inl (cyI, 120, .inl bg))] A_) (F0 m_ 10 ls []) := by
  intro n_
  induction n_ with
  | zero =>
    intro j fn ft hN hJ hu ls H locs hl Y
    exfalso; omega
  | succ n_ ih =>
    intro j fn ft hN hJ hu ls H locs hl Y
    have hx := X.1.1
    have hb := X.1.2.1
    rw [g_spotsCopy] at hu
    refine lv_iload_n hx hb dX3_copyFrom_10 rfl (lv_at hl 2 rfl) ?_
    refine lv_aload_n hx hb dX3_copyFrom_11 rfl (lv_at hl 0 rfl) ?_
    refine bGet (v := .int bm) (T := TX3) (N := 3) (ci := 3) X Y i_X3_copyFrom_X3 0 rfl rfl 2 (Nat.le_of_ble_eq_true rfl) f_X3_copyFrom_18 rfl rfl dX3_copyFrom_12 ?_
    refine lv_icmp_ge (tgt := 45) hx hb dX3_copyFrom_15 (by decide) (fun c_1 => ?_) (fun c_1 => ?_)
    · have c_1 : bm ≤ nI j := c_1
      rw [if_pos c_1] at hu
      have h9 := (Prod.mk.inj hu).1; replace hu := (Prod.mk.inj hu).2; subst h9
      subst hu
      exact bEndV X Y hr hlk dX3_copyFrom_45 rfl
    · have c_1 : ¬ (bm ≤ nI j) := c_1
      rw [if_neg c_1] at hu
      refine lv_iload_n hx hb dX3_copyFrom_18 rfl (lv_at hl 2 rfl) ?_
      refine lv_bipush (v := 120) hx hb dX3_copyFrom_19 (by decide) ?_
      refine lv_icmp_ge (tgt := 45) hx hb dX3_copyFrom_21 (by decide) (fun c_2 => ?_) (fun c_2 => ?_)
      · have c_2 : 120 ≤ nI j := c_2
        rw [if_pos c_2] at hu
        have h9 := (Prod.mk.inj hu).1; replace hu := (Prod.mk.inj hu).2; subst h9
        subst hu
        exact bEndV X Y hr hlk dX3_copyFrom_45 rfl
      · have c_2 : ¬ (120 ≤ nI j) := c_2
        rw [if_neg c_2] at hu
        refine lv_aload_n hx hb dX3_copyFrom_24 rfl (lv_at hl 0 rfl) ?_
        refine lv_iload_n hx hb dX3_copyFrom_25 rfl (lv_at hl 2 rfl) ?_
        refine lv_aload_n hx hb dX3_copyFrom_26 rfl (lv_at hl 1 rfl) ?_
        refine lv_iload_n hx hb dX3_copyFrom_27 rfl (lv_at hl 2 rfl) ?_
        refine bVI0 (As := [.int (nI j)]) (rest := [.int (nI j), .ref h]) (wc := [(g, .inr (3, [.ref gn, .ref gt, .int bm])), (gn, .inl (cyI, 120, .inl bf)), (gt, .inl (cyI, 120, .inl bg))]) (ci := 3) (q0 := 3) X Y (c_nameAt l D cyC cyI g gn gt bm bf bg (nI j) (s_nameAt bf (nI j)) rfl) gX3_copyFrom_X3_nameAt rfl ⟨rfl, rfl⟩ hd_X3_nameAt ⟨(Nat.le_of_ble_eq_true rfl), (Nat.le_of_ble_eq_true rfl)⟩ rfl rfl rfl [3, 4, 5] rfl rfl rfl rfl hl.1 (Nat.le_of_ble_eq_true rfl) ⟨Nat.zero_le _, Nat.zero_le _⟩ dX3_copyFrom_28 (fun H locs Y => ?_)
        refine lv_aload_n hx hb dX3_copyFrom_31 rfl (lv_at hl 1 rfl) ?_
        refine lv_iload_n hx hb dX3_copyFrom_32 rfl (lv_at hl 2 rfl) ?_
        refine bVI0 (As := [.int (nI j)]) (rest := [.int (s_nameAt bf (nI j)), .int (nI j), .ref h]) (wc := [(g, .inr (3, [.ref gn, .ref gt, .int bm])), (gn, .inl (cyI, 120, .inl bf)), (gt, .inl (cyI, 120, .inl bg))]) (ci := 3) (q0 := 3) X Y (c_ticksAt l D cyC cyI g gn gt bm bf bg (nI j) (s_ticksAt bm bg (nI j)) rfl) gX3_copyFrom_X3_ticksAt rfl ⟨rfl, rfl⟩ hd_X3_ticksAt ⟨(Nat.le_of_ble_eq_true rfl), (Nat.le_of_ble_eq_true rfl)⟩ rfl rfl rfl [3, 4, 5] rfl rfl rfl rfl hl.1 (Nat.le_of_ble_eq_true rfl) ⟨Nat.zero_le _, Nat.zero_le _⟩ dX3_copyFrom_33 (fun H locs Y => ?_)
        obtain ⟨u_3_0, u_3_1, hr_3⟩ := bEx2 (s_put fn ft (nI j) (s_nameAt bf (nI j)) (s_ticksAt bm bg (nI j)))
        rw [hr_3] at hu
        dsimp only at hu
        refine bVV (As := [.int (nI j), .int (s_nameAt bf (nI j)), .int (s_ticksAt bm bg (nI j))]) (rest := []) (wc := [(h, .inr (3, [.ref hn, .ref ht, .int bm])), (hn, .inl (cyI, 120, .inl fn)), (ht, .inl (cyI, 120, .inl ft))]) (w1 := [(h, .inr (3, [.ref hn, .ref ht, .int bm])), (hn, .inl (cyI, 120, .inl u_3_0)), (ht, .inl (cyI, 120, .inl u_3_1))]) (ws' := [(h, .inr (3, [.ref hn, .ref ht, .int bm])), (hn, .inl (cyI, 120, .inl u_3_0)), (ht, .inl (cyI, 120, .inl u_3_1)), (g, .inr (3, [.ref gn, .ref gt, .int bm])), (gn, .inl (cyI, 120, .inl bf)), (gt, .inl (cyI, 120, .inl bg))]) (ad := [h, hn, ht]) (wr := [(g, .inr (3, [.ref gn, .ref gt, .int bm])), (gn, .inl (cyI, 120, .inl bf)), (gt, .inl (cyI, 120, .inl bg))]) (nn := 6) (ci := 3) (q0 := 0) X Y (c_put l D cyC cyI h hn ht bm fn ft (nI j) (s_nameAt bf (nI j)) (s_ticksAt bm bg (nI j)) u_3_0 u_3_1 hr_3) gX3_copyFrom_X3_put rfl ⟨rfl, rfl⟩ hd_X3_put ⟨(Nat.le_of_ble_eq_true rfl), (Nat.le_of_ble_eq_true rfl)⟩ rfl rfl rfl [0, 1, 2] [3, 4, 5] rfl rfl rfl rfl rfl rfl rfl rfl (by decide) rfl rfl hl.1 (Nat.le_of_ble_eq_true rfl) ⟨Nat.zero_le _, Nat.zero_le _⟩ dX3_copyFrom_36 (fun H locs Y => ?_)
        refine lv_iinc (v := nI (j + 1)) (lv' := [(2, .int (nI (j + 1))), (0, .ref h), (1, .ref g)]) hx hb dX3_copyFrom_39 hl (k := 2) rfl (nI_inc _) (by decide) rfl (fun ls hl => ?_)
        refine lv_goto (tgt := 10) hx hb dX3_copyFrom_42 (by decide) ?_
        exact ih (j + 1) u_3_0 u_3_1 (by omega) (by have := bNle (k := 120) rfl (by omega) (by decide) c_2; omega) hu _ _ _ (lv_sub hl [1, 2, 0] rfl) Y
set_option maxHeartbeats 4000000 in
set_option maxRecDepth 100000 in
theorem c_spotsCopy (l : Launch) (D : va_G) (cyC cyI : ClassId) (h : Nat) (hn : Nat) (ht : Nat) (am : Int32) (af : Nat → Int32) (ag : Nat → Int32) (g : Nat) (gn : Nat) (gt : Nat) (bm : Int32) (bf : Nat → Int32) (bg : Nat → Int32) (o0 : Nat → Int32) (o1 : Nat → Int32) (hu : s_spotsCopy af ag bm bf bg = (o0, o1)) : CV l yX3_copyFrom wsX3_copyFrom { frames := 1, cells := 0, slots := 0, locals := 23 } D cyC cyI [.ref h, .ref g] [(h, .inr (3, [.ref hn, .ref ht, .int am])), (hn, .inl (cyI, 120, .inl af)), (ht, .inl (cyI, 120, .inl ag)), (g, .inr (3, [.ref gn, .ref gt, .int bm])), (gn, .inl (cyI, 120, .inl bf)), (gt, .inl (cyI, 120, .inl bg))] [(h, .inr (3, [.ref hn, .ref ht, .int bm])), (hn, .inl (cyI, 120, .inl o0)), (ht, .inl (cyI, 120, .inl o1)), (g, .inr (3, [.ref gn, .ref gt, .int bm])), (gn, .inl (cyI, 120, .inl bf)), (gt, .inl (cyI, 120, .inl bg))] := by
  refine CV.of (cc := cX3_copyFrom) (n := 3) (ret := none) (by decide +kernel) rfl (Nat.le_of_ble_eq_true rfl) ?_
  intro p_ e_ s_ m_ bl_ me_ cd_ A_ ls X Y hr hlk hl
  have hx := X.1.1
  have hb := X.1.2.1
  have hl : lv_has ls 3 [(0, .ref h), (1, .ref g)] := hl
  unfold s_spotsCopy at hu
  refine lv_aload_n hx hb dX3_copyFrom_0 rfl (lv_at hl 0 rfl) ?_
  refine lv_aload_n hx hb dX3_copyFrom_1 rfl (lv_at hl 1 rfl) ?_
  refine bGet (v := .int bm) (T := TX3) (N := 3) (ci := 3) X Y i_X3_copyFrom_X3 3 rfl rfl 2 (Nat.le_of_ble_eq_true rfl) f_X3_copyFrom_18 rfl rfl dX3_copyFrom_2 ?_
  refine bPut (T := TX3) (N := 3) (ci := 3) (ws' := [(h, .inr (3, [.ref hn, .ref ht, .int bm])), (hn, .inl (cyI, 120, .inl af)), (ht, .inl (cyI, 120, .inl ag)), (g, .inr (3, [.ref gn, .ref gt, .int bm])), (gn, .inl (cyI, 120, .inl bf)), (gt, .inl (cyI, 120, .inl bg))]) X Y i_X3_copyFrom_X3 tyX3 tyX3_ok nmX3 0 rfl rfl 2 (Nat.le_of_ble_eq_true rfl) f_X3_copyFrom_18 rfl rfl rfl rfl (Nat.le_of_ble_eq_true rfl) rfl dX3_copyFrom_5 (fun H locs Y => ?_)
  refine lv_iconst (v := 0) hx hb dX3_copyFrom_8 (by decide) ?_
  refine lv_istore_n (lv' := [(2, .int 0), (0, .ref h), (1, .ref g)]) hx hb dX3_copyFrom_9 rfl hl (by decide) rfl (fun ls hl => ?_)
  exact lp_spotsCopy l D cyC cyI h hn ht am af ag g gn gt bm bf bg o0 o1 X hr hlk (121) 0 af ag (by omega) (by omega) hu _ _ _ (lv_sub hl [1, 2, 0] rfl) Y
