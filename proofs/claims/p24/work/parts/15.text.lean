theorem i_X4_set_X4 : ∀ w ∈ wsX40, w ∈ wsX4_set := by decide +kernel
theorem f_X4_set_7 : Cond.fieldLink RX4 7 "SwingCranes$Start" "place" "I" ∈ wsX4_set := by decide +kernel
theorem f_X4_set_13 : Cond.fieldLink RX4 13 "SwingCranes$Start" "rope" "I" ∈ wsX4_set := by decide +kernel
theorem f_X4_set_16 : Cond.fieldLink RX4 16 "SwingCranes$Start" "load" "I" ∈ wsX4_set := by decide +kernel
set_option maxHeartbeats 4000000 in
set_option maxRecDepth 100000 in
theorem c_startSet (l : Launch) (D : va_G) (cyC cyI : ClassId) (h : Nat) (a0 : Int32) (a1 : Int32) (a2 : Int32) (x : Int32) (y : Int32) (z : Int32) : CV l yX4_set wsX4_set { frames := 0, cells := 0, slots := 0, locals := 0 } D cyC cyI [.ref h, .int x, .int y, .int z] [(h, .inr (4, [.int a0, .int a1, .int a2]))] [(h, .inr (4, [.int x, .int y, .int z]))] := by
  refine CV.of (cc := cX4_set) (n := 4) (ret := none) (by decide +kernel) rfl (Nat.le_of_ble_eq_true rfl) ?_
  intro p_ e_ s_ m_ bl_ me_ cd_ A_ ls X Y hr hlk hl
  have hx := X.1.1
  have hb := X.1.2.1
  have hl : lv_has ls 4 [(0, .ref h), (1, .int x), (2, .int y), (3, .int z)] := hl
  refine lv_aload_n hx hb dX4_set_0 rfl (lv_at hl 0 rfl) ?_
  refine lv_iload_n hx hb dX4_set_1 rfl (lv_at hl 1 rfl) ?_
  refine bPut (T := TX4) (N := 3) (ci := 4) (ws' := [(h, .inr (4, [.int x, .int a1, .int a2]))]) X Y i_X4_set_X4 tyX4 tyX4_ok nmX4 0 rfl rfl 0 (Nat.le_of_ble_eq_true rfl) f_X4_set_7 rfl rfl rfl rfl (Nat.le_of_ble_eq_true rfl) rfl dX4_set_2 (fun H locs Y => ?_)
  refine lv_aload_n hx hb dX4_set_5 rfl (lv_at hl 0 rfl) ?_
  refine lv_iload_n hx hb dX4_set_6 rfl (lv_at hl 2 rfl) ?_
  refine bPut (T := TX4) (N := 3) (ci := 4) (ws' := [(h, .inr (4, [.int x, .int y, .int a2]))]) X Y i_X4_set_X4 tyX4 tyX4_ok nmX4 0 rfl rfl 1 (Nat.le_of_ble_eq_true rfl) f_X4_set_13 rfl rfl rfl rfl (Nat.le_of_ble_eq_true rfl) rfl dX4_set_7 (fun H locs Y => ?_)
  refine lv_aload_n hx hb dX4_set_10 rfl (lv_at hl 0 rfl) ?_
  refine lv_iload_n hx hb dX4_set_11 rfl (lv_at hl 3 rfl) ?_
  refine bPut (T := TX4) (N := 3) (ci := 4) (ws' := [(h, .inr (4, [.int x, .int y, .int z]))]) X Y i_X4_set_X4 tyX4 tyX4_ok nmX4 0 rfl rfl 2 (Nat.le_of_ble_eq_true rfl) f_X4_set_16 rfl rfl rfl rfl (Nat.le_of_ble_eq_true rfl) rfl dX4_set_12 (fun H locs Y => ?_)
  exact bEndV X Y hr hlk dX4_set_15 rfl
theorem i_X1_setUsual_X1 : ∀ w ∈ wsX10, w ∈ wsX1_setUsual := by decide +kernel
theorem f_X1_setUsual_22 : Cond.fieldLink RX1 22 "SwingCranes$Layout" "end" "I" ∈ wsX1_setUsual := by decide +kernel
theorem f_X1_setUsual_26 : Cond.fieldLink RX1 26 "SwingCranes$Layout" "gap" "I" ∈ wsX1_setUsual := by decide +kernel
theorem f_X1_setUsual_29 : Cond.fieldLink RX1 29 "SwingCranes$Layout" "change" "I" ∈ wsX1_setUsual := by decide +kernel
theorem f_X1_setUsual_32 : Cond.fieldLink RX1 32 "SwingCranes$Layout" "top" "I" ∈ wsX1_setUsual := by decide +kernel
theorem f_X1_setUsual_35 : Cond.fieldLink RX1 35 "SwingCranes$Layout" "hoist" "I" ∈ wsX1_setUsual := by decide +kernel
theorem f_X1_setUsual_10 : Cond.fieldLink RX1 10 "SwingCranes$Layout" "left" "LSwingCranes$Start;" ∈ wsX1_setUsual := by decide +kernel
theorem hd_X4_set : bD1 yX4_set RX4 3 := by decide +kernel
theorem f_X1_setUsual_16 : Cond.fieldLink RX1 16 "SwingCranes$Layout" "right" "LSwingCranes$Start;" ∈ wsX1_setUsual := by decide +kernel
set_option maxHeartbeats 4000000 in
set_option maxRecDepth 100000 in
theorem c_setUsual (l : Launch) (D : va_G) (cyC cyI : ClassId) (g : Nat) (r0 : Int32) (r1 : Int32) (r2 : Int32) (r3 : Int32) (r4 : Int32) (gl : Nat) (rx0 : Int32) (rx1 : Int32) (rx2 : Int32) (gr : Nat) (ry0 : Int32) (ry1 : Int32) (ry2 : Int32) : CV l yX1_setUsual wsX1_setUsual { frames := 1, cells := 0, slots := 0, locals := 23 } D cyC cyI [.ref g] [(g, .inr (1, [.int r0, .int r1, .int r2, .int r3, .int r4, .ref gl, .ref gr])), (gl, .inr (4, [.int rx0, .int rx1, .int rx2])), (gr, .inr (4, [.int ry0, .int ry1, .int ry2]))] [(g, .inr (1, [.int 600, .int 40, .int 2, .int 12, .int 6, .ref gl, .ref gr])), (gl, .inr (4, [.int 100, .int 30, .int 0])), (gr, .inr (4, [.int 500, .int 30, .int 0]))] := by
  refine CV.of (cc := cX1_setUsual) (n := 1) (ret := none) (by decide +kernel) rfl (Nat.le_of_ble_eq_true rfl) ?_
  intro p_ e_ s_ m_ bl_ me_ cd_ A_ ls X Y hr hlk hl
  have hx := X.1.1
  have hb := X.1.2.1
  have hl : lv_has ls 1 [(0, .ref g)] := hl
  refine lv_aload_n hx hb dX1_setUsual_0 rfl (lv_at hl 0 rfl) ?_
  refine lv_sipush (v := 600) hx hb dX1_setUsual_1 (by decide) ?_
  refine bPut (T := TX1) (N := 7) (ci := 1) (ws' := [(g, .inr (1, [.int 600, .int r1, .int r2, .int r3, .int r4, .ref gl, .ref gr])), (gl, .inr (4, [.int rx0, .int rx1, .int rx2])), (gr, .inr (4, [.int ry0, .int ry1, .int ry2]))]) X Y i_X1_setUsual_X1 tyX1 tyX1_ok nmX1 0 rfl rfl 0 (Nat.le_of_ble_eq_true rfl) f_X1_setUsual_22 rfl rfl rfl rfl (Nat.le_of_ble_eq_true rfl) rfl dX1_setUsual_4 (fun H locs Y => ?_)
  refine lv_aload_n hx hb dX1_setUsual_7 rfl (lv_at hl 0 rfl) ?_
  refine lv_bipush (v := 40) hx hb dX1_setUsual_8 (by decide) ?_
  refine bPut (T := TX1) (N := 7) (ci := 1) (ws' := [(g, .inr (1, [.int 600, .int 40, .int r2, .int r3, .int r4, .ref gl, .ref gr])), (gl, .inr (4, [.int rx0, .int rx1, .int rx2])), (gr, .inr (4, [.int ry0, .int ry1, .int ry2]))]) X Y i_X1_setUsual_X1 tyX1 tyX1_ok nmX1 0 rfl rfl 1 (Nat.le_of_ble_eq_true rfl) f_X1_setUsual_26 rfl rfl rfl rfl (Nat.le_of_ble_eq_true rfl) rfl dX1_setUsual_10 (fun H locs Y => ?_)
  refine lv_aload_n hx hb dX1_setUsual_13 rfl (lv_at hl 0 rfl) ?_
  refine lv_iconst (v := 2) hx hb dX1_setUsual_14 (by decide) ?_
  refine bPut (T := TX1) (N := 7) (ci := 1) (ws' := [(g, .inr (1, [.int 600, .int 40, .int 2, .int r3, .int r4, .ref gl, .ref gr])), (gl, .inr (4, [.int rx0, .int rx1, .int rx2])), (gr, .inr (4, [.int ry0, .int ry1, .int ry2]))]) X Y i_X1_setUsual_X1 tyX1 tyX1_ok nmX1 0 rfl rfl 2 (Nat.le_of_ble_eq_true rfl) f_X1_setUsual_29 rfl rfl rfl rfl (Nat.le_of_ble_eq_true rfl) rfl dX1_setUsual_15 (fun H locs Y => ?_)
  refine lv_aload_n hx hb dX1_setUsual_18 rfl (lv_at hl 0 rfl) ?_
  refine lv_bipush (v := 12) hx hb dX1_setUsual_19 (by decide) ?_
  refine bPut (T := TX1) (N := 7) (ci := 1) (ws' := [(g, .inr (1, [.int 600, .int 40, .int 2, .int 12, .int r4, .ref gl, .ref gr])), (gl, .inr (4, [.int rx0, .int rx1, .int rx2])), (gr, .inr (4, [.int ry0, .int ry1, .int ry2]))]) X Y i_X1_setUsual_X1 tyX1 tyX1_ok nmX1 0 rfl rfl 3 (Nat.le_of_ble_eq_true rfl) f_X1_setUsual_32 rfl rfl rfl rfl (Nat.le_of_ble_eq_true rfl) rfl dX1_setUsual_21 (fun H locs Y => ?_)
  refine lv_aload_n hx hb dX1_setUsual_24 rfl (lv_at hl 0 rfl) ?_
  refine lv_bipush (v := 6) hx hb dX1_setUsual_25 (by decide) ?_
  refine bPut (T := TX1) (N := 7) (ci := 1) (ws' := [(g, .inr (1, [.int 600, .int 40, .int 2, .int 12, .int 6, .ref gl, .ref gr])), (gl, .inr (4, [.int rx0, .int rx1, .int rx2])), (gr, .inr (4, [.int ry0, .int ry1, .int ry2]))]) X Y i_X1_setUsual_X1 tyX1 tyX1_ok nmX1 0 rfl rfl 4 (Nat.le_of_ble_eq_true rfl) f_X1_setUsual_35 rfl rfl rfl rfl (Nat.le_of_ble_eq_true rfl) rfl dX1_setUsual_27 (fun H locs Y => ?_)
  refine lv_aload_n hx hb dX1_setUsual_30 rfl (lv_at hl 0 rfl) ?_
  refine bGet (v := .ref gl) (T := TX1) (N := 7) (ci := 1) X Y i_X1_setUsual_X1 0 rfl rfl 5 (Nat.le_of_ble_eq_true rfl) f_X1_setUsual_10 rfl rfl dX1_setUsual_31 ?_
  refine lv_bipush (v := 100) hx hb dX1_setUsual_34 (by decide) ?_
  refine lv_bipush (v := 30) hx hb dX1_setUsual_36 (by decide) ?_
  refine lv_iconst (v := 0) hx hb dX1_setUsual_38 (by decide) ?_
  refine bVV (As := [.int 100, .int 30, .int 0]) (rest := []) (wc := [(gl, .inr (4, [.int rx0, .int rx1, .int rx2]))]) (w1 := [(gl, .inr (4, [.int 100, .int 30, .int 0]))]) (ws' := [(g, .inr (1, [.int 600, .int 40, .int 2, .int 12, .int 6, .ref gl, .ref gr])), (gl, .inr (4, [.int 100, .int 30, .int 0])), (gr, .inr (4, [.int ry0, .int ry1, .int ry2]))]) (ad := [gl]) (wr := [(g, .inr (1, [.int 600, .int 40, .int 2, .int 12, .int 6, .ref gl, .ref gr])), (gr, .inr (4, [.int ry0, .int ry1, .int ry2]))]) (nn := 3) (ci := 4) (q0 := 1) X Y (c_startSet l D cyC cyI gl rx0 rx1 rx2 100 30 0) gX1_setUsual_X4_set rfl ⟨rfl, rfl⟩ hd_X4_set ⟨(Nat.le_of_ble_eq_true rfl), (Nat.le_of_ble_eq_true rfl)⟩ rfl rfl rfl [1] [0, 2] rfl rfl rfl rfl rfl rfl rfl rfl (by decide) rfl rfl hl.1 (Nat.le_of_ble_eq_true rfl) ⟨Nat.zero_le _, Nat.zero_le _⟩ dX1_setUsual_39 (fun H locs Y => ?_)
  refine lv_aload_n hx hb dX1_setUsual_42 rfl (lv_at hl 0 rfl) ?_
  refine bGet (v := .ref gr) (T := TX1) (N := 7) (ci := 1) X Y i_X1_setUsual_X1 0 rfl rfl 6 (Nat.le_of_ble_eq_true rfl) f_X1_setUsual_16 rfl rfl dX1_setUsual_43 ?_
  refine lv_sipush (v := 500) hx hb dX1_setUsual_46 (by decide) ?_
  refine lv_bipush (v := 30) hx hb dX1_setUsual_49 (by decide) ?_
  refine lv_iconst (v := 0) hx hb dX1_setUsual_51 (by decide) ?_
  refine bVV (As := [.int 500, .int 30, .int 0]) (rest := []) (wc := [(gr, .inr (4, [.int ry0, .int ry1, .int ry2]))]) (w1 := [(gr, .inr (4, [.int 500, .int 30, .int 0]))]) (ws' := [(g, .inr (1, [.int 600, .int 40, .int 2, .int 12, .int 6, .ref gl, .ref gr])), (gl, .inr (4, [.int 100, .int 30, .int 0])), (gr, .inr (4, [.int 500, .int 30, .int 0]))]) (ad := [gr]) (wr := [(g, .inr (1, [.int 600, .int 40, .int 2, .int 12, .int 6, .ref gl, .ref gr])), (gl, .inr (4, [.int 100, .int 30, .int 0]))]) (nn := 3) (ci := 4) (q0 := 2) X Y (c_startSet l D cyC cyI gr ry0 ry1 ry2 500 30 0) gX1_setUsual_X4_set rfl ⟨rfl, rfl⟩ hd_X4_set ⟨(Nat.le_of_ble_eq_true rfl), (Nat.le_of_ble_eq_true rfl)⟩ rfl rfl rfl [2] [0, 1] rfl rfl rfl rfl rfl rfl rfl rfl (by decide) rfl rfl hl.1 (Nat.le_of_ble_eq_true rfl) ⟨Nat.zero_le _, Nat.zero_le _⟩ dX1_setUsual_52 (fun H locs Y => ?_)
  exact bEndV X Y hr hlk dX1_setUsual_55 rfl
theorem i_X1_holdsBoth_X1 : ∀ w ∈ wsX10, w ∈ wsX1_holdsBoth := by decide +kernel
theorem f_X1_holdsBoth_10 : Cond.fieldLink RX1 10 "SwingCranes$Layout" "left" "LSwingCranes$Start;" ∈ wsX1_holdsBoth := by decide +kernel
theorem i_X1_holdsBoth_X4 : ∀ w ∈ wsX40, w ∈ wsX1_holdsBoth := by decide +kernel
theorem f_X1_holdsBoth_42 : Cond.fieldLink RX1 42 "SwingCranes$Start" "place" "I" ∈ wsX1_holdsBoth := by decide +kernel
theorem f_X1_holdsBoth_22 : Cond.fieldLink RX1 22 "SwingCranes$Layout" "end" "I" ∈ wsX1_holdsBoth := by decide +kernel
theorem f_X1_holdsBoth_16 : Cond.fieldLink RX1 16 "SwingCranes$Layout" "right" "LSwingCranes$Start;" ∈ wsX1_holdsBoth := by decide +kernel
theorem f_X1_holdsBoth_26 : Cond.fieldLink RX1 26 "SwingCranes$Layout" "gap" "I" ∈ wsX1_holdsBoth := by decide +kernel
def s_holdsBoth (r0 : Int32) (r1 : Int32) (rx0 : Int32) (ry0 : Int32) : Bool :=
  if r0 < rx0 then
    false
  else
    if r0 < ry0 then
      false
    else
      if ry0 - rx0 < r1 then
        false
      else
        true
set_option maxHeartbeats 4000000 in
set_option maxRecDepth 100000 in
theorem c_holdsBoth (l : Launch) (D : va_G) (cyC cyI : ClassId) (g : Nat) (r0 : Int32) (r1 : Int32) (r2 : Int32) (r3 : Int32) (r4 : Int32) (gl : Nat) (rx0 : Int32) (rx1 : Int32) (rx2 : Int32) (gr : Nat) (ry0 : Int32) (ry1 : Int32) (ry2 : Int32) (o0 : Bool) (hu : s_holdsBoth r0 r1 rx0 ry0 = o0) : CI l yX1_holdsBoth wsX1_holdsBoth { frames := 0, cells := 0, slots := 0, locals := 0 } D cyC cyI [.ref g] [(g, .inr (1, [.int r0, .int r1, .int r2, .int r3, .int r4, .ref gl, .ref gr])), (gl, .inr (4, [.int rx0, .int rx1, .int rx2])), (gr, .inr (4, [.int ry0, .int ry1, .int ry2]))] (bB o0) [(g, .inr (1, [.int r0, .int r1, .int r2, .int r3, .int r4, .ref gl, .ref gr])), (gl, .inr (4, [.int rx0, .int rx1, .int rx2])), (gr, .inr (4, [.int ry0, .int ry1, .int ry2]))] := by
  refine CI.of (cc := cX1_holdsBoth) (n := 1) (ret := (some .boolean)) (by decide +kernel) rfl (Nat.le_of_ble_eq_true rfl) ?_
  intro p_ e_ s_ m_ bl_ me_ cd_ A_ ls X Y hr hlk hl
  have hx := X.1.1
  have hb := X.1.2.1
  have hl : lv_has ls 1 [(0, .ref g)] := hl
  unfold s_holdsBoth at hu
  refine lv_aload_n hx hb dX1_holdsBoth_0 rfl (lv_at hl 0 rfl) ?_
  refine bGet (v := .ref gl) (T := TX1) (N := 7) (ci := 1) X Y i_X1_holdsBoth_X1 0 rfl rfl 5 (Nat.le_of_ble_eq_true rfl) f_X1_holdsBoth_10 rfl rfl dX1_holdsBoth_1 ?_
  refine bGet (v := .int rx0) (T := TX4) (N := 3) (ci := 4) X Y i_X1_holdsBoth_X4 1 rfl rfl 0 (Nat.le_of_ble_eq_true rfl) f_X1_holdsBoth_42 rfl rfl dX1_holdsBoth_4 ?_
  refine lv_aload_n hx hb dX1_holdsBoth_7 rfl (lv_at hl 0 rfl) ?_
  refine bGet (v := .int r0) (T := TX1) (N := 7) (ci := 1) X Y i_X1_holdsBoth_X1 0 rfl rfl 0 (Nat.le_of_ble_eq_true rfl) f_X1_holdsBoth_22 rfl rfl dX1_holdsBoth_8 ?_
  refine lv_icmp_gt (tgt := 54) hx hb dX1_holdsBoth_11 (by decide) (fun c_1 => ?_) (fun c_1 => ?_)
  · have c_1 : r0 < rx0 := c_1
    rw [if_pos c_1] at hu
    refine lv_iconst (v := 0) hx hb dX1_holdsBoth_54 (by decide) ?_
    subst hu
    exact bEndZ X Y hr hlk dX1_holdsBoth_55 rfl rfl rfl
  · have c_1 : ¬ (r0 < rx0) := c_1
    rw [if_neg c_1] at hu
    refine lv_aload_n hx hb dX1_holdsBoth_14 rfl (lv_at hl 0 rfl) ?_
    refine bGet (v := .ref gr) (T := TX1) (N := 7) (ci := 1) X Y i_X1_holdsBoth_X1 0 rfl rfl 6 (Nat.le_of_ble_eq_true rfl) f_X1_holdsBoth_16 rfl rfl dX1_holdsBoth_15 ?_
    refine bGet (v := .int ry0) (T := TX4) (N := 3) (ci := 4) X Y i_X1_holdsBoth_X4 2 rfl rfl 0 (Nat.le_of_ble_eq_true rfl) f_X1_holdsBoth_42 rfl rfl dX1_holdsBoth_18 ?_
    refine lv_aload_n hx hb dX1_holdsBoth_21 rfl (lv_at hl 0 rfl) ?_
    refine bGet (v := .int r0) (T := TX1) (N := 7) (ci := 1) X Y i_X1_holdsBoth_X1 0 rfl rfl 0 (Nat.le_of_ble_eq_true rfl) f_X1_holdsBoth_22 rfl rfl dX1_holdsBoth_22 ?_
    refine lv_icmp_gt (tgt := 54) hx hb dX1_holdsBoth_25 (by decide) (fun c_2 => ?_) (fun c_2 => ?_)
    · have c_2 : r0 < ry0 := c_2
      rw [if_pos c_2] at hu
      refine lv_iconst (v := 0) hx hb dX1_holdsBoth_54 (by decide) ?_
      subst hu
      exact bEndZ X Y hr hlk dX1_holdsBoth_55 rfl rfl rfl
    · have c_2 : ¬ (r0 < ry0) := c_2
      rw [if_neg c_2] at hu
      refine lv_aload_n hx hb dX1_holdsBoth_28 rfl (lv_at hl 0 rfl) ?_
      refine bGet (v := .ref gr) (T := TX1) (N := 7) (ci := 1) X Y i_X1_holdsBoth_X1 0 rfl rfl 6 (Nat.le_of_ble_eq_true rfl) f_X1_holdsBoth_16 rfl rfl dX1_holdsBoth_29 ?_
      refine bGet (v := .int ry0) (T := TX4) (N := 3) (ci := 4) X Y i_X1_holdsBoth_X4 2 rfl rfl 0 (Nat.le_of_ble_eq_true rfl) f_X1_holdsBoth_42 rfl rfl dX1_holdsBoth_32 ?_
      refine lv_aload_n hx hb dX1_holdsBoth_35 rfl (lv_at hl 0 rfl) ?_
      refine bGet (v := .ref gl) (T := TX1) (N := 7) (ci := 1) X Y i_X1_holdsBoth_X1 0 rfl rfl 5 (Nat.le_of_ble_eq_true rfl) f_X1_holdsBoth_10 rfl rfl dX1_holdsBoth_36 ?_
      refine bGet (v := .int rx0) (T := TX4) (N := 3) (ci := 4) X Y i_X1_holdsBoth_X4 1 rfl rfl 0 (Nat.le_of_ble_eq_true rfl) f_X1_holdsBoth_42 rfl rfl dX1_holdsBoth_39 ?_
      refine bSub (v := ry0 - rx0) X dX1_holdsBoth_42 rfl ?_
      refine lv_aload_n hx hb dX1_holdsBoth_43 rfl (lv_at hl 0 rfl) ?_
      refine bGet (v := .int r1) (T := TX1) (N := 7) (ci := 1) X Y i_X1_holdsBoth_X1 0 rfl rfl 1 (Nat.le_of_ble_eq_true rfl) f_X1_holdsBoth_26 rfl rfl dX1_holdsBoth_44 ?_
      refine lv_icmp_lt (tgt := 54) hx hb dX1_holdsBoth_47 (by decide) (fun c_3 => ?_) (fun c_3 => ?_)
      · have c_3 : ry0 - rx0 < r1 := c_3
        rw [if_pos c_3] at hu
        refine lv_iconst (v := 0) hx hb dX1_holdsBoth_54 (by decide) ?_
        subst hu
        exact bEndZ X Y hr hlk dX1_holdsBoth_55 rfl rfl rfl
      · have c_3 : ¬ (ry0 - rx0 < r1) := c_3
        rw [if_neg c_3] at hu
        refine lv_iconst (v := 1) hx hb dX1_holdsBoth_50 (by decide) ?_
        refine lv_goto (tgt := 55) hx hb dX1_holdsBoth_51 (by decide) ?_
        subst hu
        exact bEndZ X Y hr hlk dX1_holdsBoth_55 rfl rfl rfl
theorem i_X6_isFull_X6 : ∀ w ∈ wsX60, w ∈ wsX6_isFull := by decide +kernel
theorem f_X6_isFull_15 : Cond.fieldLink RX6 15 "SwingCranes$Text" "length" "I" ∈ wsX6_isFull := by decide +kernel
def s_isFull (xn : Int32) : Bool :=
  if xn < 200 then
    false
  else
    true
set_option maxHeartbeats 4000000 in
set_option maxRecDepth 100000 in
theorem c_isFull (l : Launch) (D : va_G) (cyC cyI : ClassId) (h : Nat) (ht : Nat) (xn : Int32) (xi : Int32) (xc : Nat → Int32) (o0 : Bool) (hu : s_isFull xn = o0) : CI l yX6_isFull wsX6_isFull { frames := 0, cells := 0, slots := 0, locals := 0 } D cyC cyI [.ref h] [(h, .inr (6, [.ref ht, .int xn, .int xi])), (ht, .inl (cyC, 200, .inl xc))] (bB o0) [(h, .inr (6, [.ref ht, .int xn, .int xi])), (ht, .inl (cyC, 200, .inl xc))] := by
  refine CI.of (cc := cX6_isFull) (n := 1) (ret := (some .boolean)) (by decide +kernel) rfl (Nat.le_of_ble_eq_true rfl) ?_
  intro p_ e_ s_ m_ bl_ me_ cd_ A_ ls X Y hr hlk hl
  have hx := X.1.1
  have hb := X.1.2.1
  have hl : lv_has ls 1 [(0, .ref h)] := hl
  unfold s_isFull at hu
  refine lv_aload_n hx hb dX6_isFull_0 rfl (lv_at hl 0 rfl) ?_
  refine bGet (v := .int xn) (T := TX6) (N := 3) (ci := 6) X Y i_X6_isFull_X6 0 rfl rfl 1 (Nat.le_of_ble_eq_true rfl) f_X6_isFull_15 rfl rfl dX6_isFull_1 ?_
  refine lv_sipush (v := 200) hx hb dX6_isFull_4 (by decide) ?_
  refine lv_icmp_lt (tgt := 14) hx hb dX6_isFull_7 (by decide) (fun c_1 => ?_) (fun c_1 => ?_)
  · have c_1 : xn < 200 := c_1
    rw [if_pos c_1] at hu
    refine lv_iconst (v := 0) hx hb dX6_isFull_14 (by decide) ?_
    subst hu
    exact bEndZ X Y hr hlk dX6_isFull_15 rfl rfl rfl
  · have c_1 : ¬ (xn < 200) := c_1
    rw [if_neg c_1] at hu
    refine lv_iconst (v := 1) hx hb dX6_isFull_10 (by decide) ?_
    refine lv_goto (tgt := 15) hx hb dX6_isFull_11 (by decide) ?_
    subst hu
    exact bEndZ X Y hr hlk dX6_isFull_15 rfl rfl rfl
theorem i_X6_append_X6 : ∀ w ∈ wsX60, w ∈ wsX6_append := by decide +kernel
theorem f_X6_append_15 : Cond.fieldLink RX6 15 "SwingCranes$Text" "length" "I" ∈ wsX6_append := by decide +kernel
theorem f_X6_append_9 : Cond.fieldLink RX6 9 "SwingCranes$Text" "letters" "[C" ∈ wsX6_append := by decide +kernel
def s_append (xn : Int32) (xc : Nat → Int32) (w : Int32) : Int32 × (Nat → Int32) :=
  if xn < 0 then
    (xn, xc)
  else
    if 200 ≤ xn then
      (xn, xc)
    else
      (xn + 1, upd xc xn.toNatClampNeg (vp_nar .char w))
set_option maxHeartbeats 4000000 in
set_option maxRecDepth 100000 in
theorem c_append (l : Launch) (D : va_G) (cyC cyI : ClassId) (h : Nat) (ht : Nat) (xn : Int32) (xi : Int32) (xc : Nat → Int32) (w : Int32) (o0 : Int32) (o1 : Nat → Int32) (hu : s_append xn xc w = (o0, o1)) : CV l yX6_append wsX6_append { frames := 0, cells := 0, slots := 0, locals := 0 } D cyC cyI [.ref h, .int w] [(h, .inr (6, [.ref ht, .int xn, .int xi])), (ht, .inl (cyC, 200, .inl xc))] [(h, .inr (6, [.ref ht, .int o0, .int xi])), (ht, .inl (cyC, 200, .inl o1))] := by
  refine CV.of (cc := cX6_append) (n := 2) (ret := none) (by decide +kernel) rfl (Nat.le_of_ble_eq_true rfl) ?_
  intro p_ e_ s_ m_ bl_ me_ cd_ A_ ls X Y hr hlk hl
  have hx := X.1.1
  have hb := X.1.2.1
  have hl : lv_has ls 2 [(0, .ref h), (1, .int w)] := hl
  unfold s_append at hu
  refine lv_aload_n hx hb dX6_append_0 rfl (lv_at hl 0 rfl) ?_
  refine bGet (v := .int xn) (T := TX6) (N := 3) (ci := 6) X Y i_X6_append_X6 0 rfl rfl 1 (Nat.le_of_ble_eq_true rfl) f_X6_append_15 rfl rfl dX6_append_1 ?_
  refine lv_if_lt (tgt := 39) hx hb dX6_append_4 (by decide) (fun c_1 => ?_) (fun c_1 => ?_)
  · have c_1 : xn < 0 := c_1
    rw [if_pos c_1] at hu
    have h9 := (Prod.mk.inj hu).1; replace hu := (Prod.mk.inj hu).2; subst h9
    subst hu
    exact bEndV X Y hr hlk dX6_append_39 rfl
  · have c_1 : ¬ (xn < 0) := c_1
    rw [if_neg c_1] at hu
    refine lv_aload_n hx hb dX6_append_7 rfl (lv_at hl 0 rfl) ?_
    refine bGet (v := .int xn) (T := TX6) (N := 3) (ci := 6) X Y i_X6_append_X6 0 rfl rfl 1 (Nat.le_of_ble_eq_true rfl) f_X6_append_15 rfl rfl dX6_append_8 ?_
    refine lv_aload_n hx hb dX6_append_11 rfl (lv_at hl 0 rfl) ?_
    refine bGet (v := .ref ht) (T := TX6) (N := 3) (ci := 6) X Y i_X6_append_X6 0 rfl rfl 0 (Nat.le_of_ble_eq_true rfl) f_X6_append_9 rfl rfl dX6_append_12 ?_
    refine bLen (v := 200) X Y 1 0 rfl rfl rfl dX6_append_15 ?_
    refine lv_icmp_ge (tgt := 39) hx hb dX6_append_16 (by decide) (fun c_2 => ?_) (fun c_2 => ?_)
    · have c_2 : 200 ≤ xn := c_2
      rw [if_pos c_2] at hu
      have h9 := (Prod.mk.inj hu).1; replace hu := (Prod.mk.inj hu).2; subst h9
      subst hu
      exact bEndV X Y hr hlk dX6_append_39 rfl
    · have c_2 : ¬ (200 ≤ xn) := c_2
      rw [if_neg c_2] at hu
      refine lv_aload_n hx hb dX6_append_19 rfl (lv_at hl 0 rfl) ?_
      refine bGet (v := .ref ht) (T := TX6) (N := 3) (ci := 6) X Y i_X6_append_X6 0 rfl rfl 0 (Nat.le_of_ble_eq_true rfl) f_X6_append_9 rfl rfl dX6_append_20 ?_
      refine lv_aload_n hx hb dX6_append_23 rfl (lv_at hl 0 rfl) ?_
      refine bGet (v := .int xn) (T := TX6) (N := 3) (ci := 6) X Y i_X6_append_X6 0 rfl rfl 1 (Nat.le_of_ble_eq_true rfl) f_X6_append_15 rfl rfl dX6_append_24 ?_
      refine lv_iload_n hx hb dX6_append_27 rfl (lv_at hl 1 rfl) ?_
      refine bCast (f' := upd xc xn.toNatClampNeg (vp_nar .char w)) (ws' := [(h, .inr (6, [.ref ht, .int xn, .int xi])), (ht, .inl (cyC, 200, .inl (upd xc xn.toNatClampNeg (vp_nar .char w))))]) X Y 1 rfl (by first | assumption | exact bInK (x := 200) (N := 200) (by assumption) (by assumption) rfl (by decide) | exact bInK2 (x := 200) (N := 200) (by assumption) (by assumption) rfl (by decide)) rfl rfl dX6_append_28 (fun H locs Y => ?_)
      refine lv_aload_n hx hb dX6_append_29 rfl (lv_at hl 0 rfl) ?_
      refine lv_dup hx hb dX6_append_30 rfl ?_
      refine bGet (v := .int xn) (T := TX6) (N := 3) (ci := 6) X Y i_X6_append_X6 0 rfl rfl 1 (Nat.le_of_ble_eq_true rfl) f_X6_append_15 rfl rfl dX6_append_31 ?_
      refine lv_iconst (v := 1) hx hb dX6_append_34 (by decide) ?_
      refine bAdd (v := xn + 1) X dX6_append_35 rfl ?_
      refine bPut (T := TX6) (N := 3) (ci := 6) (ws' := [(h, .inr (6, [.ref ht, .int (xn + 1), .int xi])), (ht, .inl (cyC, 200, .inl (upd xc xn.toNatClampNeg (vp_nar .char w))))]) X Y i_X6_append_X6 tyX6 tyX6_ok nmX6 0 rfl rfl 1 (Nat.le_of_ble_eq_true rfl) f_X6_append_15 rfl rfl rfl rfl (Nat.le_of_ble_eq_true rfl) rfl dX6_append_36 (fun H locs Y => ?_)
      have h9 := (Prod.mk.inj hu).1; replace hu := (Prod.mk.inj hu).2; subst h9
      subst hu
      exact bEndV X Y hr hlk dX6_append_39 rfl
theorem i_X6_letterAt_X6 : ∀ w ∈ wsX60, w ∈ wsX6_letterAt := by decide +kernel
theorem f_X6_letterAt_15 : Cond.fieldLink RX6 15 "SwingCranes$Text" "length" "I" ∈ wsX6_letterAt := by decide +kernel
theorem f_X6_letterAt_9 : Cond.fieldLink RX6 9 "SwingCranes$Text" "letters" "[C" ∈ wsX6_letterAt := by decide +kernel
def s_letterAt (xn : Int32) (xc : Nat → Int32) (k : Int32) : Int32 :=
  if k < 0 then
    (-4)
  else
    if xn ≤ k then
      (-4)
    else
      if k < 200 then
        xc k.toNatClampNeg
      else
        (-4)
set_option maxHeartbeats 4000000 in
set_option maxRecDepth 100000 in
theorem c_letterAt (l : Launch) (D : va_G) (cyC cyI : ClassId) (h : Nat) (ht : Nat) (xn : Int32) (xi : Int32) (xc : Nat → Int32) (k : Int32) (o0 : Int32) (hu : s_letterAt xn xc k = o0) : CI l yX6_letterAt wsX6_letterAt { frames := 0, cells := 0, slots := 0, locals := 0 } D cyC cyI [.ref h, .int k] [(h, .inr (6, [.ref ht, .int xn, .int xi])), (ht, .inl (cyC, 200, .inl xc))] o0 [(h, .inr (6, [.ref ht, .int xn, .int xi])), (ht, .inl (cyC, 200, .inl xc))] := by
  refine CI.of (cc := cX6_letterAt) (n := 2) (ret := (some .int)) (by decide +kernel) rfl (Nat.le_of_ble_eq_true rfl) ?_
  intro p_ e_ s_ m_ bl_ me_ cd_ A_ ls X Y hr hlk hl
  have hx := X.1.1
  have hb := X.1.2.1
  have hl : lv_has ls 2 [(0, .ref h), (1, .int k)] := hl
  unfold s_letterAt at hu
  refine lv_iload_n hx hb dX6_letterAt_0 rfl (lv_at hl 1 rfl) ?_
  refine lv_if_lt (tgt := 21) hx hb dX6_letterAt_1 (by decide) (fun c_1 => ?_) (fun c_1 => ?_)
  · have c_1 : k < 0 := c_1
    rw [if_pos c_1] at hu
    refine lv_bipush (v := (-4)) hx hb dX6_letterAt_21 (by decide) ?_
    subst hu
    exact bEndI X Y hr hlk dX6_letterAt_23 rfl rfl
  · have c_1 : ¬ (k < 0) := c_1
    rw [if_neg c_1] at hu
    refine lv_iload_n hx hb dX6_letterAt_4 rfl (lv_at hl 1 rfl) ?_
    refine lv_aload_n hx hb dX6_letterAt_5 rfl (lv_at hl 0 rfl) ?_
    refine bGet (v := .int xn) (T := TX6) (N := 3) (ci := 6) X Y i_X6_letterAt_X6 0 rfl rfl 1 (Nat.le_of_ble_eq_true rfl) f_X6_letterAt_15 rfl rfl dX6_letterAt_6 ?_
    refine lv_icmp_ge (tgt := 21) hx hb dX6_letterAt_9 (by decide) (fun c_2 => ?_) (fun c_2 => ?_)
    · have c_2 : xn ≤ k := c_2
      rw [if_pos c_2] at hu
      refine lv_bipush (v := (-4)) hx hb dX6_letterAt_21 (by decide) ?_
      subst hu
      exact bEndI X Y hr hlk dX6_letterAt_23 rfl rfl
    · have c_2 : ¬ (xn ≤ k) := c_2
      rw [if_neg c_2] at hu
      refine lv_iload_n hx hb dX6_letterAt_12 rfl (lv_at hl 1 rfl) ?_
      refine lv_aload_n hx hb dX6_letterAt_13 rfl (lv_at hl 0 rfl) ?_
      refine bGet (v := .ref ht) (T := TX6) (N := 3) (ci := 6) X Y i_X6_letterAt_X6 0 rfl rfl 0 (Nat.le_of_ble_eq_true rfl) f_X6_letterAt_9 rfl rfl dX6_letterAt_14 ?_
      refine bLen (v := 200) X Y 1 0 rfl rfl rfl dX6_letterAt_17 ?_
      refine lv_icmp_lt (tgt := 24) hx hb dX6_letterAt_18 (by decide) (fun c_3 => ?_) (fun c_3 => ?_)
      · have c_3 : k < 200 := c_3
        rw [if_pos c_3] at hu
        refine lv_aload_n hx hb dX6_letterAt_24 rfl (lv_at hl 0 rfl) ?_
        refine bGet (v := .ref ht) (T := TX6) (N := 3) (ci := 6) X Y i_X6_letterAt_X6 0 rfl rfl 0 (Nat.le_of_ble_eq_true rfl) f_X6_letterAt_9 rfl rfl dX6_letterAt_25 ?_
        refine lv_iload_n hx hb dX6_letterAt_28 rfl (lv_at hl 1 rfl) ?_
        refine bCald (v := xc k.toNatClampNeg) X Y 1 rfl (by first | assumption | exact bInK (x := 200) (N := 200) (by assumption) (by assumption) rfl (by decide) | exact bInK2 (x := 200) (N := 200) (by assumption) (by assumption) rfl (by decide)) dX6_letterAt_29 rfl ?_
        subst hu
        exact bEndI X Y hr hlk dX6_letterAt_30 rfl rfl
      · have c_3 : ¬ (k < 200) := c_3
        rw [if_neg c_3] at hu
        refine lv_bipush (v := (-4)) hx hb dX6_letterAt_21 (by decide) ?_
        subst hu
        exact bEndI X Y hr hlk dX6_letterAt_23 rfl rfl
theorem i_X6_readNumber_X6 : ∀ w ∈ wsX60, w ∈ wsX6_readNumber := by decide +kernel
theorem f_X6_readNumber_24 : Cond.fieldLink RX6 24 "SwingCranes$Text" "at" "I" ∈ wsX6_readNumber := by decide +kernel
theorem hd_X6_letterAt : bD1 yX6_letterAt RX6 1 := by decide +kernel
theorem ni_X6_readNumber_X7 : Cond.initialized RX7 ∈ wsX6_readNumber := by decide +kernel
theorem ns_X6_readNumber_X7_isWithin : Cond.static yX7_isWithin ∈ wsX6_readNumber := by decide +kernel
def g_readNumber (xn : Int32) (xc : Nat → Int32) (mk : Int32) : Nat → Nat → Int32 → Int32 → Int32 × Int32
  | 0, _, _, _ => (0, 0)
  | n_ + 1, j, nu, ii =>
    if 3 ≤ nI j then
      if (s_letterAt xn xc ii) = mk then
        if nI j ≤ 0 then
          ((-4), ii + 1)
        else
          (nu, ii + 1)
      else
        if nI j ≤ 0 then
          ((-4), ii + 1)
        else
          ((-4), ii + 1)
    else
      if (s_isWithin (s_letterAt xn xc ii) 48 57) = true then
        g_readNumber xn xc mk n_ (j + 1) (((10 * nu) + (s_letterAt xn xc ii)) - 48) (ii + 1)
      else
        if (s_letterAt xn xc ii) = mk then
          if nI j ≤ 0 then
            ((-4), ii + 1)
          else
            (nu, ii + 1)
        else
          if nI j ≤ 0 then
            ((-4), ii + 1)
          else
            ((-4), ii + 1)
def s_readNumber (xn : Int32) (xi : Int32) (xc : Nat → Int32) (mk : Int32) : Int32 × Int32 :=
  g_readNumber xn xc mk (4) 0 0 xi
set_option maxHeartbeats 4000000 in
set_option maxRecDepth 100000 in
theorem lp_readNumber {p_ : Program} {e_ : Env} {s_ : State} {m_ : MethodId} {bl_ : List Frame} {me_ : Method} {cd_ : Code} {A_ : Nat → Prop} (l : Launch) (D : va_G) (cyC cyI : ClassId) (h : Nat) (ht : Nat) (xn : Int32) (xi : Int32) (xc : Nat → Int32) (mk : Int32) (o0 : Int32) (o1 : Int32) (X : bX p_ s_ m_ ([.ref h, .int mk] : List Value).toArray cd_ cX6_readNumber 5 wsX6_readNumber yX6_readNumber.cls D cyC cyI) (hr : me_.sig.returnType = (some .int)) (hlk : me_.locks = false) : ∀ (n_ : Nat) (j : Nat) (nu : Int32) (ii : Int32) (hN : 4 ≤ j + n_) (hJ : j ≤ 3) (hu : g_readNumber xn xc mk n_ j nu ii = (o0, o1)) (ls : Array Slot) (H : Heap) (locs : List Loc), lv_has ls 5 [(0, .ref h), (1, .int mk), (2, .int nu), (3, .int (nI j))] → bY D A_ s_.heap [(h, .inr (6, [.ref ht, .int xn, .int ii])), (ht, .inl (cyC, 200, .inl xc))] H locs → W p_ l e_ ({ frames := 1, cells := 0, slots := 0, locals := 22 } : Room) s_ m_ ([.ref h, .int mk] : List Value).toArray bl_ me_ cd_ H locs 0 0 (bQI bl_ ([.ref h, .int mk] : List Value).toArray s_ D [(h, .inr (6, [.ref ht, .int xn, .int o1])), (ht, .inl (cyC, 200, .inl xc))] o0 A_) (F0 m_ 4 ls []) := by
  intro n_
  induction n_ with
  | zero =>
    intro j nu ii hN hJ hu ls H locs hl Y
    exfalso; omega
  | succ n_ ih =>
    intro j nu ii hN hJ hu ls H locs hl Y
    have hx := X.1.1
    have hb := X.1.2.1
    rw [g_readNumber] at hu
    refine lv_iload_n hx hb dX6_readNumber_4 rfl (lv_at hl 3 rfl) ?_
    refine lv_iconst (v := 3) hx hb dX6_readNumber_5 (by decide) ?_
    refine lv_icmp_ge (tgt := 60) hx hb dX6_readNumber_6 (by decide) (fun c_1 => ?_) (fun c_1 => ?_)
    · have c_1 : 3 ≤ nI j := c_1
      rw [if_pos c_1] at hu
      refine lv_aload_n hx hb dX6_readNumber_60 rfl (lv_at hl 0 rfl) ?_
      refine lv_aload_n hx hb dX6_readNumber_61 rfl (lv_at hl 0 rfl) ?_
      refine bGet (v := .int ii) (T := TX6) (N := 3) (ci := 6) X Y i_X6_readNumber_X6 0 rfl rfl 2 (Nat.le_of_ble_eq_true rfl) f_X6_readNumber_24 rfl rfl dX6_readNumber_62 ?_
      refine bVI0 (As := [.int ii]) (rest := []) (wc := [(h, .inr (6, [.ref ht, .int xn, .int ii])), (ht, .inl (cyC, 200, .inl xc))]) (ci := 6) (q0 := 0) X Y (c_letterAt l D cyC cyI h ht xn ii xc ii (s_letterAt xn xc ii) rfl) gX6_readNumber_X6_letterAt rfl ⟨rfl, rfl⟩ hd_X6_letterAt ⟨(Nat.le_of_ble_eq_true rfl), (Nat.le_of_ble_eq_true rfl)⟩ rfl rfl rfl [0, 1] rfl rfl rfl rfl hl.1 (Nat.le_of_ble_eq_true rfl) ⟨Nat.zero_le _, Nat.zero_le _⟩ dX6_readNumber_65 (fun H locs Y => ?_)
      refine lv_iload_n hx hb dX6_readNumber_68 rfl (lv_at hl 1 rfl) ?_
      refine lv_icmp_ne (tgt := 76) hx hb dX6_readNumber_69 (by decide) (fun c_2 => ?_) (fun c_2 => ?_)
      · have c_2 : ¬ ((s_letterAt xn xc ii) = mk) := c_2
        rw [if_neg c_2] at hu
        refine lv_iconst (v := 0) hx hb dX6_readNumber_76 (by decide) ?_
        refine lv_istore (lv' := [(4, .int 0), (0, .ref h), (1, .int mk), (2, .int nu), (3, .int (nI j))]) hx hb dX6_readNumber_77 hl (by decide) rfl (fun ls hl => ?_)
        refine lv_aload_n hx hb dX6_readNumber_79 rfl (lv_at hl 1 rfl) ?_
        refine lv_dup hx hb dX6_readNumber_80 rfl ?_
        refine bGet (v := .int ii) (T := TX6) (N := 3) (ci := 6) X Y i_X6_readNumber_X6 0 rfl rfl 2 (Nat.le_of_ble_eq_true rfl) f_X6_readNumber_24 rfl rfl dX6_readNumber_81 ?_
        refine lv_iconst (v := 1) hx hb dX6_readNumber_84 (by decide) ?_
        refine bAdd (v := ii + 1) X dX6_readNumber_85 rfl ?_
        refine bPut (T := TX6) (N := 3) (ci := 6) (ws' := [(h, .inr (6, [.ref ht, .int xn, .int (ii + 1)])), (ht, .inl (cyC, 200, .inl xc))]) X Y i_X6_readNumber_X6 tyX6 tyX6_ok nmX6 0 rfl rfl 2 (Nat.le_of_ble_eq_true rfl) f_X6_readNumber_24 rfl rfl rfl rfl (Nat.le_of_ble_eq_true rfl) rfl dX6_readNumber_86 (fun H locs Y => ?_)
        refine lv_iload_n hx hb dX6_readNumber_89 rfl (lv_at hl 4 rfl) ?_
        refine lv_if_le (tgt := 102) hx hb dX6_readNumber_90 (by decide) (fun c_3 => ?_) (fun c_3 => ?_)
        · have c_3 : nI j ≤ 0 := c_3
          rw [if_pos c_3] at hu
          refine lv_bipush (v := (-4)) hx hb dX6_readNumber_102 (by decide) ?_
          have h9 := (Prod.mk.inj hu).1; replace hu := (Prod.mk.inj hu).2; subst h9
          subst hu
          exact bEndI X Y hr hlk dX6_readNumber_104 rfl rfl
        · have c_3 : ¬ (nI j ≤ 0) := c_3
          rw [if_neg c_3] at hu
          refine lv_iload hx hb dX6_readNumber_93 (lv_at hl 0 rfl) ?_
          refine lv_if_eq (tgt := 102) hx hb dX6_readNumber_95 (by decide) (fun _ => ?_) (fun c_ => absurd (by decide) c_)
          refine lv_bipush (v := (-4)) hx hb dX6_readNumber_102 (by decide) ?_
          have h9 := (Prod.mk.inj hu).1; replace hu := (Prod.mk.inj hu).2; subst h9
          subst hu
          exact bEndI X Y hr hlk dX6_readNumber_104 rfl rfl
      · have c_2 : (s_letterAt xn xc ii) = mk := c_2
        rw [if_pos c_2] at hu
        refine lv_iconst (v := 1) hx hb dX6_readNumber_72 (by decide) ?_
        refine lv_goto (tgt := 77) hx hb dX6_readNumber_73 (by decide) ?_
        refine lv_istore (lv' := [(4, .int 1), (0, .ref h), (1, .int mk), (2, .int nu), (3, .int (nI j))]) hx hb dX6_readNumber_77 hl (by decide) rfl (fun ls hl => ?_)
        refine lv_aload_n hx hb dX6_readNumber_79 rfl (lv_at hl 1 rfl) ?_
        refine lv_dup hx hb dX6_readNumber_80 rfl ?_
        refine bGet (v := .int ii) (T := TX6) (N := 3) (ci := 6) X Y i_X6_readNumber_X6 0 rfl rfl 2 (Nat.le_of_ble_eq_true rfl) f_X6_readNumber_24 rfl rfl dX6_readNumber_81 ?_
        refine lv_iconst (v := 1) hx hb dX6_readNumber_84 (by decide) ?_
        refine bAdd (v := ii + 1) X dX6_readNumber_85 rfl ?_
        refine bPut (T := TX6) (N := 3) (ci := 6) (ws' := [(h, .inr (6, [.ref ht, .int xn, .int (ii + 1)])), (ht, .inl (cyC, 200, .inl xc))]) X Y i_X6_readNumber_X6 tyX6 tyX6_ok nmX6 0 rfl rfl 2 (Nat.le_of_ble_eq_true rfl) f_X6_readNumber_24 rfl rfl rfl rfl (Nat.le_of_ble_eq_true rfl) rfl dX6_readNumber_86 (fun H locs Y => ?_)
        refine lv_iload_n hx hb dX6_readNumber_89 rfl (lv_at hl 4 rfl) ?_
        refine lv_if_le (tgt := 102) hx hb dX6_readNumber_90 (by decide) (fun c_4 => ?_) (fun c_4 => ?_)
        · have c_4 : nI j ≤ 0 := c_4
          rw [if_pos c_4] at hu
          refine lv_bipush (v := (-4)) hx hb dX6_readNumber_102 (by decide) ?_
          have h9 := (Prod.mk.inj hu).1; replace hu := (Prod.mk.inj hu).2; subst h9
          subst hu
          exact bEndI X Y hr hlk dX6_readNumber_104 rfl rfl
        · have c_4 : ¬ (nI j ≤ 0) := c_4
          rw [if_neg c_4] at hu
          refine lv_iload hx hb dX6_readNumber_93 (lv_at hl 0 rfl) ?_
          refine lv_if_eq (tgt := 102) hx hb dX6_readNumber_95 (by decide) (fun c_ => absurd c_ (by decide)) (fun _ => ?_)
          refine lv_iload_n hx hb dX6_readNumber_98 rfl (lv_at hl 3 rfl) ?_
          refine lv_goto (tgt := 104) hx hb dX6_readNumber_99 (by decide) ?_
          have h9 := (Prod.mk.inj hu).1; replace hu := (Prod.mk.inj hu).2; subst h9
          subst hu
          exact bEndI X Y hr hlk dX6_readNumber_104 rfl rfl
    · have c_1 : ¬ (3 ≤ nI j) := c_1
      rw [if_neg c_1] at hu
      refine lv_aload_n hx hb dX6_readNumber_9 rfl (lv_at hl 0 rfl) ?_
      refine lv_aload_n hx hb dX6_readNumber_10 rfl (lv_at hl 0 rfl) ?_
      refine bGet (v := .int ii) (T := TX6) (N := 3) (ci := 6) X Y i_X6_readNumber_X6 0 rfl rfl 2 (Nat.le_of_ble_eq_true rfl) f_X6_readNumber_24 rfl rfl dX6_readNumber_11 ?_
      refine bVI0 (As := [.int ii]) (rest := []) (wc := [(h, .inr (6, [.ref ht, .int xn, .int ii])), (ht, .inl (cyC, 200, .inl xc))]) (ci := 6) (q0 := 0) X Y (c_letterAt l D cyC cyI h ht xn ii xc ii (s_letterAt xn xc ii) rfl) gX6_readNumber_X6_letterAt rfl ⟨rfl, rfl⟩ hd_X6_letterAt ⟨(Nat.le_of_ble_eq_true rfl), (Nat.le_of_ble_eq_true rfl)⟩ rfl rfl rfl [0, 1] rfl rfl rfl rfl hl.1 (Nat.le_of_ble_eq_true rfl) ⟨Nat.zero_le _, Nat.zero_le _⟩ dX6_readNumber_14 (fun H locs Y => ?_)
      refine lv_bipush (v := 48) hx hb dX6_readNumber_17 (by decide) ?_
      refine lv_bipush (v := 57) hx hb dX6_readNumber_19 (by decide) ?_
      refine bNI (host := RX7) (As := [.int (s_letterAt xn xc ii), .int 48, .int 57]) (rest := []) X Y (c_isWithin l D cyC cyI (s_letterAt xn xc ii) 48 57 (s_isWithin (s_letterAt xn xc ii) 48 57) rfl) gX6_readNumber_X7_isWithin_n54 rfl ⟨rfl, rfl⟩ hd_X7_isWithin.2 ⟨(Nat.le_of_ble_eq_true rfl), (Nat.le_of_ble_eq_true rfl)⟩ 10 rfl ni_X6_readNumber_X7 ns_X6_readNumber_X7_isWithin rfl rfl hl.1 (Nat.le_of_ble_eq_true rfl) ⟨Nat.zero_le _, Nat.zero_le _⟩ dX6_readNumber_21 (fun H locs Y => ?_)
      refine lv_if_eq (tgt := 60) hx hb dX6_readNumber_24 (by decide) (fun c_5 => ?_) (fun c_5 => ?_)
      · have c_5 := bB_f c_5
        rw [if_neg c_5] at hu
        refine lv_aload_n hx hb dX6_readNumber_60 rfl (lv_at hl 0 rfl) ?_
        refine lv_aload_n hx hb dX6_readNumber_61 rfl (lv_at hl 0 rfl) ?_
        refine bGet (v := .int ii) (T := TX6) (N := 3) (ci := 6) X Y i_X6_readNumber_X6 0 rfl rfl 2 (Nat.le_of_ble_eq_true rfl) f_X6_readNumber_24 rfl rfl dX6_readNumber_62 ?_
        refine bVI0 (As := [.int ii]) (rest := []) (wc := [(h, .inr (6, [.ref ht, .int xn, .int ii])), (ht, .inl (cyC, 200, .inl xc))]) (ci := 6) (q0 := 0) X Y (c_letterAt l D cyC cyI h ht xn ii xc ii (s_letterAt xn xc ii) rfl) gX6_readNumber_X6_letterAt rfl ⟨rfl, rfl⟩ hd_X6_letterAt ⟨(Nat.le_of_ble_eq_true rfl), (Nat.le_of_ble_eq_true rfl)⟩ rfl rfl rfl [0, 1] rfl rfl rfl rfl hl.1 (Nat.le_of_ble_eq_true rfl) ⟨Nat.zero_le _, Nat.zero_le _⟩ dX6_readNumber_65 (fun H locs Y => ?_)
        refine lv_iload_n hx hb dX6_readNumber_68 rfl (lv_at hl 1 rfl) ?_
        refine lv_icmp_ne (tgt := 76) hx hb dX6_readNumber_69 (by decide) (fun c_6 => ?_) (fun c_6 => ?_)
        · have c_6 : ¬ ((s_letterAt xn xc ii) = mk) := c_6
          rw [if_neg c_6] at hu
          refine lv_iconst (v := 0) hx hb dX6_readNumber_76 (by decide) ?_
          refine lv_istore (lv' := [(4, .int 0), (0, .ref h), (1, .int mk), (2, .int nu), (3, .int (nI j))]) hx hb dX6_readNumber_77 hl (by decide) rfl (fun ls hl => ?_)
          refine lv_aload_n hx hb dX6_readNumber_79 rfl (lv_at hl 1 rfl) ?_
          refine lv_dup hx hb dX6_readNumber_80 rfl ?_
          refine bGet (v := .int ii) (T := TX6) (N := 3) (ci := 6) X Y i_X6_readNumber_X6 0 rfl rfl 2 (Nat.le_of_ble_eq_true rfl) f_X6_readNumber_24 rfl rfl dX6_readNumber_81 ?_
          refine lv_iconst (v := 1) hx hb dX6_readNumber_84 (by decide) ?_
          refine bAdd (v := ii + 1) X dX6_readNumber_85 rfl ?_
          refine bPut (T := TX6) (N := 3) (ci := 6) (ws' := [(h, .inr (6, [.ref ht, .int xn, .int (ii + 1)])), (ht, .inl (cyC, 200, .inl xc))]) X Y i_X6_readNumber_X6 tyX6 tyX6_ok nmX6 0 rfl rfl 2 (Nat.le_of_ble_eq_true rfl) f_X6_readNumber_24 rfl rfl rfl rfl (Nat.le_of_ble_eq_true rfl) rfl dX6_readNumber_86 (fun H locs Y => ?_)
          refine lv_iload_n hx hb dX6_readNumber_89 rfl (lv_at hl 4 rfl) ?_
          refine lv_if_le (tgt := 102) hx hb dX6_readNumber_90 (by decide) (fun c_7 => ?_) (fun c_7 => ?_)
          · have c_7 : nI j ≤ 0 := c_7
            rw [if_pos c_7] at hu
            refine lv_bipush (v := (-4)) hx hb dX6_readNumber_102 (by decide) ?_
            have h9 := (Prod.mk.inj hu).1; replace hu := (Prod.mk.inj hu).2; subst h9
            subst hu
            exact bEndI X Y hr hlk dX6_readNumber_104 rfl rfl
          · have c_7 : ¬ (nI j ≤ 0) := c_7
            rw [if_neg c_7] at hu
            refine lv_iload hx hb dX6_readNumber_93 (lv_at hl 0 rfl) ?_
            refine lv_if_eq (tgt := 102) hx hb dX6_readNumber_95 (by decide) (fun _ => ?_) (fun c_ => absurd (by decide) c_)
            refine lv_bipush (v := (-4)) hx hb dX6_readNumber_102 (by decide) ?_
            have h9 := (Prod.mk.inj hu).1; replace hu := (Prod.mk.inj hu).2; subst h9
            subst hu
            exact bEndI X Y hr hlk dX6_readNumber_104 rfl rfl
        · have c_6 : (s_letterAt xn xc ii) = mk := c_6
          rw [if_pos c_6] at hu
          refine lv_iconst (v := 1) hx hb dX6_readNumber_72 (by decide) ?_
          refine lv_goto (tgt := 77) hx hb dX6_readNumber_73 (by decide) ?_
          refine lv_istore (lv' := [(4, .int 1), (0, .ref h), (1, .int mk), (2, .int nu), (3, .int (nI j))]) hx hb dX6_readNumber_77 hl (by decide) rfl (fun ls hl => ?_)
          refine lv_aload_n hx hb dX6_readNumber_79 rfl (lv_at hl 1 rfl) ?_
          refine lv_dup hx hb dX6_readNumber_80 rfl ?_
          refine bGet (v := .int ii) (T := TX6) (N := 3) (ci := 6) X Y i_X6_readNumber_X6 0 rfl rfl 2 (Nat.le_of_ble_eq_true rfl) f_X6_readNumber_24 rfl rfl dX6_readNumber_81 ?_
          refine lv_iconst (v := 1) hx hb dX6_readNumber_84 (by decide) ?_
          refine bAdd (v := ii + 1) X dX6_readNumber_85 rfl ?_
          refine bPut (T := TX6) (N := 3) (ci := 6) (ws' := [(h, .inr (6, [.ref ht, .int xn, .int (ii + 1)])), (ht, .inl (cyC, 200, .inl xc))]) X Y i_X6_readNumber_X6 tyX6 tyX6_ok nmX6 0 rfl rfl 2 (Nat.le_of_ble_eq_true rfl) f_X6_readNumber_24 rfl rfl rfl rfl (Nat.le_of_ble_eq_true rfl) rfl dX6_readNumber_86 (fun H locs Y => ?_)
          refine lv_iload_n hx hb dX6_readNumber_89 rfl (lv_at hl 4 rfl) ?_
          refine lv_if_le (tgt := 102) hx hb dX6_readNumber_90 (by decide) (fun c_8 => ?_) (fun c_8 => ?_)
          · have c_8 : nI j ≤ 0 := c_8
            rw [if_pos c_8] at hu
            refine lv_bipush (v := (-4)) hx hb dX6_readNumber_102 (by decide) ?_
            have h9 := (Prod.mk.inj hu).1; replace hu := (Prod.mk.inj hu).2; subst h9
            subst hu
            exact bEndI X Y hr hlk dX6_readNumber_104 rfl rfl
          · have c_8 : ¬ (nI j ≤ 0) := c_8
            rw [if_neg c_8] at hu
            refine lv_iload hx hb dX6_readNumber_93 (lv_at hl 0 rfl) ?_
            refine lv_if_eq (tgt := 102) hx hb dX6_readNumber_95 (by decide) (fun c_ => absurd c_ (by decide)) (fun _ => ?_)
            refine lv_iload_n hx hb dX6_readNumber_98 rfl (lv_at hl 3 rfl) ?_
            refine lv_goto (tgt := 104) hx hb dX6_readNumber_99 (by decide) ?_
            have h9 := (Prod.mk.inj hu).1; replace hu := (Prod.mk.inj hu).2; subst h9
            subst hu
            exact bEndI X Y hr hlk dX6_readNumber_104 rfl rfl
      · have c_5 := bB_t c_5
        rw [if_pos c_5] at hu
        refine lv_bipush (v := 10) hx hb dX6_readNumber_27 (by decide) ?_
        refine lv_iload_n hx hb dX6_readNumber_29 rfl (lv_at hl 2 rfl) ?_
        refine bMul (v := 10 * nu) X dX6_readNumber_30 rfl ?_
        refine lv_aload_n hx hb dX6_readNumber_31 rfl (lv_at hl 0 rfl) ?_
        refine lv_aload_n hx hb dX6_readNumber_32 rfl (lv_at hl 0 rfl) ?_
        refine bGet (v := .int ii) (T := TX6) (N := 3) (ci := 6) X Y i_X6_readNumber_X6 0 rfl rfl 2 (Nat.le_of_ble_eq_true rfl) f_X6_readNumber_24 rfl rfl dX6_readNumber_33 ?_
        refine bVI0 (As := [.int ii]) (rest := [.int (10 * nu)]) (wc := [(h, .inr (6, [.ref ht, .int xn, .int ii])), (ht, .inl (cyC, 200, .inl xc))]) (ci := 6) (q0 := 0) X Y (c_letterAt l D cyC cyI h ht xn ii xc ii (s_letterAt xn xc ii) rfl) gX6_readNumber_X6_letterAt rfl ⟨rfl, rfl⟩ hd_X6_letterAt ⟨(Nat.le_of_ble_eq_true rfl), (Nat.le_of_ble_eq_true rfl)⟩ rfl rfl rfl [0, 1] rfl rfl rfl rfl hl.1 (Nat.le_of_ble_eq_true rfl) ⟨Nat.zero_le _, Nat.zero_le _⟩ dX6_readNumber_36 (fun H locs Y => ?_)
        refine bAdd (v := (10 * nu) + (s_letterAt xn xc ii)) X dX6_readNumber_39 rfl ?_
        refine lv_bipush (v := 48) hx hb dX6_readNumber_40 (by decide) ?_
        refine bSub (v := ((10 * nu) + (s_letterAt xn xc ii)) - 48) X dX6_readNumber_42 rfl ?_
        refine lv_istore_n (lv' := [(2, .int (((10 * nu) + (s_letterAt xn xc ii)) - 48)), (0, .ref h), (1, .int mk), (3, .int (nI j))]) hx hb dX6_readNumber_43 rfl hl (by decide) rfl (fun ls hl => ?_)
        refine lv_iinc (v := nI (j + 1)) (lv' := [(3, .int (nI (j + 1))), (2, .int (((10 * nu) + (s_letterAt xn xc ii)) - 48)), (0, .ref h), (1, .int mk)]) hx hb dX6_readNumber_44 hl (k := 3) rfl (nI_inc _) (by decide) rfl (fun ls hl => ?_)
        refine lv_aload_n hx hb dX6_readNumber_47 rfl (lv_at hl 2 rfl) ?_
        refine lv_dup hx hb dX6_readNumber_48 rfl ?_
        refine bGet (v := .int ii) (T := TX6) (N := 3) (ci := 6) X Y i_X6_readNumber_X6 0 rfl rfl 2 (Nat.le_of_ble_eq_true rfl) f_X6_readNumber_24 rfl rfl dX6_readNumber_49 ?_
        refine lv_iconst (v := 1) hx hb dX6_readNumber_52 (by decide) ?_
        refine bAdd (v := ii + 1) X dX6_readNumber_53 rfl ?_
        refine bPut (T := TX6) (N := 3) (ci := 6) (ws' := [(h, .inr (6, [.ref ht, .int xn, .int (ii + 1)])), (ht, .inl (cyC, 200, .inl xc))]) X Y i_X6_readNumber_X6 tyX6 tyX6_ok nmX6 0 rfl rfl 2 (Nat.le_of_ble_eq_true rfl) f_X6_readNumber_24 rfl rfl rfl rfl (Nat.le_of_ble_eq_true rfl) rfl dX6_readNumber_54 (fun H locs Y => ?_)
        refine lv_goto (tgt := 4) hx hb dX6_readNumber_57 (by decide) ?_
        exact ih (j + 1) (((10 * nu) + (s_letterAt xn xc ii)) - 48) (ii + 1) (by omega) (by have := bNle (k := 3) rfl (by omega) (by decide) c_1; omega) hu _ _ _ (lv_sub hl [2, 3, 1, 0] rfl) Y
set_option maxHeartbeats 4000000 in
set_option maxRecDepth 100000 in
theorem c_readNumber (l : Launch) (D : va_G) (cyC cyI : ClassId) (h : Nat) (ht : Nat) (xn : Int32) (xi : Int32) (xc : Nat → Int32) (mk : Int32) (o0 : Int32) (o1 : Int32) (hu : s_readNumber xn xi xc mk = (o0, o1)) : CI l yX6_readNumber wsX6_readNumber { frames := 1, cells := 0, slots := 0, locals := 22 } D cyC cyI [.ref h, .int mk] [(h, .inr (6, [.ref ht, .int xn, .int xi])), (ht, .inl (cyC, 200, .inl xc))] o0 [(h, .inr (6, [.ref ht, .int xn, .int o1])), (ht, .inl (cyC, 200, .inl xc))] := by
  refine CI.of (cc := cX6_readNumber) (n := 5) (ret := (some .int)) (by decide +kernel) rfl (Nat.le_of_ble_eq_true rfl) ?_
  intro p_ e_ s_ m_ bl_ me_ cd_ A_ ls X Y hr hlk hl
  have hx := X.1.1
  have hb := X.1.2.1
  have hl : lv_has ls 5 [(0, .ref h), (1, .int mk)] := hl
  unfold s_readNumber at hu
  refine lv_iconst (v := 0) hx hb dX6_readNumber_0 (by decide) ?_
  refine lv_istore_n (lv' := [(2, .int 0), (0, .ref h), (1, .int mk)]) hx hb dX6_readNumber_1 rfl hl (by decide) rfl (fun ls hl => ?_)
  refine lv_iconst (v := 0) hx hb dX6_readNumber_2 (by decide) ?_
  refine lv_istore_n (lv' := [(3, .int 0), (2, .int 0), (0, .ref h), (1, .int mk)]) hx hb dX6_readNumber_3 rfl hl (by decide) rfl (fun ls hl => ?_)
  exact lp_readNumber l D cyC cyI h ht xn xi xc mk o0 o1 X hr hlk (4) 0 0 xi (by omega) (by omega) hu _ _ _ (lv_sub hl [2, 3, 1, 0] rfl) Y
theorem hd_X6_readNumber : bD1 yX6_readNumber RX6 1 := by decide +kernel
theorem i_X6_readEnd_X1 : ∀ w ∈ wsX10, w ∈ wsX6_readEnd := by decide +kernel
theorem f_X6_readEnd_51 : Cond.fieldLink RX6 51 "SwingCranes$Layout" "end" "I" ∈ wsX6_readEnd := by decide +kernel
theorem ni_X6_readEnd_X7 : Cond.initialized RX7 ∈ wsX6_readEnd := by decide +kernel
theorem ns_X6_readEnd_X7_isWithin : Cond.static yX7_isWithin ∈ wsX6_readEnd := by decide +kernel
def s_readEnd (xn : Int32) (xi : Int32) (xc : Nat → Int32) : Bool × Int32 × Int32 :=
  match s_readNumber xn xi xc 59 with
  | (u_1_0, u_1_1) =>
    ((s_isWithin u_1_0 200 999), u_1_1, u_1_0)
set_option maxHeartbeats 4000000 in
set_option maxRecDepth 100000 in
theorem c_readEnd (l : Launch) (D : va_G) (cyC cyI : ClassId) (h : Nat) (ht : Nat) (xn : Int32) (xi : Int32) (xc : Nat → Int32) (g : Nat) (r0 : Int32) (r1 : Int32) (r2 : Int32) (r3 : Int32) (r4 : Int32) (gl : Nat) (rx0 : Int32) (rx1 : Int32) (rx2 : Int32) (gr : Nat) (ry0 : Int32) (ry1 : Int32) (ry2 : Int32) (o0 : Bool) (o1 : Int32) (o2 : Int32) (hu : s_readEnd xn xi xc = (o0, o1, o2)) : CI l yX6_readEnd wsX6_readEnd { frames := 2, cells := 0, slots := 0, locals := 46 } D cyC cyI [.ref h, .ref g] [(h, .inr (6, [.ref ht, .int xn, .int xi])), (ht, .inl (cyC, 200, .inl xc)), (g, .inr (1, [.int r0, .int r1, .int r2, .int r3, .int r4, .ref gl, .ref gr])), (gl, .inr (4, [.int rx0, .int rx1, .int rx2])), (gr, .inr (4, [.int ry0, .int ry1, .int ry2]))] (bB o0) [(h, .inr (6, [.ref ht, .int xn, .int o1])), (ht, .inl (cyC, 200, .inl xc)), (g, .inr (1, [.int o2, .int r1, .int r2, .int r3, .int r4, .ref gl, .ref gr])), (gl, .inr (4, [.int rx0, .int rx1, .int rx2])), (gr, .inr (4, [.int ry0, .int ry1, .int ry2]))] := by
  refine CI.of (cc := cX6_readEnd) (n := 2) (ret := (some .boolean)) (by decide +kernel) rfl (Nat.le_of_ble_eq_true rfl) ?_
  intro p_ e_ s_ m_ bl_ me_ cd_ A_ ls X Y hr hlk hl
  have hx := X.1.1
  have hb := X.1.2.1
  have hl : lv_has ls 2 [(0, .ref h), (1, .ref g)] := hl
  unfold s_readEnd at hu
  refine lv_aload_n hx hb dX6_readEnd_0 rfl (lv_at hl 1 rfl) ?_
  refine lv_aload_n hx hb dX6_readEnd_1 rfl (lv_at hl 0 rfl) ?_
  refine lv_bipush (v := 59) hx hb dX6_readEnd_2 (by decide) ?_
  obtain ⟨u_1_0, u_1_1, hr_1⟩ := bEx2 (s_readNumber xn xi xc 59)
  rw [hr_1] at hu
  dsimp only at hu
  refine bVI (As := [.int 59]) (rest := [.ref g]) (wc := [(h, .inr (6, [.ref ht, .int xn, .int xi])), (ht, .inl (cyC, 200, .inl xc))]) (w1 := [(h, .inr (6, [.ref ht, .int xn, .int u_1_1])), (ht, .inl (cyC, 200, .inl xc))]) (ws' := [(h, .inr (6, [.ref ht, .int xn, .int u_1_1])), (ht, .inl (cyC, 200, .inl xc)), (g, .inr (1, [.int r0, .int r1, .int r2, .int r3, .int r4, .ref gl, .ref gr])), (gl, .inr (4, [.int rx0, .int rx1, .int rx2])), (gr, .inr (4, [.int ry0, .int ry1, .int ry2]))]) (ad := [h, ht]) (wr := [(g, .inr (1, [.int r0, .int r1, .int r2, .int r3, .int r4, .ref gl, .ref gr])), (gl, .inr (4, [.int rx0, .int rx1, .int rx2])), (gr, .inr (4, [.int ry0, .int ry1, .int ry2]))]) (nn := 5) (ci := 6) (q0 := 0) X Y (c_readNumber l D cyC cyI h ht xn xi xc 59 u_1_0 u_1_1 hr_1) gX6_readEnd_X6_readNumber rfl ⟨rfl, rfl⟩ hd_X6_readNumber ⟨(Nat.le_of_ble_eq_true rfl), (Nat.le_of_ble_eq_true rfl)⟩ rfl rfl rfl [0, 1] [2, 3, 4] rfl rfl rfl rfl rfl rfl rfl rfl (by decide) rfl rfl hl.1 (Nat.le_of_ble_eq_true rfl) ⟨Nat.zero_le _, Nat.zero_le _⟩ dX6_readEnd_4 (fun H locs Y => ?_)
  refine bPut (T := TX1) (N := 7) (ci := 1) (ws' := [(h, .inr (6, [.ref ht, .int xn, .int u_1_1])), (ht, .inl (cyC, 200, .inl xc)), (g, .inr (1, [.int u_1_0, .int r1, .int r2, .int r3, .int r4, .ref gl, .ref gr])), (gl, .inr (4, [.int rx0, .int rx1, .int rx2])), (gr, .inr (4, [.int ry0, .int ry1, .int ry2]))]) X Y i_X6_readEnd_X1 tyX1 tyX1_ok nmX1 2 rfl rfl 0 (Nat.le_of_ble_eq_true rfl) f_X6_readEnd_51 rfl rfl rfl rfl (Nat.le_of_ble_eq_true rfl) rfl dX6_readEnd_7 (fun H locs Y => ?_)
  refine lv_aload_n hx hb dX6_readEnd_10 rfl (lv_at hl 1 rfl) ?_
  refine bGet (v := .int u_1_0) (T := TX1) (N := 7) (ci := 1) X Y i_X6_readEnd_X1 2 rfl rfl 0 (Nat.le_of_ble_eq_true rfl) f_X6_readEnd_51 rfl rfl dX6_readEnd_11 ?_
  refine lv_sipush (v := 200) hx hb dX6_readEnd_14 (by decide) ?_
  refine lv_sipush (v := 999) hx hb dX6_readEnd_17 (by decide) ?_
  refine bNI (host := RX7) (As := [.int u_1_0, .int 200, .int 999]) (rest := []) X Y (c_isWithin l D cyC cyI u_1_0 200 999 (s_isWithin u_1_0 200 999) rfl) gX6_readEnd_X7_isWithin_n54 rfl ⟨rfl, rfl⟩ hd_X7_isWithin.2 ⟨(Nat.le_of_ble_eq_true rfl), (Nat.le_of_ble_eq_true rfl)⟩ 10 rfl ni_X6_readEnd_X7 ns_X6_readEnd_X7_isWithin rfl rfl hl.1 (Nat.le_of_ble_eq_true rfl) ⟨Nat.zero_le _, Nat.zero_le _⟩ dX6_readEnd_20 (fun H locs Y => ?_)
  have h9 := (Prod.mk.inj hu).1; replace hu := (Prod.mk.inj hu).2; subst h9
  have h9 := (Prod.mk.inj hu).1; replace hu := (Prod.mk.inj hu).2; subst h9
  subst hu
  exact bEndZ X Y hr hlk dX6_readEnd_23 (bB_nar _) rfl rfl
theorem i_X6_readGap_X1 : ∀ w ∈ wsX10, w ∈ wsX6_readGap := by decide +kernel
theorem f_X6_readGap_58 : Cond.fieldLink RX6 58 "SwingCranes$Layout" "gap" "I" ∈ wsX6_readGap := by decide +kernel
theorem ni_X6_readGap_X7 : Cond.initialized RX7 ∈ wsX6_readGap := by decide +kernel
theorem ns_X6_readGap_X7_isWithin : Cond.static yX7_isWithin ∈ wsX6_readGap := by decide +kernel
def s_readGap (xn : Int32) (xi : Int32) (xc : Nat → Int32) : Bool × Int32 × Int32 :=
  match s_readNumber xn xi xc 59 with
  | (u_1_0, u_1_1) =>
    ((s_isWithin u_1_0 10 99), u_1_1, u_1_0)
set_option maxHeartbeats 4000000 in
set_option maxRecDepth 100000 in
theorem c_readGap (l : Launch) (D : va_G) (cyC cyI : ClassId) (h : Nat) (ht : Nat) (xn : Int32) (xi : Int32) (xc : Nat → Int32) (g : Nat) (r0 : Int32) (r1 : Int32) (r2 : Int32) (r3 : Int32) (r4 : Int32) (gl : Nat) (rx0 : Int32) (rx1 : Int32) (rx2 : Int32) (gr : Nat) (ry0 : Int32) (ry1 : Int32) (ry2 : Int32) (o0 : Bool) (o1 : Int32) (o2 : Int32) (hu : s_readGap xn xi xc = (o0, o1, o2)) : CI l yX6_readGap wsX6_readGap { frames := 2, cells := 0, slots := 0, locals := 46 } D cyC cyI [.ref h, .ref g] [(h, .inr (6, [.ref ht, .int xn, .int xi])), (ht, .inl (cyC, 200, .inl xc)), (g, .inr (1, [.int r0, .int r1, .int r2, .int r3, .int r4, .ref gl, .ref gr])), (gl, .inr (4, [.int rx0, .int rx1, .int rx2])), (gr, .inr (4, [.int ry0, .int ry1, .int ry2]))] (bB o0) [(h, .inr (6, [.ref ht, .int xn, .int o1])), (ht, .inl (cyC, 200, .inl xc)), (g, .inr (1, [.int r0, .int o2, .int r2, .int r3, .int r4, .ref gl, .ref gr])), (gl, .inr (4, [.int rx0, .int rx1, .int rx2])), (gr, .inr (4, [.int ry0, .int ry1, .int ry2]))] := by
  refine CI.of (cc := cX6_readGap) (n := 2) (ret := (some .boolean)) (by decide +kernel) rfl (Nat.le_of_ble_eq_true rfl) ?_
  intro p_ e_ s_ m_ bl_ me_ cd_ A_ ls X Y hr hlk hl
  have hx := X.1.1
  have hb := X.1.2.1
  have hl : lv_has ls 2 [(0, .ref h), (1, .ref g)] := hl
  unfold s_readGap at hu
  refine lv_aload_n hx hb dX6_readGap_0 rfl (lv_at hl 1 rfl) ?_
  refine lv_aload_n hx hb dX6_readGap_1 rfl (lv_at hl 0 rfl) ?_
  refine lv_bipush (v := 59) hx hb dX6_readGap_2 (by decide) ?_
  obtain ⟨u_1_0, u_1_1, hr_1⟩ := bEx2 (s_readNumber xn xi xc 59)
  rw [hr_1] at hu
  dsimp only at hu
  refine bVI (As := [.int 59]) (rest := [.ref g]) (wc := [(h, .inr (6, [.ref ht, .int xn, .int xi])), (ht, .inl (cyC, 200, .inl xc))]) (w1 := [(h, .inr (6, [.ref ht, .int xn, .int u_1_1])), (ht, .inl (cyC, 200, .inl xc))]) (ws' := [(h, .inr (6, [.ref ht, .int xn, .int u_1_1])), (ht, .inl (cyC, 200, .inl xc)), (g, .inr (1, [.int r0, .int r1, .int r2, .int r3, .int r4, .ref gl, .ref gr])), (gl, .inr (4, [.int rx0, .int rx1, .int rx2])), (gr, .inr (4, [.int ry0, .int ry1, .int ry2]))]) (ad := [h, ht]) (wr := [(g, .inr (1, [.int r0, .int r1, .int r2, .int r3, .int r4, .ref gl, .ref gr])), (gl, .inr (4, [.int rx0, .int rx1, .int rx2])), (gr, .inr (4, [.int ry0, .int ry1, .int ry2]))]) (nn := 5) (ci := 6) (q0 := 0) X Y (c_readNumber l D cyC cyI h ht xn xi xc 59 u_1_0 u_1_1 hr_1) gX6_readGap_X6_readNumber rfl ⟨rfl, rfl⟩ hd_X6_readNumber ⟨(Nat.le_of_ble_eq_true rfl), (Nat.le_of_ble_eq_true rfl)⟩ rfl rfl rfl [0, 1] [2, 3, 4] rfl rfl rfl rfl rfl rfl rfl rfl (by decide) rfl rfl hl.1 (Nat.le_of_ble_eq_true rfl) ⟨Nat.zero_le _, Nat.zero_le _⟩ dX6_readGap_4 (fun H locs Y => ?_)
  refine bPut (T := TX1) (N := 7) (ci := 1) (ws' := [(h, .inr (6, [.ref ht, .int xn, .int u_1_1])), (ht, .inl (cyC, 200, .inl xc)), (g, .inr (1, [.int r0, .int u_1_0, .int r2, .int r3, .int r4, .ref gl, .ref gr])), (gl, .inr (4, [.int rx0, .int rx1, .int rx2])), (gr, .inr (4, [.int ry0, .int ry1, .int ry2]))]) X Y i_X6_readGap_X1 tyX1 tyX1_ok nmX1 2 rfl rfl 1 (Nat.le_of_ble_eq_true rfl) f_X6_readGap_58 rfl rfl rfl rfl (Nat.le_of_ble_eq_true rfl) rfl dX6_readGap_7 (fun H locs Y => ?_)
  refine lv_aload_n hx hb dX6_readGap_10 rfl (lv_at hl 1 rfl) ?_
  refine bGet (v := .int u_1_0) (T := TX1) (N := 7) (ci := 1) X Y i_X6_readGap_X1 2 rfl rfl 1 (Nat.le_of_ble_eq_true rfl) f_X6_readGap_58 rfl rfl dX6_readGap_11 ?_
  refine lv_bipush (v := 10) hx hb dX6_readGap_14 (by decide) ?_
  refine lv_bipush (v := 99) hx hb dX6_readGap_16 (by decide) ?_
  refine bNI (host := RX7) (As := [.int u_1_0, .int 10, .int 99]) (rest := []) X Y (c_isWithin l D cyC cyI u_1_0 10 99 (s_isWithin u_1_0 10 99) rfl) gX6_readGap_X7_isWithin_n54 rfl ⟨rfl, rfl⟩ hd_X7_isWithin.2 ⟨(Nat.le_of_ble_eq_true rfl), (Nat.le_of_ble_eq_true rfl)⟩ 10 rfl ni_X6_readGap_X7 ns_X6_readGap_X7_isWithin rfl rfl hl.1 (Nat.le_of_ble_eq_true rfl) ⟨Nat.zero_le _, Nat.zero_le _⟩ dX6_readGap_18 (fun H locs Y => ?_)
  have h9 := (Prod.mk.inj hu).1; replace hu := (Prod.mk.inj hu).2; subst h9
  have h9 := (Prod.mk.inj hu).1; replace hu := (Prod.mk.inj hu).2; subst h9
  subst hu
  exact bEndZ X Y hr hlk dX6_readGap_21 (bB_nar _) rfl rfl
theorem hd_X7_isCrane : bD1 yX7_isCrane RX7 1 := by decide +kernel
theorem ni_X6_readStart_X7 : Cond.initialized RX7 ∈ wsX6_readStart := by decide +kernel
theorem ns_X6_readStart_X7_isCrane : Cond.static yX7_isCrane ∈ wsX6_readStart := by decide +kernel
theorem i_X6_readStart_X1 : ∀ w ∈ wsX10, w ∈ wsX6_readStart := by decide +kernel
theorem f_X6_readStart_69 : Cond.fieldLink RX6 69 "SwingCranes$Layout" "right" "LSwingCranes$Start;" ∈ wsX6_readStart := by decide +kernel
theorem i_X6_readStart_X4 : ∀ w ∈ wsX40, w ∈ wsX6_readStart := by decide +kernel
theorem f_X6_readStart_72 : Cond.fieldLink RX6 72 "SwingCranes$Start" "place" "I" ∈ wsX6_readStart := by decide +kernel
theorem f_X6_readStart_77 : Cond.fieldLink RX6 77 "SwingCranes$Start" "rope" "I" ∈ wsX6_readStart := by decide +kernel
theorem f_X6_readStart_80 : Cond.fieldLink RX6 80 "SwingCranes$Start" "load" "I" ∈ wsX6_readStart := by decide +kernel
theorem ns_X6_readStart_X7_isWithin : Cond.static yX7_isWithin ∈ wsX6_readStart := by decide +kernel
theorem hd_X7_isRope : bD1 yX7_isRope RX7 1 := by decide +kernel
theorem ns_X6_readStart_X7_isRope : Cond.static yX7_isRope ∈ wsX6_readStart := by decide +kernel
theorem f_X6_readStart_65 : Cond.fieldLink RX6 65 "SwingCranes$Layout" "left" "LSwingCranes$Start;" ∈ wsX6_readStart := by decide +kernel
def s_readStart (xn : Int32) (xi : Int32) (xc : Nat → Int32) (rx0 : Int32) (rx1 : Int32) (rx2 : Int32) (ry0 : Int32) (ry1 : Int32) (ry2 : Int32) : Bool × Int32 × Int32 × Int32 × Int32 × Int32 × Int32 × Int32 :=
  match s_readNumber xn xi xc 44 with
  | (u_1_0, u_1_1) =>
    if (s_isCrane u_1_0) = true then
      if u_1_0 = 0 then
        match s_readNumber xn u_1_1 xc 44 with
        | (u_10_0, u_10_1) =>
          match s_readNumber xn u_10_1 xc 44 with
          | (u_11_0, u_11_1) =>
            match s_readNumber xn u_11_1 xc 59 with
            | (u_12_0, u_12_1) =>
              if (s_isWithin u_10_0 0 999) = true then
                if (s_isRope u_11_0) = true then
                  if (s_isWithin u_12_0 0 99) = true then
                    (true, u_12_1, u_10_0, u_11_0, u_12_0, ry0, ry1, ry2)
                  else
                    (false, u_12_1, u_10_0, u_11_0, u_12_0, ry0, ry1, ry2)
                else
                  (false, u_12_1, u_10_0, u_11_0, u_12_0, ry0, ry1, ry2)
              else
                (false, u_12_1, u_10_0, u_11_0, u_12_0, ry0, ry1, ry2)
      else
        match s_readNumber xn u_1_1 xc 44 with
        | (u_4_0, u_4_1) =>
          match s_readNumber xn u_4_1 xc 44 with
          | (u_5_0, u_5_1) =>
            match s_readNumber xn u_5_1 xc 59 with
            | (u_6_0, u_6_1) =>
              if (s_isWithin u_4_0 0 999) = true then
                if (s_isRope u_5_0) = true then
                  if (s_isWithin u_6_0 0 99) = true then
                    (true, u_6_1, rx0, rx1, rx2, u_4_0, u_5_0, u_6_0)
                  else
                    (false, u_6_1, rx0, rx1, rx2, u_4_0, u_5_0, u_6_0)
                else
                  (false, u_6_1, rx0, rx1, rx2, u_4_0, u_5_0, u_6_0)
              else
                (false, u_6_1, rx0, rx1, rx2, u_4_0, u_5_0, u_6_0)
    else
      (false, u_1_1, rx0, rx1, rx2, ry0, ry1, ry2)
set_option maxHeartbeats 4000000 in
set_option maxRecDepth 100000 in
theorem c_readStart (l : Launch) (D : va_G) (cyC cyI : ClassId) (h : Nat) (ht : Nat) (xn : Int32) (xi : Int32) (xc : Nat → Int32) (g : Nat) (r0 : Int32) (r1 : Int32) (r2 : Int32) (r3 : Int32) (r4 : Int32) (gl : Nat) (rx0 : Int32) (rx1 : Int32) (rx2 : Int32) (gr : Nat) (ry0 : Int32) (ry1 : Int32) (ry2 : Int32) (o0 : Bool) (o1 : Int32) (o2 : Int32) (o3 : Int32) (o4 : Int32) (o5 : Int32) (o6 : Int32) (o7 : Int32) (hu : s_readStart xn xi xc rx0 rx1 rx2 ry0 ry1 ry2 = (o0, o1, o2, o3, o4, o5, o6, o7)) : CI l yX6_readStart wsX6_readStart { frames := 2, cells := 0, slots := 0, locals := 46 } D cyC cyI [.ref h, .ref g] [(h, .inr (6, [.ref ht, .int xn, .int xi])), (ht, .inl (cyC, 200, .inl xc)), (g, .inr (1, [.int r0, .int r1, .int r2, .int r3, .int r4, .ref gl, .ref gr])), (gl, .inr (4, [.int rx0, .int rx1, .int rx2])), (gr, .inr (4, [.int ry0, .int ry1, .int ry2]))] (bB o0) [(h, .inr (6, [.ref ht, .int xn, .int o1])), (ht, .inl (cyC, 200, .inl xc)), (g, .inr (1, [.int r0, .int r1, .int r2, .int r3, .int r4, .ref gl, .ref gr])), (gl, .inr (4, [.int o2, .int o3, .int o4])), (gr, .inr (4, [.int o5, .int o6, .int o7]))] := by
  refine CI.of (cc := cX6_readStart) (n := 4) (ret := (some .boolean)) (by decide +kernel) rfl (Nat.le_of_ble_eq_true rfl) ?_
  intro p_ e_ s_ m_ bl_ me_ cd_ A_ ls X Y hr hlk hl
  have hx := X.1.1
  have hb := X.1.2.1
  have hl : lv_has ls 4 [(0, .ref h), (1, .ref g)] := hl
  unfold s_readStart at hu
  refine lv_aload_n hx hb dX6_readStart_0 rfl (lv_at hl 0 rfl) ?_
  refine lv_bipush (v := 44) hx hb dX6_readStart_1 (by decide) ?_
  obtain ⟨u_1_0, u_1_1, hr_1⟩ := bEx2 (s_readNumber xn xi xc 44)
  rw [hr_1] at hu
  dsimp only at hu
  refine bVI (As := [.int 44]) (rest := []) (wc := [(h, .inr (6, [.ref ht, .int xn, .int xi])), (ht, .inl (cyC, 200, .inl xc))]) (w1 := [(h, .inr (6, [.ref ht, .int xn, .int u_1_1])), (ht, .inl (cyC, 200, .inl xc))]) (ws' := [(h, .inr (6, [.ref ht, .int xn, .int u_1_1])), (ht, .inl (cyC, 200, .inl xc)), (g, .inr (1, [.int r0, .int r1, .int r2, .int r3, .int r4, .ref gl, .ref gr])), (gl, .inr (4, [.int rx0, .int rx1, .int rx2])), (gr, .inr (4, [.int ry0, .int ry1, .int ry2]))]) (ad := [h, ht]) (wr := [(g, .inr (1, [.int r0, .int r1, .int r2, .int r3, .int r4, .ref gl, .ref gr])), (gl, .inr (4, [.int rx0, .int rx1, .int rx2])), (gr, .inr (4, [.int ry0, .int ry1, .int ry2]))]) (nn := 5) (ci := 6) (q0 := 0) X Y (c_readNumber l D cyC cyI h ht xn xi xc 44 u_1_0 u_1_1 hr_1) gX6_readStart_X6_readNumber rfl ⟨rfl, rfl⟩ hd_X6_readNumber ⟨(Nat.le_of_ble_eq_true rfl), (Nat.le_of_ble_eq_true rfl)⟩ rfl rfl rfl [0, 1] [2, 3, 4] rfl rfl rfl rfl rfl rfl rfl rfl (by decide) rfl rfl hl.1 (Nat.le_of_ble_eq_true rfl) ⟨Nat.zero_le _, Nat.zero_le _⟩ dX6_readStart_3 (fun H locs Y => ?_)
  refine lv_istore_n (lv' := [(2, .int u_1_0), (0, .ref h), (1, .ref g)]) hx hb dX6_readStart_6 rfl hl (by decide) rfl (fun ls hl => ?_)
  refine lv_iload_n hx hb dX6_readStart_7 rfl (lv_at hl 0 rfl) ?_
  refine bNI (host := RX7) (As := [.int u_1_0]) (rest := []) X Y (c_isCrane l D cyC cyI u_1_0 (s_isCrane u_1_0) rfl) gX6_readStart_X7_isCrane_n61 rfl ⟨rfl, rfl⟩ hd_X7_isCrane.2 ⟨(Nat.le_of_ble_eq_true rfl), (Nat.le_of_ble_eq_true rfl)⟩ 11 rfl ni_X6_readStart_X7 ns_X6_readStart_X7_isCrane rfl rfl hl.1 (Nat.le_of_ble_eq_true rfl) ⟨Nat.zero_le _, Nat.zero_le _⟩ dX6_readStart_8 (fun H locs Y => ?_)
  refine lv_if_ne (tgt := 16) hx hb dX6_readStart_11 (by decide) (fun c_2 => ?_) (fun c_2 => ?_)
  · have c_2 := bB_t c_2
    rw [if_pos c_2] at hu
    refine lv_iload_n hx hb dX6_readStart_16 rfl (lv_at hl 0 rfl) ?_
    refine lv_if_ne (tgt := 27) hx hb dX6_readStart_17 (by decide) (fun c_3 => ?_) (fun c_3 => ?_)
    · have c_3 : ¬ (u_1_0 = 0) := c_3
      rw [if_neg c_3] at hu
      refine lv_aload_n hx hb dX6_readStart_27 rfl (lv_at hl 2 rfl) ?_
      refine bGet (v := .ref gr) (T := TX1) (N := 7) (ci := 1) X Y i_X6_readStart_X1 2 rfl rfl 6 (Nat.le_of_ble_eq_true rfl) f_X6_readStart_69 rfl rfl dX6_readStart_28 ?_
      refine lv_astore_n (lv' := [(3, .ref gr), (2, .int u_1_0), (0, .ref h), (1, .ref g)]) hx hb dX6_readStart_31 rfl hl (by decide) rfl (fun ls hl => ?_)
      refine lv_aload_n hx hb dX6_readStart_32 rfl (lv_at hl 0 rfl) ?_
      refine lv_aload_n hx hb dX6_readStart_33 rfl (lv_at hl 2 rfl) ?_
      refine lv_bipush (v := 44) hx hb dX6_readStart_34 (by decide) ?_
      obtain ⟨u_4_0, u_4_1, hr_4⟩ := bEx2 (s_readNumber xn u_1_1 xc 44)
      rw [hr_4] at hu
      dsimp only at hu
      refine bVI (As := [.int 44]) (rest := [.ref gr]) (wc := [(h, .inr (6, [.ref ht, .int xn, .int u_1_1])), (ht, .inl (cyC, 200, .inl xc))]) (w1 := [(h, .inr (6, [.ref ht, .int xn, .int u_4_1])), (ht, .inl (cyC, 200, .inl xc))]) (ws' := [(h, .inr (6, [.ref ht, .int xn, .int u_4_1])), (ht, .inl (cyC, 200, .inl xc)), (g, .inr (1, [.int r0, .int r1, .int r2, .int r3, .int r4, .ref gl, .ref gr])), (gl, .inr (4, [.int rx0, .int rx1, .int rx2])), (gr, .inr (4, [.int ry0, .int ry1, .int ry2]))]) (ad := [h, ht]) (wr := [(g, .inr (1, [.int r0, .int r1, .int r2, .int r3, .int r4, .ref gl, .ref gr])), (gl, .inr (4, [.int rx0, .int rx1, .int rx2])), (gr, .inr (4, [.int ry0, .int ry1, .int ry2]))]) (nn := 5) (ci := 6) (q0 := 0) X Y (c_readNumber l D cyC cyI h ht xn u_1_1 xc 44 u_4_0 u_4_1 hr_4) gX6_readStart_X6_readNumber rfl ⟨rfl, rfl⟩ hd_X6_readNumber ⟨(Nat.le_of_ble_eq_true rfl), (Nat.le_of_ble_eq_true rfl)⟩ rfl rfl rfl [0, 1] [2, 3, 4] rfl rfl rfl rfl rfl rfl rfl rfl (by decide) rfl rfl hl.1 (Nat.le_of_ble_eq_true rfl) ⟨Nat.zero_le _, Nat.zero_le _⟩ dX6_readStart_36 (fun H locs Y => ?_)
      refine bPut (T := TX4) (N := 3) (ci := 4) (ws' := [(h, .inr (6, [.ref ht, .int xn, .int u_4_1])), (ht, .inl (cyC, 200, .inl xc)), (g, .inr (1, [.int r0, .int r1, .int r2, .int r3, .int r4, .ref gl, .ref gr])), (gl, .inr (4, [.int rx0, .int rx1, .int rx2])), (gr, .inr (4, [.int u_4_0, .int ry1, .int ry2]))]) X Y i_X6_readStart_X4 tyX4 tyX4_ok nmX4 4 rfl rfl 0 (Nat.le_of_ble_eq_true rfl) f_X6_readStart_72 rfl rfl rfl rfl (Nat.le_of_ble_eq_true rfl) rfl dX6_readStart_39 (fun H locs Y => ?_)
      refine lv_aload_n hx hb dX6_readStart_42 rfl (lv_at hl 0 rfl) ?_
      refine lv_aload_n hx hb dX6_readStart_43 rfl (lv_at hl 2 rfl) ?_
      refine lv_bipush (v := 44) hx hb dX6_readStart_44 (by decide) ?_
      obtain ⟨u_5_0, u_5_1, hr_5⟩ := bEx2 (s_readNumber xn u_4_1 xc 44)
      rw [hr_5] at hu
      dsimp only at hu
      refine bVI (As := [.int 44]) (rest := [.ref gr]) (wc := [(h, .inr (6, [.ref ht, .int xn, .int u_4_1])), (ht, .inl (cyC, 200, .inl xc))]) (w1 := [(h, .inr (6, [.ref ht, .int xn, .int u_5_1])), (ht, .inl (cyC, 200, .inl xc))]) (ws' := [(h, .inr (6, [.ref ht, .int xn, .int u_5_1])), (ht, .inl (cyC, 200, .inl xc)), (g, .inr (1, [.int r0, .int r1, .int r2, .int r3, .int r4, .ref gl, .ref gr])), (gl, .inr (4, [.int rx0, .int rx1, .int rx2])), (gr, .inr (4, [.int u_4_0, .int ry1, .int ry2]))]) (ad := [h, ht]) (wr := [(g, .inr (1, [.int r0, .int r1, .int r2, .int r3, .int r4, .ref gl, .ref gr])), (gl, .inr (4, [.int rx0, .int rx1, .int rx2])), (gr, .inr (4, [.int u_4_0, .int ry1, .int ry2]))]) (nn := 5) (ci := 6) (q0 := 0) X Y (c_readNumber l D cyC cyI h ht xn u_4_1 xc 44 u_5_0 u_5_1 hr_5) gX6_readStart_X6_readNumber rfl ⟨rfl, rfl⟩ hd_X6_readNumber ⟨(Nat.le_of_ble_eq_true rfl), (Nat.le_of_ble_eq_true rfl)⟩ rfl rfl rfl [0, 1] [2, 3, 4] rfl rfl rfl rfl rfl rfl rfl rfl (by decide) rfl rfl hl.1 (Nat.le_of_ble_eq_true rfl) ⟨Nat.zero_le _, Nat.zero_le _⟩ dX6_readStart_46 (fun H locs Y => ?_)
      refine bPut (T := TX4) (N := 3) (ci := 4) (ws' := [(h, .inr (6, [.ref ht, .int xn, .int u_5_1])), (ht, .inl (cyC, 200, .inl xc)), (g, .inr (1, [.int r0, .int r1, .int r2, .int r3, .int r4, .ref gl, .ref gr])), (gl, .inr (4, [.int rx0, .int rx1, .int rx2])), (gr, .inr (4, [.int u_4_0, .int u_5_0, .int ry2]))]) X Y i_X6_readStart_X4 tyX4 tyX4_ok nmX4 4 rfl rfl 1 (Nat.le_of_ble_eq_true rfl) f_X6_readStart_77 rfl rfl rfl rfl (Nat.le_of_ble_eq_true rfl) rfl dX6_readStart_49 (fun H locs Y => ?_)
      refine lv_aload_n hx hb dX6_readStart_52 rfl (lv_at hl 0 rfl) ?_
      refine lv_aload_n hx hb dX6_readStart_53 rfl (lv_at hl 2 rfl) ?_
      refine lv_bipush (v := 59) hx hb dX6_readStart_54 (by decide) ?_
      obtain ⟨u_6_0, u_6_1, hr_6⟩ := bEx2 (s_readNumber xn u_5_1 xc 59)
      rw [hr_6] at hu
      dsimp only at hu
      refine bVI (As := [.int 59]) (rest := [.ref gr]) (wc := [(h, .inr (6, [.ref ht, .int xn, .int u_5_1])), (ht, .inl (cyC, 200, .inl xc))]) (w1 := [(h, .inr (6, [.ref ht, .int xn, .int u_6_1])), (ht, .inl (cyC, 200, .inl xc))]) (ws' := [(h, .inr (6, [.ref ht, .int xn, .int u_6_1])), (ht, .inl (cyC, 200, .inl xc)), (g, .inr (1, [.int r0, .int r1, .int r2, .int r3, .int r4, .ref gl, .ref gr])), (gl, .inr (4, [.int rx0, .int rx1, .int rx2])), (gr, .inr (4, [.int u_4_0, .int u_5_0, .int ry2]))]) (ad := [h, ht]) (wr := [(g, .inr (1, [.int r0, .int r1, .int r2, .int r3, .int r4, .ref gl, .ref gr])), (gl, .inr (4, [.int rx0, .int rx1, .int rx2])), (gr, .inr (4, [.int u_4_0, .int u_5_0, .int ry2]))]) (nn := 5) (ci := 6) (q0 := 0) X Y (c_readNumber l D cyC cyI h ht xn u_5_1 xc 59 u_6_0 u_6_1 hr_6) gX6_readStart_X6_readNumber rfl ⟨rfl, rfl⟩ hd_X6_readNumber ⟨(Nat.le_of_ble_eq_true rfl), (Nat.le_of_ble_eq_true rfl)⟩ rfl rfl rfl [0, 1] [2, 3, 4] rfl rfl rfl rfl rfl rfl rfl rfl (by decide) rfl rfl hl.1 (Nat.le_of_ble_eq_true rfl) ⟨Nat.zero_le _, Nat.zero_le _⟩ dX6_readStart_56 (fun H locs Y => ?_)
      refine bPut (T := TX4) (N := 3) (ci := 4) (ws' := [(h, .inr (6, [.ref ht, .int xn, .int u_6_1])), (ht, .inl (cyC, 200, .inl xc)), (g, .inr (1, [.int r0, .int r1, .int r2, .int r3, .int r4, .ref gl, .ref gr])), (gl, .inr (4, [.int rx0, .int rx1, .int rx2])), (gr, .inr (4, [.int u_4_0, .int u_5_0, .int u_6_0]))]) X Y i_X6_readStart_X4 tyX4 tyX4_ok nmX4 4 rfl rfl 2 (Nat.le_of_ble_eq_true rfl) f_X6_readStart_80 rfl rfl rfl rfl (Nat.le_of_ble_eq_true rfl) rfl dX6_readStart_59 (fun H locs Y => ?_)
      refine lv_aload_n hx hb dX6_readStart_62 rfl (lv_at hl 0 rfl) ?_
      refine bGet (v := .int u_4_0) (T := TX4) (N := 3) (ci := 4) X Y i_X6_readStart_X4 4 rfl rfl 0 (Nat.le_of_ble_eq_true rfl) f_X6_readStart_72 rfl rfl dX6_readStart_63 ?_
      refine lv_iconst (v := 0) hx hb dX6_readStart_66 (by decide) ?_
      refine lv_sipush (v := 999) hx hb dX6_readStart_67 (by decide) ?_
      refine bNI (host := RX7) (As := [.int u_4_0, .int 0, .int 999]) (rest := []) X Y (c_isWithin l D cyC cyI u_4_0 0 999 (s_isWithin u_4_0 0 999) rfl) gX6_readStart_X7_isWithin_n54 rfl ⟨rfl, rfl⟩ hd_X7_isWithin.2 ⟨(Nat.le_of_ble_eq_true rfl), (Nat.le_of_ble_eq_true rfl)⟩ 10 rfl ni_X6_readStart_X7 ns_X6_readStart_X7_isWithin rfl rfl hl.1 (Nat.le_of_ble_eq_true rfl) ⟨Nat.zero_le _, Nat.zero_le _⟩ dX6_readStart_70 (fun H locs Y => ?_)
      refine lv_if_eq (tgt := 103) hx hb dX6_readStart_73 (by decide) (fun c_7 => ?_) (fun c_7 => ?_)
      · have c_7 := bB_f c_7
        rw [if_neg c_7] at hu
        refine lv_iconst (v := 0) hx hb dX6_readStart_103 (by decide) ?_
        have h9 := (Prod.mk.inj hu).1; replace hu := (Prod.mk.inj hu).2; subst h9
        have h9 := (Prod.mk.inj hu).1; replace hu := (Prod.mk.inj hu).2; subst h9
        have h9 := (Prod.mk.inj hu).1; replace hu := (Prod.mk.inj hu).2; subst h9
        have h9 := (Prod.mk.inj hu).1; replace hu := (Prod.mk.inj hu).2; subst h9
        have h9 := (Prod.mk.inj hu).1; replace hu := (Prod.mk.inj hu).2; subst h9
        have h9 := (Prod.mk.inj hu).1; replace hu := (Prod.mk.inj hu).2; subst h9
        have h9 := (Prod.mk.inj hu).1; replace hu := (Prod.mk.inj hu).2; subst h9
        subst hu
        exact bEndZ X Y hr hlk dX6_readStart_104 rfl rfl rfl
      · have c_7 := bB_t c_7
        rw [if_pos c_7] at hu
        refine lv_aload_n hx hb dX6_readStart_76 rfl (lv_at hl 0 rfl) ?_
        refine bGet (v := .int u_5_0) (T := TX4) (N := 3) (ci := 4) X Y i_X6_readStart_X4 4 rfl rfl 1 (Nat.le_of_ble_eq_true rfl) f_X6_readStart_77 rfl rfl dX6_readStart_77 ?_
        refine bNI (host := RX7) (As := [.int u_5_0]) (rest := []) X Y (c_isRope l D cyC cyI u_5_0 (s_isRope u_5_0) rfl) gX6_readStart_X7_isRope_n83 rfl ⟨rfl, rfl⟩ hd_X7_isRope.2 ⟨(Nat.le_of_ble_eq_true rfl), (Nat.le_of_ble_eq_true rfl)⟩ 12 rfl ni_X6_readStart_X7 ns_X6_readStart_X7_isRope rfl rfl hl.1 (Nat.le_of_ble_eq_true rfl) ⟨Nat.zero_le _, Nat.zero_le _⟩ dX6_readStart_80 (fun H locs Y => ?_)
        refine lv_if_eq (tgt := 103) hx hb dX6_readStart_83 (by decide) (fun c_8 => ?_) (fun c_8 => ?_)
        · have c_8 := bB_f c_8
          rw [if_neg c_8] at hu
          refine lv_iconst (v := 0) hx hb dX6_readStart_103 (by decide) ?_
          have h9 := (Prod.mk.inj hu).1; replace hu := (Prod.mk.inj hu).2; subst h9
          have h9 := (Prod.mk.inj hu).1; replace hu := (Prod.mk.inj hu).2; subst h9
          have h9 := (Prod.mk.inj hu).1; replace hu := (Prod.mk.inj hu).2; subst h9
          have h9 := (Prod.mk.inj hu).1; replace hu := (Prod.mk.inj hu).2; subst h9
          have h9 := (Prod.mk.inj hu).1; replace hu := (Prod.mk.inj hu).2; subst h9
          have h9 := (Prod.mk.inj hu).1; replace hu := (Prod.mk.inj hu).2; subst h9
          have h9 := (Prod.mk.inj hu).1; replace hu := (Prod.mk.inj hu).2; subst h9
          subst hu
          exact bEndZ X Y hr hlk dX6_readStart_104 rfl rfl rfl
        · have c_8 := bB_t c_8
          rw [if_pos c_8] at hu
          refine lv_aload_n hx hb dX6_readStart_86 rfl (lv_at hl 0 rfl) ?_
          refine bGet (v := .int u_6_0) (T := TX4) (N := 3) (ci := 4) X Y i_X6_readStart_X4 4 rfl rfl 2 (Nat.le_of_ble_eq_true rfl) f_X6_readStart_80 rfl rfl dX6_readStart_87 ?_
          refine lv_iconst (v := 0) hx hb dX6_readStart_90 (by decide) ?_
          refine lv_bipush (v := 99) hx hb dX6_readStart_91 (by decide) ?_
          refine bNI (host := RX7) (As := [.int u_6_0, .int 0, .int 99]) (rest := []) X Y (c_isWithin l D cyC cyI u_6_0 0 99 (s_isWithin u_6_0 0 99) rfl) gX6_readStart_X7_isWithin_n54 rfl ⟨rfl, rfl⟩ hd_X7_isWithin.2 ⟨(Nat.le_of_ble_eq_true rfl), (Nat.le_of_ble_eq_true rfl)⟩ 10 rfl ni_X6_readStart_X7 ns_X6_readStart_X7_isWithin rfl rfl hl.1 (Nat.le_of_ble_eq_true rfl) ⟨Nat.zero_le _, Nat.zero_le _⟩ dX6_readStart_93 (fun H locs Y => ?_)
          refine lv_if_eq (tgt := 103) hx hb dX6_readStart_96 (by decide) (fun c_9 => ?_) (fun c_9 => ?_)
          · have c_9 := bB_f c_9
            rw [if_neg c_9] at hu
            refine lv_iconst (v := 0) hx hb dX6_readStart_103 (by decide) ?_
            have h9 := (Prod.mk.inj hu).1; replace hu := (Prod.mk.inj hu).2; subst h9
            have h9 := (Prod.mk.inj hu).1; replace hu := (Prod.mk.inj hu).2; subst h9
            have h9 := (Prod.mk.inj hu).1; replace hu := (Prod.mk.inj hu).2; subst h9
            have h9 := (Prod.mk.inj hu).1; replace hu := (Prod.mk.inj hu).2; subst h9
            have h9 := (Prod.mk.inj hu).1; replace hu := (Prod.mk.inj hu).2; subst h9
            have h9 := (Prod.mk.inj hu).1; replace hu := (Prod.mk.inj hu).2; subst h9
            have h9 := (Prod.mk.inj hu).1; replace hu := (Prod.mk.inj hu).2; subst h9
            subst hu
            exact bEndZ X Y hr hlk dX6_readStart_104 rfl rfl rfl
          · have c_9 := bB_t c_9
            rw [if_pos c_9] at hu
            refine lv_iconst (v := 1) hx hb dX6_readStart_99 (by decide) ?_
            refine lv_goto (tgt := 104) hx hb dX6_readStart_100 (by decide) ?_
            have h9 := (Prod.mk.inj hu).1; replace hu := (Prod.mk.inj hu).2; subst h9
            have h9 := (Prod.mk.inj hu).1; replace hu := (Prod.mk.inj hu).2; subst h9
            have h9 := (Prod.mk.inj hu).1; replace hu := (Prod.mk.inj hu).2; subst h9
            have h9 := (Prod.mk.inj hu).1; replace hu := (Prod.mk.inj hu).2; subst h9
            have h9 := (Prod.mk.inj hu).1; replace hu := (Prod.mk.inj hu).2; subst h9
            have h9 := (Prod.mk.inj hu).1; replace hu := (Prod.mk.inj hu).2; subst h9
            have h9 := (Prod.mk.inj hu).1; replace hu := (Prod.mk.inj hu).2; subst h9
            subst hu
            exact bEndZ X Y hr hlk dX6_readStart_104 rfl rfl rfl
    · have c_3 : u_1_0 = 0 := c_3
      rw [if_pos c_3] at hu
      refine lv_aload_n hx hb dX6_readStart_20 rfl (lv_at hl 2 rfl) ?_
      refine bGet (v := .ref gl) (T := TX1) (N := 7) (ci := 1) X Y i_X6_readStart_X1 2 rfl rfl 5 (Nat.le_of_ble_eq_true rfl) f_X6_readStart_65 rfl rfl dX6_readStart_21 ?_
      refine lv_goto (tgt := 31) hx hb dX6_readStart_24 (by decide) ?_
      refine lv_astore_n (lv' := [(3, .ref gl), (2, .int u_1_0), (0, .ref h), (1, .ref g)]) hx hb dX6_readStart_31 rfl hl (by decide) rfl (fun ls hl => ?_)
      refine lv_aload_n hx hb dX6_readStart_32 rfl (lv_at hl 0 rfl) ?_
      refine lv_aload_n hx hb dX6_readStart_33 rfl (lv_at hl 2 rfl) ?_
      refine lv_bipush (v := 44) hx hb dX6_readStart_34 (by decide) ?_
      obtain ⟨u_10_0, u_10_1, hr_10⟩ := bEx2 (s_readNumber xn u_1_1 xc 44)
      rw [hr_10] at hu
      dsimp only at hu
      refine bVI (As := [.int 44]) (rest := [.ref gl]) (wc := [(h, .inr (6, [.ref ht, .int xn, .int u_1_1])), (ht, .inl (cyC, 200, .inl xc))]) (w1 := [(h, .inr (6, [.ref ht, .int xn, .int u_10_1])), (ht, .inl (cyC, 200, .inl xc))]) (ws' := [(h, .inr (6, [.ref ht, .int xn, .int u_10_1])), (ht, .inl (cyC, 200, .inl xc)), (g, .inr (1, [.int r0, .int r1, .int r2, .int r3, .int r4, .ref gl, .ref gr])), (gl, .inr (4, [.int rx0, .int rx1, .int rx2])), (gr, .inr (4, [.int ry0, .int ry1, .int ry2]))]) (ad := [h, ht]) (wr := [(g, .inr (1, [.int r0, .int r1, .int r2, .int r3, .int r4, .ref gl, .ref gr])), (gl, .inr (4, [.int rx0, .int rx1, .int rx2])), (gr, .inr (4, [.int ry0, .int ry1, .int ry2]))]) (nn := 5) (ci := 6) (q0 := 0) X Y (c_readNumber l D cyC cyI h ht xn u_1_1 xc 44 u_10_0 u_10_1 hr_10) gX6_readStart_X6_readNumber rfl ⟨rfl, rfl⟩ hd_X6_readNumber ⟨(Nat.le_of_ble_eq_true rfl), (Nat.le_of_ble_eq_true rfl)⟩ rfl rfl rfl [0, 1] [2, 3, 4] rfl rfl rfl rfl rfl rfl rfl rfl (by decide) rfl rfl hl.1 (Nat.le_of_ble_eq_true rfl) ⟨Nat.zero_le _, Nat.zero_le _⟩ dX6_readStart_36 (fun H locs Y => ?_)
      refine bPut (T := TX4) (N := 3) (ci := 4) (ws' := [(h, .inr (6, [.ref ht, .int xn, .int u_10_1])), (ht, .inl (cyC, 200, .inl xc)), (g, .inr (1, [.int r0, .int r1, .int r2, .int r3, .int r4, .ref gl, .ref gr])), (gl, .inr (4, [.int u_10_0, .int rx1, .int rx2])), (gr, .inr (4, [.int ry0, .int ry1, .int ry2]))]) X Y i_X6_readStart_X4 tyX4 tyX4_ok nmX4 3 rfl rfl 0 (Nat.le_of_ble_eq_true rfl) f_X6_readStart_72 rfl rfl rfl rfl (Nat.le_of_ble_eq_true rfl) rfl dX6_readStart_39 (fun H locs Y => ?_)
      refine lv_aload_n hx hb dX6_readStart_42 rfl (lv_at hl 0 rfl) ?_
      refine lv_aload_n hx hb dX6_readStart_43 rfl (lv_at hl 2 rfl) ?_
      refine lv_bipush (v := 44) hx hb dX6_readStart_44 (by decide) ?_
      obtain ⟨u_11_0, u_11_1, hr_11⟩ := bEx2 (s_readNumber xn u_10_1 xc 44)
      rw [hr_11] at hu
      dsimp only at hu
      refine bVI (As := [.int 44]) (rest := [.ref gl]) (wc := [(h, .inr (6, [.ref ht, .int xn, .int u_10_1])), (ht, .inl (cyC, 200, .inl xc))]) (w1 := [(h, .inr (6, [.ref ht, .int xn, .int u_11_1])), (ht, .inl (cyC, 200, .inl xc))]) (ws' := [(h, .inr (6, [.ref ht, .int xn, .int u_11_1])), (ht, .inl (cyC, 200, .inl xc)), (g, .inr (1, [.int r0, .int r1, .int r2, .int r3, .int r4, .ref gl, .ref gr])), (gl, .inr (4, [.int u_10_0, .int rx1, .int rx2])), (gr, .inr (4, [.int ry0, .int ry1, .int ry2]))]) (ad := [h, ht]) (wr := [(g, .inr (1, [.int r0, .int r1, .int r2, .int r3, .int r4, .ref gl, .ref gr])), (gl, .inr (4, [.int u_10_0, .int rx1, .int rx2])), (gr, .inr (4, [.int ry0, .int ry1, .int ry2]))]) (nn := 5) (ci := 6) (q0 := 0) X Y (c_readNumber l D cyC cyI h ht xn u_10_1 xc 44 u_11_0 u_11_1 hr_11) gX6_readStart_X6_readNumber rfl ⟨rfl, rfl⟩ hd_X6_readNumber ⟨(Nat.le_of_ble_eq_true rfl), (Nat.le_of_ble_eq_true rfl)⟩ rfl rfl rfl [0, 1] [2, 3, 4] rfl rfl rfl rfl rfl rfl rfl rfl (by decide) rfl rfl hl.1 (Nat.le_of_ble_eq_true rfl) ⟨Nat.zero_le _, Nat.zero_le _⟩ dX6_readStart_46 (fun H locs Y => ?_)
      refine bPut (T := TX4) (N := 3) (ci := 4) (ws' := [(h, .inr (6, [.ref ht, .int xn, .int u_11_1])), (ht, .inl (cyC, 200, .inl xc)), (g, .inr (1, [.int r0, .int r1, .int r2, .int r3, .int r4, .ref gl, .ref gr])), (gl, .inr (4, [.int u_10_0, .int u_11_0, .int rx2])), (gr, .inr (4, [.int ry0, .int ry1, .int ry2]))]) X Y i_X6_readStart_X4 tyX4 tyX4_ok nmX4 3 rfl rfl 1 (Nat.le_of_ble_eq_true rfl) f_X6_readStart_77 rfl rfl rfl rfl (Nat.le_of_ble_eq_true rfl) rfl dX6_readStart_49 (fun H locs Y => ?_)
      refine lv_aload_n hx hb dX6_readStart_52 rfl (lv_at hl 0 rfl) ?_
      refine lv_aload_n hx hb dX6_readStart_53 rfl (lv_at hl 2 rfl) ?_
      refine lv_bipush (v := 59) hx hb dX6_readStart_54 (by decide) ?_
      obtain ⟨u_12_0, u_12_1, hr_12⟩ := bEx2 (s_readNumber xn u_11_1 xc 59)
      rw [hr_12] at hu
      dsimp only at hu
      refine bVI (As := [.int 59]) (rest := [.ref gl]) (wc := [(h, .inr (6, [.ref ht, .int xn, .int u_11_1])), (ht, .inl (cyC, 200, .inl xc))]) (w1 := [(h, .inr (6, [.ref ht, .int xn, .int u_12_1])), (ht, .inl (cyC, 200, .inl xc))]) (ws' := [(h, .inr (6, [.ref ht, .int xn, .int u_12_1])), (ht, .inl (cyC, 200, .inl xc)), (g, .inr (1, [.int r0, .int r1, .int r2, .int r3, .int r4, .ref gl, .ref gr])), (gl, .inr (4, [.int u_10_0, .int u_11_0, .int rx2])), (gr, .inr (4, [.int ry0, .int ry1, .int ry2]))]) (ad := [h, ht]) (wr := [(g, .inr (1, [.int r0, .int r1, .int r2, .int r3, .int r4, .ref gl, .ref gr])), (gl, .inr (4, [.int u_10_0, .int u_11_0, .int rx2])), (gr, .inr (4, [.int ry0, .int ry1, .int ry2]))]) (nn := 5) (ci := 6) (q0 := 0) X Y (c_readNumber l D cyC cyI h ht xn u_11_1 xc 59 u_12_0 u_12_1 hr_12) gX6_readStart_X6_readNumber rfl ⟨rfl, rfl⟩ hd_X6_readNumber ⟨(Nat.le_of_ble_eq_true rfl), (Nat.le_of_ble_eq_true rfl)⟩ rfl rfl rfl [0, 1] [2, 3, 4] rfl rfl rfl rfl rfl rfl rfl rfl (by decide) rfl rfl hl.1 (Nat.le_of_ble_eq_true rfl) ⟨Nat.zero_le _, Nat.zero_le _⟩ dX6_readStart_56 (fun H locs Y => ?_)
      refine bPut (T := TX4) (N := 3) (ci := 4) (ws' := [(h, .inr (6, [.ref ht, .int xn, .int u_12_1])), (ht, .inl (cyC, 200, .inl xc)), (g, .inr (1, [.int r0, .int r1, .int r2, .int r3, .int r4, .ref gl, .ref gr])), (gl, .inr (4, [.int u_10_0, .int u_11_0, .int u_12_0])), (gr, .inr (4, [.int ry0, .int ry1, .int ry2]))]) X Y i_X6_readStart_X4 tyX4 tyX4_ok nmX4 3 rfl rfl 2 (Nat.le_of_ble_eq_true rfl) f_X6_readStart_80 rfl rfl rfl rfl (Nat.le_of_ble_eq_true rfl) rfl dX6_readStart_59 (fun H locs Y => ?_)
      refine lv_aload_n hx hb dX6_readStart_62 rfl (lv_at hl 0 rfl) ?_
      refine bGet (v := .int u_10_0) (T := TX4) (N := 3) (ci := 4) X Y i_X6_readStart_X4 3 rfl rfl 0 (Nat.le_of_ble_eq_true rfl) f_X6_readStart_72 rfl rfl dX6_readStart_63 ?_
      refine lv_iconst (v := 0) hx hb dX6_readStart_66 (by decide) ?_
      refine lv_sipush (v := 999) hx hb dX6_readStart_67 (by decide) ?_
      refine bNI (host := RX7) (As := [.int u_10_0, .int 0, .int 999]) (rest := []) X Y (c_isWithin l D cyC cyI u_10_0 0 999 (s_isWithin u_10_0 0 999) rfl) gX6_readStart_X7_isWithin_n54 rfl ⟨rfl, rfl⟩ hd_X7_isWithin.2 ⟨(Nat.le_of_ble_eq_true rfl), (Nat.le_of_ble_eq_true rfl)⟩ 10 rfl ni_X6_readStart_X7 ns_X6_readStart_X7_isWithin rfl rfl hl.1 (Nat.le_of_ble_eq_true rfl) ⟨Nat.zero_le _, Nat.zero_le _⟩ dX6_readStart_70 (fun H locs Y => ?_)
      refine lv_if_eq (tgt := 103) hx hb dX6_readStart_73 (by decide) (fun c_13 => ?_) (fun c_13 => ?_)
      · have c_13 := bB_f c_13
        rw [if_neg c_13] at hu
        refine lv_iconst (v := 0) hx hb dX6_readStart_103 (by decide) ?_
        have h9 := (Prod.mk.inj hu).1; replace hu := (Prod.mk.inj hu).2; subst h9
        have h9 := (Prod.mk.inj hu).1; replace hu := (Prod.mk.inj hu).2; subst h9
        have h9 := (Prod.mk.inj hu).1; replace hu := (Prod.mk.inj hu).2; subst h9
        have h9 := (Prod.mk.inj hu).1; replace hu := (Prod.mk.inj hu).2; subst h9
        have h9 := (Prod.mk.inj hu).1; replace hu := (Prod.mk.inj hu).2; subst h9
        have h9 := (Prod.mk.inj hu).1; replace hu := (Prod.mk.inj hu).2; subst h9
        have h9 := (Prod.mk.inj hu).1; replace hu := (Prod.mk.inj hu).2; subst h9
        subst hu
        exact bEndZ X Y hr hlk dX6_readStart_104 rfl rfl rfl
      · have c_13 := bB_t c_13
        rw [if_pos c_13] at hu
        refine lv_aload_n hx hb dX6_readStart_76 rfl (lv_at hl 0 rfl) ?_
        refine bGet (v := .int u_11_0) (T := TX4) (N := 3) (ci := 4) X Y i_X6_readStart_X4 3 rfl rfl 1 (Nat.le_of_ble_eq_true rfl) f_X6_readStart_77 rfl rfl dX6_readStart_77 ?_
        refine bNI (host := RX7) (As := [.int u_11_0]) (rest := []) X Y (c_isRope l D cyC cyI u_11_0 (s_isRope u_11_0) rfl) gX6_readStart_X7_isRope_n83 rfl ⟨rfl, rfl⟩ hd_X7_isRope.2 ⟨(Nat.le_of_ble_eq_true rfl), (Nat.le_of_ble_eq_true rfl)⟩ 12 rfl ni_X6_readStart_X7 ns_X6_readStart_X7_isRope rfl rfl hl.1 (Nat.le_of_ble_eq_true rfl) ⟨Nat.zero_le _, Nat.zero_le _⟩ dX6_readStart_80 (fun H locs Y => ?_)
        refine lv_if_eq (tgt := 103) hx hb dX6_readStart_83 (by decide) (fun c_14 => ?_) (fun c_14 => ?_)
        · have c_14 := bB_f c_14
          rw [if_neg c_14] at hu
          refine lv_iconst (v := 0) hx hb dX6_readStart_103 (by decide) ?_
          have h9 := (Prod.mk.inj hu).1; replace hu := (Prod.mk.inj hu).2; subst h9
          have h9 := (Prod.mk.inj hu).1; replace hu := (Prod.mk.inj hu).2; subst h9
          have h9 := (Prod.mk.inj hu).1; replace hu := (Prod.mk.inj hu).2; subst h9
          have h9 := (Prod.mk.inj hu).1; replace hu := (Prod.mk.inj hu).2; subst h9
          have h9 := (Prod.mk.inj hu).1; replace hu := (Prod.mk.inj hu).2; subst h9
          have h9 := (Prod.mk.inj hu).1; replace hu := (Prod.mk.inj hu).2; subst h9
          have h9 := (Prod.mk.inj hu).1; replace hu := (Prod.mk.inj hu).2; subst h9
          subst hu
          exact bEndZ X Y hr hlk dX6_readStart_104 rfl rfl rfl
        · have c_14 := bB_t c_14
          rw [if_pos c_14] at hu
          refine lv_aload_n hx hb dX6_readStart_86 rfl (lv_at hl 0 rfl) ?_
          refine bGet (v := .int u_12_0) (T := TX4) (N := 3) (ci := 4) X Y i_X6_readStart_X4 3 rfl rfl 2 (Nat.le_of_ble_eq_true rfl) f_X6_readStart_80 rfl rfl dX6_readStart_87 ?_
          refine lv_iconst (v := 0) hx hb dX6_readStart_90 (by decide) ?_
          refine lv_bipush (v := 99) hx hb dX6_readStart_91 (by decide) ?_
          refine bNI (host := RX7) (As := [.int u_12_0, .int 0, .int 99]) (rest := []) X Y (c_isWithin l D cyC cyI u_12_0 0 99 (s_isWithin u_12_0 0 99) rfl) gX6_readStart_X7_isWithin_n54 rfl ⟨rfl, rfl⟩ hd_X7_isWithin.2 ⟨(Nat.le_of_ble_eq_true rfl), (Nat.le_of_ble_eq_true rfl)⟩ 10 rfl ni_X6_readStart_X7 ns_X6_readStart_X7_isWithin rfl rfl hl.1 (Nat.le_of_ble_eq_true rfl) ⟨Nat.zero_le _, Nat.zero_le _⟩ dX6_readStart_93 (fun H locs Y => ?_)
          refine lv_if_eq (tgt := 103) hx hb dX6_readStart_96 (by decide) (fun c_15 => ?_) (fun c_15 => ?_)
          · have c_15 := bB_f c_15
            rw [if_neg c_15] at hu
            refine lv_iconst (v := 0) hx hb dX6_readStart_103 (by decide) ?_
            have h9 := (Prod.mk.inj hu).1; replace hu := (Prod.mk.inj hu).2; subst h9
            have h9 := (Prod.mk.inj hu).1; replace hu := (Prod.mk.inj hu).2; subst h9
            have h9 := (Prod.mk.inj hu).1; replace hu := (Prod.mk.inj hu).2; subst h9
            have h9 := (Prod.mk.inj hu).1; replace hu := (Prod.mk.inj hu).2; subst h9
            have h9 := (Prod.mk.inj hu).1; replace hu := (Prod.mk.inj hu).2; subst h9
            have h9 := (Prod.mk.inj hu).1; replace hu := (Prod.mk.inj hu).2; subst h9
            have h9 := (Prod.mk.inj hu).1; replace hu := (Prod.mk.inj hu).2; subst h9
            subst hu
            exact bEndZ X Y hr hlk dX6_readStart_104 rfl rfl rfl
          · have c_15 := bB_t c_15
            rw [if_pos c_15] at hu
            refine lv_iconst (v := 1) hx hb dX6_readStart_99 (by decide) ?_
            refine lv_goto (tgt := 104) hx hb dX6_readStart_100 (by decide) ?_
            have h9 := (Prod.mk.inj hu).1; replace hu := (Prod.mk.inj hu).2; subst h9
            have h9 := (Prod.mk.inj hu).1; replace hu := (Prod.mk.inj hu).2; subst h9
            have h9 := (Prod.mk.inj hu).1; replace hu := (Prod.mk.inj hu).2; subst h9
            have h9 := (Prod.mk.inj hu).1; replace hu := (Prod.mk.inj hu).2; subst h9
            have h9 := (Prod.mk.inj hu).1; replace hu := (Prod.mk.inj hu).2; subst h9
            have h9 := (Prod.mk.inj hu).1; replace hu := (Prod.mk.inj hu).2; subst h9
            have h9 := (Prod.mk.inj hu).1; replace hu := (Prod.mk.inj hu).2; subst h9
            subst hu
            exact bEndZ X Y hr hlk dX6_readStart_104 rfl rfl rfl
  · have c_2 := bB_f c_2
    rw [if_neg c_2] at hu
    refine lv_iconst (v := 0) hx hb dX6_readStart_14 (by decide) ?_
    have h9 := (Prod.mk.inj hu).1; replace hu := (Prod.mk.inj hu).2; subst h9
    have h9 := (Prod.mk.inj hu).1; replace hu := (Prod.mk.inj hu).2; subst h9
    have h9 := (Prod.mk.inj hu).1; replace hu := (Prod.mk.inj hu).2; subst h9
    have h9 := (Prod.mk.inj hu).1; replace hu := (Prod.mk.inj hu).2; subst h9
    have h9 := (Prod.mk.inj hu).1; replace hu := (Prod.mk.inj hu).2; subst h9
    have h9 := (Prod.mk.inj hu).1; replace hu := (Prod.mk.inj hu).2; subst h9
    have h9 := (Prod.mk.inj hu).1; replace hu := (Prod.mk.inj hu).2; subst h9
    subst hu
    exact bEndZ X Y hr hlk dX6_readStart_15 rfl rfl rfl
theorem i_X6_readDrive_X1 : ∀ w ∈ wsX10, w ∈ wsX6_readDrive := by decide +kernel
theorem f_X6_readDrive_86 : Cond.fieldLink RX6 86 "SwingCranes$Layout" "change" "I" ∈ wsX6_readDrive := by decide +kernel
theorem f_X6_readDrive_89 : Cond.fieldLink RX6 89 "SwingCranes$Layout" "top" "I" ∈ wsX6_readDrive := by decide +kernel
theorem f_X6_readDrive_92 : Cond.fieldLink RX6 92 "SwingCranes$Layout" "hoist" "I" ∈ wsX6_readDrive := by decide +kernel
theorem ni_X6_readDrive_X7 : Cond.initialized RX7 ∈ wsX6_readDrive := by decide +kernel
theorem ns_X6_readDrive_X7_isWithin : Cond.static yX7_isWithin ∈ wsX6_readDrive := by decide +kernel
def s_readDrive (xn : Int32) (xi : Int32) (xc : Nat → Int32) : Bool × Int32 × Int32 × Int32 × Int32 :=
  match s_readNumber xn xi xc 44 with
  | (u_1_0, u_1_1) =>
    match s_readNumber xn u_1_1 xc 44 with
    | (u_2_0, u_2_1) =>
      match s_readNumber xn u_2_1 xc 59 with
      | (u_3_0, u_3_1) =>
        if (s_isWithin u_1_0 1 9) = true then
          if (s_isWithin u_2_0 1 40) = true then
            if (s_isWithin u_3_0 0 40) = true then
              (true, u_3_1, u_1_0, u_2_0, u_3_0)
            else
              (false, u_3_1, u_1_0, u_2_0, u_3_0)
          else
            (false, u_3_1, u_1_0, u_2_0, u_3_0)
        else
          (false, u_3_1, u_1_0, u_2_0, u_3_0)
set_option maxHeartbeats 4000000 in
set_option maxRecDepth 100000 in
theorem c_readDrive (l : Launch) (D : va_G) (cyC cyI : ClassId) (h : Nat) (ht : Nat) (xn : Int32) (xi : Int32) (xc : Nat → Int32) (g : Nat) (r0 : Int32) (r1 : Int32) (r2 : Int32) (r3 : Int32) (r4 : Int32) (gl : Nat) (rx0 : Int32) (rx1 : Int32) (rx2 : Int32) (gr : Nat) (ry0 : Int32) (ry1 : Int32) (ry2 : Int32) (o0 : Bool) (o1 : Int32) (o2 : Int32) (o3 : Int32) (o4 : Int32) (hu : s_readDrive xn xi xc = (o0, o1, o2, o3, o4)) : CI l yX6_readDrive wsX6_readDrive { frames := 2, cells := 0, slots := 0, locals := 46 } D cyC cyI [.ref h, .ref g] [(h, .inr (6, [.ref ht, .int xn, .int xi])), (ht, .inl (cyC, 200, .inl xc)), (g, .inr (1, [.int r0, .int r1, .int r2, .int r3, .int r4, .ref gl, .ref gr])), (gl, .inr (4, [.int rx0, .int rx1, .int rx2])), (gr, .inr (4, [.int ry0, .int ry1, .int ry2]))] (bB o0) [(h, .inr (6, [.ref ht, .int xn, .int o1])), (ht, .inl (cyC, 200, .inl xc)), (g, .inr (1, [.int r0, .int r1, .int o2, .int o3, .int o4, .ref gl, .ref gr])), (gl, .inr (4, [.int rx0, .int rx1, .int rx2])), (gr, .inr (4, [.int ry0, .int ry1, .int ry2]))] := by
  refine CI.of (cc := cX6_readDrive) (n := 2) (ret := (some .boolean)) (by decide +kernel) rfl (Nat.le_of_ble_eq_true rfl) ?_
  intro p_ e_ s_ m_ bl_ me_ cd_ A_ ls X Y hr hlk hl
  have hx := X.1.1
  have hb := X.1.2.1
  have hl : lv_has ls 2 [(0, .ref h), (1, .ref g)] := hl
  unfold s_readDrive at hu
  refine lv_aload_n hx hb dX6_readDrive_0 rfl (lv_at hl 1 rfl) ?_
  refine lv_aload_n hx hb dX6_readDrive_1 rfl (lv_at hl 0 rfl) ?_
  refine lv_bipush (v := 44) hx hb dX6_readDrive_2 (by decide) ?_
  obtain ⟨u_1_0, u_1_1, hr_1⟩ := bEx2 (s_readNumber xn xi xc 44)
  rw [hr_1] at hu
  dsimp only at hu
  refine bVI (As := [.int 44]) (rest := [.ref g]) (wc := [(h, .inr (6, [.ref ht, .int xn, .int xi])), (ht, .inl (cyC, 200, .inl xc))]) (w1 := [(h, .inr (6, [.ref ht, .int xn, .int u_1_1])), (ht, .inl (cyC, 200, .inl xc))]) (ws' := [(h, .inr (6, [.ref ht, .int xn, .int u_1_1])), (ht, .inl (cyC, 200, .inl xc)), (g, .inr (1, [.int r0, .int r1, .int r2, .int r3, .int r4, .ref gl, .ref gr])), (gl, .inr (4, [.int rx0, .int rx1, .int rx2])), (gr, .inr (4, [.int ry0, .int ry1, .int ry2]))]) (ad := [h, ht]) (wr := [(g, .inr (1, [.int r0, .int r1, .int r2, .int r3, .int r4, .ref gl, .ref gr])), (gl, .inr (4, [.int rx0, .int rx1, .int rx2])), (gr, .inr (4, [.int ry0, .int ry1, .int ry2]))]) (nn := 5) (ci := 6) (q0 := 0) X Y (c_readNumber l D cyC cyI h ht xn xi xc 44 u_1_0 u_1_1 hr_1) gX6_readDrive_X6_readNumber rfl ⟨rfl, rfl⟩ hd_X6_readNumber ⟨(Nat.le_of_ble_eq_true rfl), (Nat.le_of_ble_eq_true rfl)⟩ rfl rfl rfl [0, 1] [2, 3, 4] rfl rfl rfl rfl rfl rfl rfl rfl (by decide) rfl rfl hl.1 (Nat.le_of_ble_eq_true rfl) ⟨Nat.zero_le _, Nat.zero_le _⟩ dX6_readDrive_4 (fun H locs Y => ?_)
  refine bPut (T := TX1) (N := 7) (ci := 1) (ws' := [(h, .inr (6, [.ref ht, .int xn, .int u_1_1])), (ht, .inl (cyC, 200, .inl xc)), (g, .inr (1, [.int r0, .int r1, .int u_1_0, .int r3, .int r4, .ref gl, .ref gr])), (gl, .inr (4, [.int rx0, .int rx1, .int rx2])), (gr, .inr (4, [.int ry0, .int ry1, .int ry2]))]) X Y i_X6_readDrive_X1 tyX1 tyX1_ok nmX1 2 rfl rfl 2 (Nat.le_of_ble_eq_true rfl) f_X6_readDrive_86 rfl rfl rfl rfl (Nat.le_of_ble_eq_true rfl) rfl dX6_readDrive_7 (fun H locs Y => ?_)
  refine lv_aload_n hx hb dX6_readDrive_10 rfl (lv_at hl 1 rfl) ?_
  refine lv_aload_n hx hb dX6_readDrive_11 rfl (lv_at hl 0 rfl) ?_
  refine lv_bipush (v := 44) hx hb dX6_readDrive_12 (by decide) ?_
  obtain ⟨u_2_0, u_2_1, hr_2⟩ := bEx2 (s_readNumber xn u_1_1 xc 44)
  rw [hr_2] at hu
  dsimp only at hu
  refine bVI (As := [.int 44]) (rest := [.ref g]) (wc := [(h, .inr (6, [.ref ht, .int xn, .int u_1_1])), (ht, .inl (cyC, 200, .inl xc))]) (w1 := [(h, .inr (6, [.ref ht, .int xn, .int u_2_1])), (ht, .inl (cyC, 200, .inl xc))]) (ws' := [(h, .inr (6, [.ref ht, .int xn, .int u_2_1])), (ht, .inl (cyC, 200, .inl xc)), (g, .inr (1, [.int r0, .int r1, .int u_1_0, .int r3, .int r4, .ref gl, .ref gr])), (gl, .inr (4, [.int rx0, .int rx1, .int rx2])), (gr, .inr (4, [.int ry0, .int ry1, .int ry2]))]) (ad := [h, ht]) (wr := [(g, .inr (1, [.int r0, .int r1, .int u_1_0, .int r3, .int r4, .ref gl, .ref gr])), (gl, .inr (4, [.int rx0, .int rx1, .int rx2])), (gr, .inr (4, [.int ry0, .int ry1, .int ry2]))]) (nn := 5) (ci := 6) (q0 := 0) X Y (c_readNumber l D cyC cyI h ht xn u_1_1 xc 44 u_2_0 u_2_1 hr_2) gX6_readDrive_X6_readNumber rfl ⟨rfl, rfl⟩ hd_X6_readNumber ⟨(Nat.le_of_ble_eq_true rfl), (Nat.le_of_ble_eq_true rfl)⟩ rfl rfl rfl [0, 1] [2, 3, 4] rfl rfl rfl rfl rfl rfl rfl rfl (by decide) rfl rfl hl.1 (Nat.le_of_ble_eq_true rfl) ⟨Nat.zero_le _, Nat.zero_le _⟩ dX6_readDrive_14 (fun H locs Y => ?_)
  refine bPut (T := TX1) (N := 7) (ci := 1) (ws' := [(h, .inr (6, [.ref ht, .int xn, .int u_2_1])), (ht, .inl (cyC, 200, .inl xc)), (g, .inr (1, [.int r0, .int r1, .int u_1_0, .int u_2_0, .int r4, .ref gl, .ref gr])), (gl, .inr (4, [.int rx0, .int rx1, .int rx2])), (gr, .inr (4, [.int ry0, .int ry1, .int ry2]))]) X Y i_X6_readDrive_X1 tyX1 tyX1_ok nmX1 2 rfl rfl 3 (Nat.le_of_ble_eq_true rfl) f_X6_readDrive_89 rfl rfl rfl rfl (Nat.le_of_ble_eq_true rfl) rfl dX6_readDrive_17 (fun H locs Y => ?_)
  refine lv_aload_n hx hb dX6_readDrive_20 rfl (lv_at hl 1 rfl) ?_
  refine lv_aload_n hx hb dX6_readDrive_21 rfl (lv_at hl 0 rfl) ?_
  refine lv_bipush (v := 59) hx hb dX6_readDrive_22 (by decide) ?_
  obtain ⟨u_3_0, u_3_1, hr_3⟩ := bEx2 (s_readNumber xn u_2_1 xc 59)
  rw [hr_3] at hu
  dsimp only at hu
  refine bVI (As := [.int 59]) (rest := [.ref g]) (wc := [(h, .inr (6, [.ref ht, .int xn, .int u_2_1])), (ht, .inl (cyC, 200, .inl xc))]) (w1 := [(h, .inr (6, [.ref ht, .int xn, .int u_3_1])), (ht, .inl (cyC, 200, .inl xc))]) (ws' := [(h, .inr (6, [.ref ht, .int xn, .int u_3_1])), (ht, .inl (cyC, 200, .inl xc)), (g, .inr (1, [.int r0, .int r1, .int u_1_0, .int u_2_0, .int r4, .ref gl, .ref gr])), (gl, .inr (4, [.int rx0, .int rx1, .int rx2])), (gr, .inr (4, [.int ry0, .int ry1, .int ry2]))]) (ad := [h, ht]) (wr := [(g, .inr (1, [.int r0, .int r1, .int u_1_0, .int u_2_0, .int r4, .ref gl, .ref gr])), (gl, .inr (4, [.int rx0, .int rx1, .int rx2])), (gr, .inr (4, [.int ry0, .int ry1, .int ry2]))]) (nn := 5) (ci := 6) (q0 := 0) X Y (c_readNumber l D cyC cyI h ht xn u_2_1 xc 59 u_3_0 u_3_1 hr_3) gX6_readDrive_X6_readNumber rfl ⟨rfl, rfl⟩ hd_X6_readNumber ⟨(Nat.le_of_ble_eq_true rfl), (Nat.le_of_ble_eq_true rfl)⟩ rfl rfl rfl [0, 1] [2, 3, 4] rfl rfl rfl rfl rfl rfl rfl rfl (by decide) rfl rfl hl.1 (Nat.le_of_ble_eq_true rfl) ⟨Nat.zero_le _, Nat.zero_le _⟩ dX6_readDrive_24 (fun H locs Y => ?_)
  refine bPut (T := TX1) (N := 7) (ci := 1) (ws' := [(h, .inr (6, [.ref ht, .int xn, .int u_3_1])), (ht, .inl (cyC, 200, .inl xc)), (g, .inr (1, [.int r0, .int r1, .int u_1_0, .int u_2_0, .int u_3_0, .ref gl, .ref gr])), (gl, .inr (4, [.int rx0, .int rx1, .int rx2])), (gr, .inr (4, [.int ry0, .int ry1, .int ry2]))]) X Y i_X6_readDrive_X1 tyX1 tyX1_ok nmX1 2 rfl rfl 4 (Nat.le_of_ble_eq_true rfl) f_X6_readDrive_92 rfl rfl rfl rfl (Nat.le_of_ble_eq_true rfl) rfl dX6_readDrive_27 (fun H locs Y => ?_)
  refine lv_aload_n hx hb dX6_readDrive_30 rfl (lv_at hl 1 rfl) ?_
  refine bGet (v := .int u_1_0) (T := TX1) (N := 7) (ci := 1) X Y i_X6_readDrive_X1 2 rfl rfl 2 (Nat.le_of_ble_eq_true rfl) f_X6_readDrive_86 rfl rfl dX6_readDrive_31 ?_
  refine lv_iconst (v := 1) hx hb dX6_readDrive_34 (by decide) ?_
  refine lv_bipush (v := 9) hx hb dX6_readDrive_35 (by decide) ?_
  refine bNI (host := RX7) (As := [.int u_1_0, .int 1, .int 9]) (rest := []) X Y (c_isWithin l D cyC cyI u_1_0 1 9 (s_isWithin u_1_0 1 9) rfl) gX6_readDrive_X7_isWithin_n54 rfl ⟨rfl, rfl⟩ hd_X7_isWithin.2 ⟨(Nat.le_of_ble_eq_true rfl), (Nat.le_of_ble_eq_true rfl)⟩ 10 rfl ni_X6_readDrive_X7 ns_X6_readDrive_X7_isWithin rfl rfl hl.1 (Nat.le_of_ble_eq_true rfl) ⟨Nat.zero_le _, Nat.zero_le _⟩ dX6_readDrive_37 (fun H locs Y => ?_)
  refine lv_if_eq (tgt := 73) hx hb dX6_readDrive_40 (by decide) (fun c_4 => ?_) (fun c_4 => ?_)
  · have c_4 := bB_f c_4
    rw [if_neg c_4] at hu
    refine lv_iconst (v := 0) hx hb dX6_readDrive_73 (by decide) ?_
    have h9 := (Prod.mk.inj hu).1; replace hu := (Prod.mk.inj hu).2; subst h9
    have h9 := (Prod.mk.inj hu).1; replace hu := (Prod.mk.inj hu).2; subst h9
    have h9 := (Prod.mk.inj hu).1; replace hu := (Prod.mk.inj hu).2; subst h9
    have h9 := (Prod.mk.inj hu).1; replace hu := (Prod.mk.inj hu).2; subst h9
    subst hu
    exact bEndZ X Y hr hlk dX6_readDrive_74 rfl rfl rfl
  · have c_4 := bB_t c_4
    rw [if_pos c_4] at hu
    refine lv_aload_n hx hb dX6_readDrive_43 rfl (lv_at hl 1 rfl) ?_
    refine bGet (v := .int u_2_0) (T := TX1) (N := 7) (ci := 1) X Y i_X6_readDrive_X1 2 rfl rfl 3 (Nat.le_of_ble_eq_true rfl) f_X6_readDrive_89 rfl rfl dX6_readDrive_44 ?_
    refine lv_iconst (v := 1) hx hb dX6_readDrive_47 (by decide) ?_
    refine lv_bipush (v := 40) hx hb dX6_readDrive_48 (by decide) ?_
    refine bNI (host := RX7) (As := [.int u_2_0, .int 1, .int 40]) (rest := []) X Y (c_isWithin l D cyC cyI u_2_0 1 40 (s_isWithin u_2_0 1 40) rfl) gX6_readDrive_X7_isWithin_n54 rfl ⟨rfl, rfl⟩ hd_X7_isWithin.2 ⟨(Nat.le_of_ble_eq_true rfl), (Nat.le_of_ble_eq_true rfl)⟩ 10 rfl ni_X6_readDrive_X7 ns_X6_readDrive_X7_isWithin rfl rfl hl.1 (Nat.le_of_ble_eq_true rfl) ⟨Nat.zero_le _, Nat.zero_le _⟩ dX6_readDrive_50 (fun H locs Y => ?_)
    refine lv_if_eq (tgt := 73) hx hb dX6_readDrive_53 (by decide) (fun c_5 => ?_) (fun c_5 => ?_)
    · have c_5 := bB_f c_5
      rw [if_neg c_5] at hu
      refine lv_iconst (v := 0) hx hb dX6_readDrive_73 (by decide) ?_
      have h9 := (Prod.mk.inj hu).1; replace hu := (Prod.mk.inj hu).2; subst h9
      have h9 := (Prod.mk.inj hu).1; replace hu := (Prod.mk.inj hu).2; subst h9
      have h9 := (Prod.mk.inj hu).1; replace hu := (Prod.mk.inj hu).2; subst h9
      have h9 := (Prod.mk.inj hu).1; replace hu := (Prod.mk.inj hu).2; subst h9
      subst hu
      exact bEndZ X Y hr hlk dX6_readDrive_74 rfl rfl rfl
    · have c_5 := bB_t c_5
      rw [if_pos c_5] at hu
      refine lv_aload_n hx hb dX6_readDrive_56 rfl (lv_at hl 1 rfl) ?_
      refine bGet (v := .int u_3_0) (T := TX1) (N := 7) (ci := 1) X Y i_X6_readDrive_X1 2 rfl rfl 4 (Nat.le_of_ble_eq_true rfl) f_X6_readDrive_92 rfl rfl dX6_readDrive_57 ?_
      refine lv_iconst (v := 0) hx hb dX6_readDrive_60 (by decide) ?_
      refine lv_bipush (v := 40) hx hb dX6_readDrive_61 (by decide) ?_
      refine bNI (host := RX7) (As := [.int u_3_0, .int 0, .int 40]) (rest := []) X Y (c_isWithin l D cyC cyI u_3_0 0 40 (s_isWithin u_3_0 0 40) rfl) gX6_readDrive_X7_isWithin_n54 rfl ⟨rfl, rfl⟩ hd_X7_isWithin.2 ⟨(Nat.le_of_ble_eq_true rfl), (Nat.le_of_ble_eq_true rfl)⟩ 10 rfl ni_X6_readDrive_X7 ns_X6_readDrive_X7_isWithin rfl rfl hl.1 (Nat.le_of_ble_eq_true rfl) ⟨Nat.zero_le _, Nat.zero_le _⟩ dX6_readDrive_63 (fun H locs Y => ?_)
      refine lv_if_eq (tgt := 73) hx hb dX6_readDrive_66 (by decide) (fun c_6 => ?_) (fun c_6 => ?_)
      · have c_6 := bB_f c_6
        rw [if_neg c_6] at hu
        refine lv_iconst (v := 0) hx hb dX6_readDrive_73 (by decide) ?_
        have h9 := (Prod.mk.inj hu).1; replace hu := (Prod.mk.inj hu).2; subst h9
        have h9 := (Prod.mk.inj hu).1; replace hu := (Prod.mk.inj hu).2; subst h9
        have h9 := (Prod.mk.inj hu).1; replace hu := (Prod.mk.inj hu).2; subst h9
        have h9 := (Prod.mk.inj hu).1; replace hu := (Prod.mk.inj hu).2; subst h9
        subst hu
        exact bEndZ X Y hr hlk dX6_readDrive_74 rfl rfl rfl
      · have c_6 := bB_t c_6
        rw [if_pos c_6] at hu
        refine lv_iconst (v := 1) hx hb dX6_readDrive_69 (by decide) ?_
        refine lv_goto (tgt := 74) hx hb dX6_readDrive_70 (by decide) ?_
        have h9 := (Prod.mk.inj hu).1; replace hu := (Prod.mk.inj hu).2; subst h9
        have h9 := (Prod.mk.inj hu).1; replace hu := (Prod.mk.inj hu).2; subst h9
        have h9 := (Prod.mk.inj hu).1; replace hu := (Prod.mk.inj hu).2; subst h9
        have h9 := (Prod.mk.inj hu).1; replace hu := (Prod.mk.inj hu).2; subst h9
        subst hu
        exact bEndZ X Y hr hlk dX6_readDrive_74 rfl rfl rfl
theorem i_X6_readItem_X6 : ∀ w ∈ wsX60, w ∈ wsX6_readItem := by decide +kernel
theorem f_X6_readItem_24 : Cond.fieldLink RX6 24 "SwingCranes$Text" "at" "I" ∈ wsX6_readItem := by decide +kernel
theorem hd_X6_readStart : bD1 yX6_readStart RX6 1 := by decide +kernel
theorem hd_X6_readEnd : bD1 yX6_readEnd RX6 1 := by decide +kernel
theorem hd_X6_readGap : bD1 yX6_readGap RX6 1 := by decide +kernel
theorem hd_X6_readDrive : bD1 yX6_readDrive RX6 1 := by decide +kernel
def s_readItem (xn : Int32) (xi : Int32) (xc : Nat → Int32) (r0 : Int32) (r1 : Int32) (r2 : Int32) (r3 : Int32) (r4 : Int32) (rx0 : Int32) (rx1 : Int32) (rx2 : Int32) (ry0 : Int32) (ry1 : Int32) (ry2 : Int32) : Bool × Int32 × Int32 × Int32 × Int32 × Int32 × Int32 × Int32 × Int32 × Int32 × Int32 × Int32 × Int32 :=
  if (s_letterAt xn xc xi) = 99 then
    match s_readStart xn (xi + 1) xc rx0 rx1 rx2 ry0 ry1 ry2 with
    | (u_2_0, u_2_1, u_2_2, u_2_3, u_2_4, u_2_5, u_2_6, u_2_7) =>
      (u_2_0, u_2_1, r0, r1, r2, r3, r4, u_2_2, u_2_3, u_2_4, u_2_5, u_2_6, u_2_7)
  else
    if (s_letterAt xn xc xi) = 101 then
      match s_readEnd xn (xi + 1) xc with
      | (u_4_0, u_4_1, u_4_2) =>
        (u_4_0, u_4_1, u_4_2, r1, r2, r3, r4, rx0, rx1, rx2, ry0, ry1, ry2)
    else
      if (s_letterAt xn xc xi) = 103 then
        match s_readGap xn (xi + 1) xc with
        | (u_6_0, u_6_1, u_6_2) =>
          (u_6_0, u_6_1, r0, u_6_2, r2, r3, r4, rx0, rx1, rx2, ry0, ry1, ry2)
      else
        if (s_letterAt xn xc xi) = 107 then
          match s_readDrive xn (xi + 1) xc with
          | (u_8_0, u_8_1, u_8_2, u_8_3, u_8_4) =>
            (u_8_0, u_8_1, r0, r1, u_8_2, u_8_3, u_8_4, rx0, rx1, rx2, ry0, ry1, ry2)
        else
          (false, xi + 1, r0, r1, r2, r3, r4, rx0, rx1, rx2, ry0, ry1, ry2)
set_option maxHeartbeats 4000000 in
set_option maxRecDepth 100000 in
theorem c_readItem (l : Launch) (D : va_G) (cyC cyI : ClassId) (h : Nat) (ht : Nat) (xn : Int32) (xi : Int32) (xc : Nat → Int32) (g : Nat) (r0 : Int32) (r1 : Int32) (r2 : Int32) (r3 : Int32) (r4 : Int32) (gl : Nat) (rx0 : Int32) (rx1 : Int32) (rx2 : Int32) (gr : Nat) (ry0 : Int32) (ry1 : Int32) (ry2 : Int32) (o0 : Bool) (o1 : Int32) (o2 : Int32) (o3 : Int32) (o4 : Int32) (o5 : Int32) (o6 : Int32) (o7 : Int32) (o8 : Int32) (o9 : Int32) (o10 : Int32) (o11 : Int32) (o12 : Int32) (hu : s_readItem xn xi xc r0 r1 r2 r3 r4 rx0 rx1 rx2 ry0 ry1 ry2 = (o0, o1, o2, o3, o4, o5, o6, o7, o8, o9, o10, o11, o12)) : CI l yX6_readItem wsX6_readItem { frames := 3, cells := 0, slots := 0, locals := 69 } D cyC cyI [.ref h, .ref g] [(h, .inr (6, [.ref ht, .int xn, .int xi])), (ht, .inl (cyC, 200, .inl xc)), (g, .inr (1, [.int r0, .int r1, .int r2, .int r3, .int r4, .ref gl, .ref gr])), (gl, .inr (4, [.int rx0, .int rx1, .int rx2])), (gr, .inr (4, [.int ry0, .int ry1, .int ry2]))] (bB o0) [(h, .inr (6, [.ref ht, .int xn, .int o1])), (ht, .inl (cyC, 200, .inl xc)), (g, .inr (1, [.int o2, .int o3, .int o4, .int o5, .int o6, .ref gl, .ref gr])), (gl, .inr (4, [.int o7, .int o8, .int o9])), (gr, .inr (4, [.int o10, .int o11, .int o12]))] := by
  refine CI.of (cc := cX6_readItem) (n := 3) (ret := (some .boolean)) (by decide +kernel) rfl (Nat.le_of_ble_eq_true rfl) ?_
  intro p_ e_ s_ m_ bl_ me_ cd_ A_ ls X Y hr hlk hl
  have hx := X.1.1
  have hb := X.1.2.1
  have hl : lv_has ls 3 [(0, .ref h), (1, .ref g)] := hl
  unfold s_readItem at hu
  refine lv_aload_n hx hb dX6_readItem_0 rfl (lv_at hl 0 rfl) ?_
  refine lv_aload_n hx hb dX6_readItem_1 rfl (lv_at hl 0 rfl) ?_
  refine bGet (v := .int xi) (T := TX6) (N := 3) (ci := 6) X Y i_X6_readItem_X6 0 rfl rfl 2 (Nat.le_of_ble_eq_true rfl) f_X6_readItem_24 rfl rfl dX6_readItem_2 ?_
  refine bVI0 (As := [.int xi]) (rest := []) (wc := [(h, .inr (6, [.ref ht, .int xn, .int xi])), (ht, .inl (cyC, 200, .inl xc))]) (ci := 6) (q0 := 0) X Y (c_letterAt l D cyC cyI h ht xn xi xc xi (s_letterAt xn xc xi) rfl) gX6_readItem_X6_letterAt rfl ⟨rfl, rfl⟩ hd_X6_letterAt ⟨(Nat.le_of_ble_eq_true rfl), (Nat.le_of_ble_eq_true rfl)⟩ rfl rfl rfl [0, 1] rfl rfl rfl rfl hl.1 (Nat.le_of_ble_eq_true rfl) ⟨Nat.zero_le _, Nat.zero_le _⟩ dX6_readItem_5 (fun H locs Y => ?_)
  refine lv_istore_n (lv' := [(2, .int (s_letterAt xn xc xi)), (0, .ref h), (1, .ref g)]) hx hb dX6_readItem_8 rfl hl (by decide) rfl (fun ls hl => ?_)
  refine lv_aload_n hx hb dX6_readItem_9 rfl (lv_at hl 1 rfl) ?_
  refine lv_dup hx hb dX6_readItem_10 rfl ?_
  refine bGet (v := .int xi) (T := TX6) (N := 3) (ci := 6) X Y i_X6_readItem_X6 0 rfl rfl 2 (Nat.le_of_ble_eq_true rfl) f_X6_readItem_24 rfl rfl dX6_readItem_11 ?_
  refine lv_iconst (v := 1) hx hb dX6_readItem_14 (by decide) ?_
  refine bAdd (v := xi + 1) X dX6_readItem_15 rfl ?_
  refine bPut (T := TX6) (N := 3) (ci := 6) (ws' := [(h, .inr (6, [.ref ht, .int xn, .int (xi + 1)])), (ht, .inl (cyC, 200, .inl xc)), (g, .inr (1, [.int r0, .int r1, .int r2, .int r3, .int r4, .ref gl, .ref gr])), (gl, .inr (4, [.int rx0, .int rx1, .int rx2])), (gr, .inr (4, [.int ry0, .int ry1, .int ry2]))]) X Y i_X6_readItem_X6 tyX6 tyX6_ok nmX6 0 rfl rfl 2 (Nat.le_of_ble_eq_true rfl) f_X6_readItem_24 rfl rfl rfl rfl (Nat.le_of_ble_eq_true rfl) rfl dX6_readItem_16 (fun H locs Y => ?_)
  refine lv_iload_n hx hb dX6_readItem_19 rfl (lv_at hl 0 rfl) ?_
  by_cases c_1 : (s_letterAt xn xc xi) = 99
  · rw [if_pos c_1] at hu
    refine lv_tableIn (tgt := 84) (off := 64) hx hb dX6_readItem_20 (by rw [c_1]; decide) (by rw [c_1]; decide) (by rw [c_1]; decide +kernel) (by decide) ?_
    refine lv_aload_n hx hb dX6_readItem_84 rfl (lv_at hl 1 rfl) ?_
    refine lv_aload_n hx hb dX6_readItem_85 rfl (lv_at hl 2 rfl) ?_
    obtain ⟨u_2_0, u_2_1, u_2_2, u_2_3, u_2_4, u_2_5, u_2_6, u_2_7, hr_2⟩ := bEx8 (s_readStart xn (xi + 1) xc rx0 rx1 rx2 ry0 ry1 ry2)
    rw [hr_2] at hu
    dsimp only at hu
    refine bVI (As := [.ref g]) (rest := []) (wc := [(h, .inr (6, [.ref ht, .int xn, .int (xi + 1)])), (ht, .inl (cyC, 200, .inl xc)), (g, .inr (1, [.int r0, .int r1, .int r2, .int r3, .int r4, .ref gl, .ref gr])), (gl, .inr (4, [.int rx0, .int rx1, .int rx2])), (gr, .inr (4, [.int ry0, .int ry1, .int ry2]))]) (w1 := [(h, .inr (6, [.ref ht, .int xn, .int u_2_1])), (ht, .inl (cyC, 200, .inl xc)), (g, .inr (1, [.int r0, .int r1, .int r2, .int r3, .int r4, .ref gl, .ref gr])), (gl, .inr (4, [.int u_2_2, .int u_2_3, .int u_2_4])), (gr, .inr (4, [.int u_2_5, .int u_2_6, .int u_2_7]))]) (ws' := [(h, .inr (6, [.ref ht, .int xn, .int u_2_1])), (ht, .inl (cyC, 200, .inl xc)), (g, .inr (1, [.int r0, .int r1, .int r2, .int r3, .int r4, .ref gl, .ref gr])), (gl, .inr (4, [.int u_2_2, .int u_2_3, .int u_2_4])), (gr, .inr (4, [.int u_2_5, .int u_2_6, .int u_2_7]))]) (ad := [h, ht, g, gl, gr]) (wr := []) (nn := 5) (ci := 6) (q0 := 0) X Y (c_readStart l D cyC cyI h ht xn (xi + 1) xc g r0 r1 r2 r3 r4 gl rx0 rx1 rx2 gr ry0 ry1 ry2 u_2_0 u_2_1 u_2_2 u_2_3 u_2_4 u_2_5 u_2_6 u_2_7 hr_2) gX6_readItem_X6_readStart rfl ⟨rfl, rfl⟩ hd_X6_readStart ⟨(Nat.le_of_ble_eq_true rfl), (Nat.le_of_ble_eq_true rfl)⟩ rfl rfl rfl [0, 1, 2, 3, 4] [] rfl rfl rfl rfl rfl rfl rfl rfl (by decide) rfl rfl hl.1 (Nat.le_of_ble_eq_true rfl) ⟨Nat.zero_le _, Nat.zero_le _⟩ dX6_readItem_86 (fun H locs Y => ?_)
    have h9 := (Prod.mk.inj hu).1; replace hu := (Prod.mk.inj hu).2; subst h9
    have h9 := (Prod.mk.inj hu).1; replace hu := (Prod.mk.inj hu).2; subst h9
    have h9 := (Prod.mk.inj hu).1; replace hu := (Prod.mk.inj hu).2; subst h9
    have h9 := (Prod.mk.inj hu).1; replace hu := (Prod.mk.inj hu).2; subst h9
    have h9 := (Prod.mk.inj hu).1; replace hu := (Prod.mk.inj hu).2; subst h9
    have h9 := (Prod.mk.inj hu).1; replace hu := (Prod.mk.inj hu).2; subst h9
    have h9 := (Prod.mk.inj hu).1; replace hu := (Prod.mk.inj hu).2; subst h9
    have h9 := (Prod.mk.inj hu).1; replace hu := (Prod.mk.inj hu).2; subst h9
    have h9 := (Prod.mk.inj hu).1; replace hu := (Prod.mk.inj hu).2; subst h9
    have h9 := (Prod.mk.inj hu).1; replace hu := (Prod.mk.inj hu).2; subst h9
    have h9 := (Prod.mk.inj hu).1; replace hu := (Prod.mk.inj hu).2; subst h9
    have h9 := (Prod.mk.inj hu).1; replace hu := (Prod.mk.inj hu).2; subst h9
    subst hu
    exact bEndZ X Y hr hlk dX6_readItem_89 (bB_nar _) rfl rfl
  · skip
    rw [if_neg c_1] at hu
    by_cases c_3 : (s_letterAt xn xc xi) = 101
    · rw [if_pos c_3] at hu
      refine lv_tableIn (tgt := 72) (off := 52) hx hb dX6_readItem_20 (by rw [c_3]; decide) (by rw [c_3]; decide) (by rw [c_3]; decide +kernel) (by decide) ?_
      refine lv_aload_n hx hb dX6_readItem_72 rfl (lv_at hl 1 rfl) ?_
      refine lv_aload_n hx hb dX6_readItem_73 rfl (lv_at hl 2 rfl) ?_
      obtain ⟨u_4_0, u_4_1, u_4_2, hr_4⟩ := bEx3 (s_readEnd xn (xi + 1) xc)
      rw [hr_4] at hu
      dsimp only at hu
      refine bVI (As := [.ref g]) (rest := []) (wc := [(h, .inr (6, [.ref ht, .int xn, .int (xi + 1)])), (ht, .inl (cyC, 200, .inl xc)), (g, .inr (1, [.int r0, .int r1, .int r2, .int r3, .int r4, .ref gl, .ref gr])), (gl, .inr (4, [.int rx0, .int rx1, .int rx2])), (gr, .inr (4, [.int ry0, .int ry1, .int ry2]))]) (w1 := [(h, .inr (6, [.ref ht, .int xn, .int u_4_1])), (ht, .inl (cyC, 200, .inl xc)), (g, .inr (1, [.int u_4_2, .int r1, .int r2, .int r3, .int r4, .ref gl, .ref gr])), (gl, .inr (4, [.int rx0, .int rx1, .int rx2])), (gr, .inr (4, [.int ry0, .int ry1, .int ry2]))]) (ws' := [(h, .inr (6, [.ref ht, .int xn, .int u_4_1])), (ht, .inl (cyC, 200, .inl xc)), (g, .inr (1, [.int u_4_2, .int r1, .int r2, .int r3, .int r4, .ref gl, .ref gr])), (gl, .inr (4, [.int rx0, .int rx1, .int rx2])), (gr, .inr (4, [.int ry0, .int ry1, .int ry2]))]) (ad := [h, ht, g, gl, gr]) (wr := []) (nn := 5) (ci := 6) (q0 := 0) X Y (c_readEnd l D cyC cyI h ht xn (xi + 1) xc g r0 r1 r2 r3 r4 gl rx0 rx1 rx2 gr ry0 ry1 ry2 u_4_0 u_4_1 u_4_2 hr_4) gX6_readItem_X6_readEnd rfl ⟨rfl, rfl⟩ hd_X6_readEnd ⟨(Nat.le_of_ble_eq_true rfl), (Nat.le_of_ble_eq_true rfl)⟩ rfl rfl rfl [0, 1, 2, 3, 4] [] rfl rfl rfl rfl rfl rfl rfl rfl (by decide) rfl rfl hl.1 (Nat.le_of_ble_eq_true rfl) ⟨Nat.zero_le _, Nat.zero_le _⟩ dX6_readItem_74 (fun H locs Y => ?_)
      have h9 := (Prod.mk.inj hu).1; replace hu := (Prod.mk.inj hu).2; subst h9
      have h9 := (Prod.mk.inj hu).1; replace hu := (Prod.mk.inj hu).2; subst h9
      have h9 := (Prod.mk.inj hu).1; replace hu := (Prod.mk.inj hu).2; subst h9
      have h9 := (Prod.mk.inj hu).1; replace hu := (Prod.mk.inj hu).2; subst h9
      have h9 := (Prod.mk.inj hu).1; replace hu := (Prod.mk.inj hu).2; subst h9
      have h9 := (Prod.mk.inj hu).1; replace hu := (Prod.mk.inj hu).2; subst h9
      have h9 := (Prod.mk.inj hu).1; replace hu := (Prod.mk.inj hu).2; subst h9
      have h9 := (Prod.mk.inj hu).1; replace hu := (Prod.mk.inj hu).2; subst h9
      have h9 := (Prod.mk.inj hu).1; replace hu := (Prod.mk.inj hu).2; subst h9
      have h9 := (Prod.mk.inj hu).1; replace hu := (Prod.mk.inj hu).2; subst h9
      have h9 := (Prod.mk.inj hu).1; replace hu := (Prod.mk.inj hu).2; subst h9
      have h9 := (Prod.mk.inj hu).1; replace hu := (Prod.mk.inj hu).2; subst h9
      subst hu
      exact bEndZ X Y hr hlk dX6_readItem_77 (bB_nar _) rfl rfl
    · skip
      rw [if_neg c_3] at hu
      by_cases c_5 : (s_letterAt xn xc xi) = 103
      · rw [if_pos c_5] at hu
        refine lv_tableIn (tgt := 78) (off := 58) hx hb dX6_readItem_20 (by rw [c_5]; decide) (by rw [c_5]; decide) (by rw [c_5]; decide +kernel) (by decide) ?_
        refine lv_aload_n hx hb dX6_readItem_78 rfl (lv_at hl 1 rfl) ?_
        refine lv_aload_n hx hb dX6_readItem_79 rfl (lv_at hl 2 rfl) ?_
        obtain ⟨u_6_0, u_6_1, u_6_2, hr_6⟩ := bEx3 (s_readGap xn (xi + 1) xc)
        rw [hr_6] at hu
        dsimp only at hu
        refine bVI (As := [.ref g]) (rest := []) (wc := [(h, .inr (6, [.ref ht, .int xn, .int (xi + 1)])), (ht, .inl (cyC, 200, .inl xc)), (g, .inr (1, [.int r0, .int r1, .int r2, .int r3, .int r4, .ref gl, .ref gr])), (gl, .inr (4, [.int rx0, .int rx1, .int rx2])), (gr, .inr (4, [.int ry0, .int ry1, .int ry2]))]) (w1 := [(h, .inr (6, [.ref ht, .int xn, .int u_6_1])), (ht, .inl (cyC, 200, .inl xc)), (g, .inr (1, [.int r0, .int u_6_2, .int r2, .int r3, .int r4, .ref gl, .ref gr])), (gl, .inr (4, [.int rx0, .int rx1, .int rx2])), (gr, .inr (4, [.int ry0, .int ry1, .int ry2]))]) (ws' := [(h, .inr (6, [.ref ht, .int xn, .int u_6_1])), (ht, .inl (cyC, 200, .inl xc)), (g, .inr (1, [.int r0, .int u_6_2, .int r2, .int r3, .int r4, .ref gl, .ref gr])), (gl, .inr (4, [.int rx0, .int rx1, .int rx2])), (gr, .inr (4, [.int ry0, .int ry1, .int ry2]))]) (ad := [h, ht, g, gl, gr]) (wr := []) (nn := 5) (ci := 6) (q0 := 0) X Y (c_readGap l D cyC cyI h ht xn (xi + 1) xc g r0 r1 r2 r3 r4 gl rx0 rx1 rx2 gr ry0 ry1 ry2 u_6_0 u_6_1 u_6_2 hr_6) gX6_readItem_X6_readGap rfl ⟨rfl, rfl⟩ hd_X6_readGap ⟨(Nat.le_of_ble_eq_true rfl), (Nat.le_of_ble_eq_true rfl)⟩ rfl rfl rfl [0, 1, 2, 3, 4] [] rfl rfl rfl rfl rfl rfl rfl rfl (by decide) rfl rfl hl.1 (Nat.le_of_ble_eq_true rfl) ⟨Nat.zero_le _, Nat.zero_le _⟩ dX6_readItem_80 (fun H locs Y => ?_)
        have h9 := (Prod.mk.inj hu).1; replace hu := (Prod.mk.inj hu).2; subst h9
        have h9 := (Prod.mk.inj hu).1; replace hu := (Prod.mk.inj hu).2; subst h9
        have h9 := (Prod.mk.inj hu).1; replace hu := (Prod.mk.inj hu).2; subst h9
        have h9 := (Prod.mk.inj hu).1; replace hu := (Prod.mk.inj hu).2; subst h9
        have h9 := (Prod.mk.inj hu).1; replace hu := (Prod.mk.inj hu).2; subst h9
        have h9 := (Prod.mk.inj hu).1; replace hu := (Prod.mk.inj hu).2; subst h9
        have h9 := (Prod.mk.inj hu).1; replace hu := (Prod.mk.inj hu).2; subst h9
        have h9 := (Prod.mk.inj hu).1; replace hu := (Prod.mk.inj hu).2; subst h9
        have h9 := (Prod.mk.inj hu).1; replace hu := (Prod.mk.inj hu).2; subst h9
        have h9 := (Prod.mk.inj hu).1; replace hu := (Prod.mk.inj hu).2; subst h9
        have h9 := (Prod.mk.inj hu).1; replace hu := (Prod.mk.inj hu).2; subst h9
        have h9 := (Prod.mk.inj hu).1; replace hu := (Prod.mk.inj hu).2; subst h9
        subst hu
        exact bEndZ X Y hr hlk dX6_readItem_83 (bB_nar _) rfl rfl
      · skip
        rw [if_neg c_5] at hu
        by_cases c_7 : (s_letterAt xn xc xi) = 107
        · rw [if_pos c_7] at hu
          refine lv_tableIn (tgt := 90) (off := 70) hx hb dX6_readItem_20 (by rw [c_7]; decide) (by rw [c_7]; decide) (by rw [c_7]; decide +kernel) (by decide) ?_
          refine lv_aload_n hx hb dX6_readItem_90 rfl (lv_at hl 1 rfl) ?_
          refine lv_aload_n hx hb dX6_readItem_91 rfl (lv_at hl 2 rfl) ?_
          obtain ⟨u_8_0, u_8_1, u_8_2, u_8_3, u_8_4, hr_8⟩ := bEx5 (s_readDrive xn (xi + 1) xc)
          rw [hr_8] at hu
          dsimp only at hu
          refine bVI (As := [.ref g]) (rest := []) (wc := [(h, .inr (6, [.ref ht, .int xn, .int (xi + 1)])), (ht, .inl (cyC, 200, .inl xc)), (g, .inr (1, [.int r0, .int r1, .int r2, .int r3, .int r4, .ref gl, .ref gr])), (gl, .inr (4, [.int rx0, .int rx1, .int rx2])), (gr, .inr (4, [.int ry0, .int ry1, .int ry2]))]) (w1 := [(h, .inr (6, [.ref ht, .int xn, .int u_8_1])), (ht, .inl (cyC, 200, .inl xc)), (g, .inr (1, [.int r0, .int r1, .int u_8_2, .int u_8_3, .int u_8_4, .ref gl, .ref gr])), (gl, .inr (4, [.int rx0, .int rx1, .int rx2])), (gr, .inr (4, [.int ry0, .int ry1, .int ry2]))]) (ws' := [(h, .inr (6, [.ref ht, .int xn, .int u_8_1])), (ht, .inl (cyC, 200, .inl xc)), (g, .inr (1, [.int r0, .int r1, .int u_8_2, .int u_8_3, .int u_8_4, .ref gl, .ref gr])), (gl, .inr (4, [.int rx0, .int rx1, .int rx2])), (gr, .inr (4, [.int ry0, .int ry1, .int ry2]))]) (ad := [h, ht, g, gl, gr]) (wr := []) (nn := 5) (ci := 6) (q0 := 0) X Y (c_readDrive l D cyC cyI h ht xn (xi + 1) xc g r0 r1 r2 r3 r4 gl rx0 rx1 rx2 gr ry0 ry1 ry2 u_8_0 u_8_1 u_8_2 u_8_3 u_8_4 hr_8) gX6_readItem_X6_readDrive rfl ⟨rfl, rfl⟩ hd_X6_readDrive ⟨(Nat.le_of_ble_eq_true rfl), (Nat.le_of_ble_eq_true rfl)⟩ rfl rfl rfl [0, 1, 2, 3, 4] [] rfl rfl rfl rfl rfl rfl rfl rfl (by decide) rfl rfl hl.1 (Nat.le_of_ble_eq_true rfl) ⟨Nat.zero_le _, Nat.zero_le _⟩ dX6_readItem_92 (fun H locs Y => ?_)
          have h9 := (Prod.mk.inj hu).1; replace hu := (Prod.mk.inj hu).2; subst h9
          have h9 := (Prod.mk.inj hu).1; replace hu := (Prod.mk.inj hu).2; subst h9
          have h9 := (Prod.mk.inj hu).1; replace hu := (Prod.mk.inj hu).2; subst h9
          have h9 := (Prod.mk.inj hu).1; replace hu := (Prod.mk.inj hu).2; subst h9
          have h9 := (Prod.mk.inj hu).1; replace hu := (Prod.mk.inj hu).2; subst h9
          have h9 := (Prod.mk.inj hu).1; replace hu := (Prod.mk.inj hu).2; subst h9
          have h9 := (Prod.mk.inj hu).1; replace hu := (Prod.mk.inj hu).2; subst h9
          have h9 := (Prod.mk.inj hu).1; replace hu := (Prod.mk.inj hu).2; subst h9
          have h9 := (Prod.mk.inj hu).1; replace hu := (Prod.mk.inj hu).2; subst h9
          have h9 := (Prod.mk.inj hu).1; replace hu := (Prod.mk.inj hu).2; subst h9
          have h9 := (Prod.mk.inj hu).1; replace hu := (Prod.mk.inj hu).2; subst h9
          have h9 := (Prod.mk.inj hu).1; replace hu := (Prod.mk.inj hu).2; subst h9
          subst hu
          exact bEndZ X Y hr hlk dX6_readItem_95 (bB_nar _) rfl rfl
        · skip
          rw [if_neg c_7] at hu
          refine bSwD (tgt := 96) hx hb dX6_readItem_20 (by intro k hk hx_; have e0 := bNeI c_1 (show (99 : Int32).toInt = 99 by decide); have e1 := bNeI c_3 (show (101 : Int32).toInt = 101 by decide); have e2 := bNeI c_5 (show (103 : Int32).toInt = 103 by decide); have e3 := bNeI c_7 (show (107 : Int32).toInt = 107 by decide); rcases (show k = 1 ∨ k = 3 ∨ k = 5 ∨ k = 6 ∨ k = 7 by omega) with rfl | rfl | rfl | rfl | rfl <;> rfl) (by decide) ?_
          refine lv_iconst (v := 0) hx hb dX6_readItem_96 (by decide) ?_
          have h9 := (Prod.mk.inj hu).1; replace hu := (Prod.mk.inj hu).2; subst h9
          have h9 := (Prod.mk.inj hu).1; replace hu := (Prod.mk.inj hu).2; subst h9
          have h9 := (Prod.mk.inj hu).1; replace hu := (Prod.mk.inj hu).2; subst h9
          have h9 := (Prod.mk.inj hu).1; replace hu := (Prod.mk.inj hu).2; subst h9
          have h9 := (Prod.mk.inj hu).1; replace hu := (Prod.mk.inj hu).2; subst h9
          have h9 := (Prod.mk.inj hu).1; replace hu := (Prod.mk.inj hu).2; subst h9
          have h9 := (Prod.mk.inj hu).1; replace hu := (Prod.mk.inj hu).2; subst h9
          have h9 := (Prod.mk.inj hu).1; replace hu := (Prod.mk.inj hu).2; subst h9
          have h9 := (Prod.mk.inj hu).1; replace hu := (Prod.mk.inj hu).2; subst h9
          have h9 := (Prod.mk.inj hu).1; replace hu := (Prod.mk.inj hu).2; subst h9
          have h9 := (Prod.mk.inj hu).1; replace hu := (Prod.mk.inj hu).2; subst h9
          have h9 := (Prod.mk.inj hu).1; replace hu := (Prod.mk.inj hu).2; subst h9
          subst hu
          exact bEndZ X Y hr hlk dX6_readItem_97 rfl rfl rfl
theorem hd_X1_setUsual : bD1 yX1_setUsual RX1 0 := by decide +kernel
theorem i_X6_readInto_X6 : ∀ w ∈ wsX60, w ∈ wsX6_readInto := by decide +kernel
theorem f_X6_readInto_24 : Cond.fieldLink RX6 24 "SwingCranes$Text" "at" "I" ∈ wsX6_readInto := by decide +kernel
theorem f_X6_readInto_15 : Cond.fieldLink RX6 15 "SwingCranes$Text" "length" "I" ∈ wsX6_readInto := by decide +kernel
theorem hd_X6_readItem : bD1 yX6_readItem RX6 1 := by decide +kernel
def g_readInto (xn : Int32) (xc : Nat → Int32) : Nat → Nat → Int32 → Int32 → Int32 → Int32 → Int32 → Int32 → Int32 → Int32 → Int32 → Int32 → Int32 → Int32 → Int32 × Int32 × Int32 × Int32 × Int32 × Int32 × Int32 × Int32 × Int32 × Int32 × Int32 × Int32 × Int32
  | 0, _, _, _, _, _, _, _, _, _, _, _, _, _ => (0, 0, 0, 0, 0, 0, 0, 0, 0, 0, 0, 0, 0)
  | n_ + 1, j, ii, z0, z1, z2, z3, z4, zx0, zx1, zx2, zy0, zy1, zy2 =>
    if 200 ≤ nI j then
      ((-4), ii, z0, z1, z2, z3, z4, zx0, zx1, zx2, zy0, zy1, zy2)
    else
      if xn ≤ ii then
        ((-4), ii, z0, z1, z2, z3, z4, zx0, zx1, zx2, zy0, zy1, zy2)
      else
        match s_readItem xn ii xc z0 z1 z2 z3 z4 zx0 zx1 zx2 zy0 zy1 zy2 with
        | (u_3_0, u_3_1, u_3_2, u_3_3, u_3_4, u_3_5, u_3_6, u_3_7, u_3_8, u_3_9, u_3_10, u_3_11, u_3_12) =>
          if u_3_0 = true then
            g_readInto xn xc n_ (j + 1) u_3_1 u_3_2 u_3_3 u_3_4 u_3_5 u_3_6 u_3_7 u_3_8 u_3_9 u_3_10 u_3_11 u_3_12
          else
            (ii, u_3_1, u_3_2, u_3_3, u_3_4, u_3_5, u_3_6, u_3_7, u_3_8, u_3_9, u_3_10, u_3_11, u_3_12)
def s_readInto (xn : Int32) (xc : Nat → Int32) : Int32 × Int32 × Int32 × Int32 × Int32 × Int32 × Int32 × Int32 × Int32 × Int32 × Int32 × Int32 × Int32 :=
  g_readInto xn xc (201) 0 0 600 40 2 12 6 100 30 0 500 30 0
set_option maxHeartbeats 4000000 in
set_option maxRecDepth 100000 in
theorem lp_readInto {p_ : Program} {e_ : Env} {s_ : State} {m_ : MethodId} {bl_ : List Frame} {me_ : Method} {cd_ : Code} {A_ : Nat → Prop} (l : Launch) (D : va_G) (cyC cyI : ClassId) (h : Nat) (ht : Nat) (xn : Int32) (xi : Int32) (xc : Nat → Int32) (g : Nat) (r0 : Int32) (r1 : Int32) (r2 : Int32) (r3 : Int32) (r4 : Int32) (gl : Nat) (rx0 : Int32) (rx1 : Int32) (rx2 : Int32) (gr : Nat) (ry0 : Int32) (ry1 : Int32) (ry2 : Int32) (o0 : Int32) (o1 : Int32) (o2 : Int32) (o3 : Int32) (o4 : Int32) (o5 : Int32) (o6 : Int32) (o7 : Int32) (o8 : Int32) (o9 : Int32) (o10 : Int32) (o11 : Int32) (o12 : Int32) (X : bX p_ s_ m_ ([.ref h, .ref g] : List Value).toArray cd_ cX6_readInto 4 wsX6_readInto yX6_readInto.cls D cyC cyI) (hr : me_.sig.returnType = (some .int)) (hlk : me_.locks = false) : ∀ (n_ : Nat) (j : Nat) (ii : Int32) (z0 : Int32) (z1 : Int32) (z2 : Int32) (z3 : Int32) (z4 : Int32) (zx0 : Int32) (zx1 : Int32) (zx2 : Int32) (zy0 : Int32) (zy1 : Int32) (zy2 : Int32) (hN : 201 ≤ j + n_) (hJ : j ≤ 200) (hu : g_readInto xn xc n_ j ii z0 z1 z2 z3 z4 zx0 zx1 zx2 zy0 zy1 zy2 = (o0, o1, o2, o3, o4, o5, o6, o7, o8, o9, o10, o11, o12)) (ls : Array Slot) (H : Heap) (locs : List Loc), lv_has ls 4 [(0, .ref h), (1, .ref g), (2, .int (nI j))] → bY D A_ s_.heap [(h, .inr (6, [.ref ht, .int xn, .int ii])), (ht, .inl (cyC, 200, .inl xc)), (g, .inr (1, [.int z0, .int z1, .int z2, .int z3, .int z4, .ref gl, .ref gr])), (gl, .inr (4, [.int zx0, .int zx1, .int zx2])), (gr, .inr (4, [.int zy0, .int zy1, .int zy2]))] H locs → W p_ l e_ ({ frames := 4, cells := 0, slots := 0, locals := 91 } : Room) s_ m_ ([.ref h, .ref g] : List Value).toArray bl_ me_ cd_ H locs 0 0 (bQI bl_ ([.ref h, .ref g] : List Value).toArray s_ D [(h, .inr (6, [.ref ht, .int xn, .int o1])), (ht, .inl (cyC, 200, .inl xc)), (g, .inr (1, [.int o2, .int o3, .int o4, .int o5, .int o6, .ref gl, .ref gr])), (gl, .inr (4, [.int o7, .int o8, .int o9])), (gr, .inr (4, [.int o10, .int o11, .int o12]))] o0 A_) (F0 m_ 11 ls []) := by
  intro n_
  induction n_ with
  | zero =>
    intro j ii z0 z1 z2 z3 z4 zx0 zx1 zx2 zy0 zy1 zy2 hN hJ hu ls H locs hl Y
    exfalso; omega
  | succ n_ ih =>
    intro j ii z0 z1 z2 z3 z4 zx0 zx1 zx2 zy0 zy1 zy2 hN hJ hu ls H locs hl Y
    have hx := X.1.1
    have hb := X.1.2.1
    rw [g_readInto] at hu
    refine lv_iload_n hx hb dX6_readInto_11 rfl (lv_at hl 2 rfl) ?_
    refine lv_sipush (v := 200) hx hb dX6_readInto_12 (by decide) ?_
    refine lv_icmp_ge (tgt := 50) hx hb dX6_readInto_15 (by decide) (fun c_1 => ?_) (fun c_1 => ?_)
    · have c_1 : 200 ≤ nI j := c_1
      rw [if_pos c_1] at hu
      refine lv_bipush (v := (-4)) hx hb dX6_readInto_50 (by decide) ?_
      have h9 := (Prod.mk.inj hu).1; replace hu := (Prod.mk.inj hu).2; subst h9
      have h9 := (Prod.mk.inj hu).1; replace hu := (Prod.mk.inj hu).2; subst h9
      have h9 := (Prod.mk.inj hu).1; replace hu := (Prod.mk.inj hu).2; subst h9
      have h9 := (Prod.mk.inj hu).1; replace hu := (Prod.mk.inj hu).2; subst h9
      have h9 := (Prod.mk.inj hu).1; replace hu := (Prod.mk.inj hu).2; subst h9
      have h9 := (Prod.mk.inj hu).1; replace hu := (Prod.mk.inj hu).2; subst h9
      have h9 := (Prod.mk.inj hu).1; replace hu := (Prod.mk.inj hu).2; subst h9
      have h9 := (Prod.mk.inj hu).1; replace hu := (Prod.mk.inj hu).2; subst h9
      have h9 := (Prod.mk.inj hu).1; replace hu := (Prod.mk.inj hu).2; subst h9
      have h9 := (Prod.mk.inj hu).1; replace hu := (Prod.mk.inj hu).2; subst h9
      have h9 := (Prod.mk.inj hu).1; replace hu := (Prod.mk.inj hu).2; subst h9
      have h9 := (Prod.mk.inj hu).1; replace hu := (Prod.mk.inj hu).2; subst h9
      subst hu
      exact bEndI X Y hr hlk dX6_readInto_52 rfl rfl
    · have c_1 : ¬ (200 ≤ nI j) := c_1
      rw [if_neg c_1] at hu
      refine lv_aload_n hx hb dX6_readInto_18 rfl (lv_at hl 0 rfl) ?_
      refine bGet (v := .int ii) (T := TX6) (N := 3) (ci := 6) X Y i_X6_readInto_X6 0 rfl rfl 2 (Nat.le_of_ble_eq_true rfl) f_X6_readInto_24 rfl rfl dX6_readInto_19 ?_
      refine lv_aload_n hx hb dX6_readInto_22 rfl (lv_at hl 0 rfl) ?_
      refine bGet (v := .int xn) (T := TX6) (N := 3) (ci := 6) X Y i_X6_readInto_X6 0 rfl rfl 1 (Nat.le_of_ble_eq_true rfl) f_X6_readInto_15 rfl rfl dX6_readInto_23 ?_
      refine lv_icmp_ge (tgt := 50) hx hb dX6_readInto_26 (by decide) (fun c_2 => ?_) (fun c_2 => ?_)
      · have c_2 : xn ≤ ii := c_2
        rw [if_pos c_2] at hu
        refine lv_bipush (v := (-4)) hx hb dX6_readInto_50 (by decide) ?_
        have h9 := (Prod.mk.inj hu).1; replace hu := (Prod.mk.inj hu).2; subst h9
        have h9 := (Prod.mk.inj hu).1; replace hu := (Prod.mk.inj hu).2; subst h9
        have h9 := (Prod.mk.inj hu).1; replace hu := (Prod.mk.inj hu).2; subst h9
        have h9 := (Prod.mk.inj hu).1; replace hu := (Prod.mk.inj hu).2; subst h9
        have h9 := (Prod.mk.inj hu).1; replace hu := (Prod.mk.inj hu).2; subst h9
        have h9 := (Prod.mk.inj hu).1; replace hu := (Prod.mk.inj hu).2; subst h9
        have h9 := (Prod.mk.inj hu).1; replace hu := (Prod.mk.inj hu).2; subst h9
        have h9 := (Prod.mk.inj hu).1; replace hu := (Prod.mk.inj hu).2; subst h9
        have h9 := (Prod.mk.inj hu).1; replace hu := (Prod.mk.inj hu).2; subst h9
        have h9 := (Prod.mk.inj hu).1; replace hu := (Prod.mk.inj hu).2; subst h9
        have h9 := (Prod.mk.inj hu).1; replace hu := (Prod.mk.inj hu).2; subst h9
        have h9 := (Prod.mk.inj hu).1; replace hu := (Prod.mk.inj hu).2; subst h9
        subst hu
        exact bEndI X Y hr hlk dX6_readInto_52 rfl rfl
      · have c_2 : ¬ (xn ≤ ii) := c_2
        rw [if_neg c_2] at hu
        refine lv_aload_n hx hb dX6_readInto_29 rfl (lv_at hl 0 rfl) ?_
        refine bGet (v := .int ii) (T := TX6) (N := 3) (ci := 6) X Y i_X6_readInto_X6 0 rfl rfl 2 (Nat.le_of_ble_eq_true rfl) f_X6_readInto_24 rfl rfl dX6_readInto_30 ?_
        refine lv_istore_n (lv' := [(3, .int ii), (0, .ref h), (1, .ref g), (2, .int (nI j))]) hx hb dX6_readInto_33 rfl hl (by decide) rfl (fun ls hl => ?_)
        refine lv_aload_n hx hb dX6_readInto_34 rfl (lv_at hl 1 rfl) ?_
        refine lv_aload_n hx hb dX6_readInto_35 rfl (lv_at hl 2 rfl) ?_
        obtain ⟨u_3_0, u_3_1, u_3_2, u_3_3, u_3_4, u_3_5, u_3_6, u_3_7, u_3_8, u_3_9, u_3_10, u_3_11, u_3_12, hr_3⟩ := bEx13 (s_readItem xn ii xc z0 z1 z2 z3 z4 zx0 zx1 zx2 zy0 zy1 zy2)
        rw [hr_3] at hu
        dsimp only at hu
        refine bVI (As := [.ref g]) (rest := []) (wc := [(h, .inr (6, [.ref ht, .int xn, .int ii])), (ht, .inl (cyC, 200, .inl xc)), (g, .inr (1, [.int z0, .int z1, .int z2, .int z3, .int z4, .ref gl, .ref gr])), (gl, .inr (4, [.int zx0, .int zx1, .int zx2])), (gr, .inr (4, [.int zy0, .int zy1, .int zy2]))]) (w1 := [(h, .inr (6, [.ref ht, .int xn, .int u_3_1])), (ht, .inl (cyC, 200, .inl xc)), (g, .inr (1, [.int u_3_2, .int u_3_3, .int u_3_4, .int u_3_5, .int u_3_6, .ref gl, .ref gr])), (gl, .inr (4, [.int u_3_7, .int u_3_8, .int u_3_9])), (gr, .inr (4, [.int u_3_10, .int u_3_11, .int u_3_12]))]) (ws' := [(h, .inr (6, [.ref ht, .int xn, .int u_3_1])), (ht, .inl (cyC, 200, .inl xc)), (g, .inr (1, [.int u_3_2, .int u_3_3, .int u_3_4, .int u_3_5, .int u_3_6, .ref gl, .ref gr])), (gl, .inr (4, [.int u_3_7, .int u_3_8, .int u_3_9])), (gr, .inr (4, [.int u_3_10, .int u_3_11, .int u_3_12]))]) (ad := [h, ht, g, gl, gr]) (wr := []) (nn := 5) (ci := 6) (q0 := 0) X Y (c_readItem l D cyC cyI h ht xn ii xc g z0 z1 z2 z3 z4 gl zx0 zx1 zx2 gr zy0 zy1 zy2 u_3_0 u_3_1 u_3_2 u_3_3 u_3_4 u_3_5 u_3_6 u_3_7 u_3_8 u_3_9 u_3_10 u_3_11 u_3_12 hr_3) gX6_readInto_X6_readItem rfl ⟨rfl, rfl⟩ hd_X6_readItem ⟨(Nat.le_of_ble_eq_true rfl), (Nat.le_of_ble_eq_true rfl)⟩ rfl rfl rfl [0, 1, 2, 3, 4] [] rfl rfl rfl rfl rfl rfl rfl rfl (by decide) rfl rfl hl.1 (Nat.le_of_ble_eq_true rfl) ⟨Nat.zero_le _, Nat.zero_le _⟩ dX6_readInto_36 (fun H locs Y => ?_)
        refine lv_if_ne (tgt := 44) hx hb dX6_readInto_39 (by decide) (fun c_4 => ?_) (fun c_4 => ?_)
        · have c_4 := bB_t c_4
          rw [if_pos c_4] at hu
          refine lv_iinc (v := nI (j + 1)) (lv' := [(2, .int (nI (j + 1))), (3, .int ii), (0, .ref h), (1, .ref g)]) hx hb dX6_readInto_44 hl (k := 3) rfl (nI_inc _) (by decide) rfl (fun ls hl => ?_)
          refine lv_goto (tgt := 11) hx hb dX6_readInto_47 (by decide) ?_
          exact ih (j + 1) u_3_1 u_3_2 u_3_3 u_3_4 u_3_5 u_3_6 u_3_7 u_3_8 u_3_9 u_3_10 u_3_11 u_3_12 (by omega) (by have := bNle (k := 200) rfl (by omega) (by decide) c_1; omega) hu _ _ _ (lv_sub hl [2, 3, 0] rfl) Y
        · have c_4 := bB_f c_4
          rw [if_neg c_4] at hu
          refine lv_iload_n hx hb dX6_readInto_42 rfl (lv_at hl 0 rfl) ?_
          have h9 := (Prod.mk.inj hu).1; replace hu := (Prod.mk.inj hu).2; subst h9
          have h9 := (Prod.mk.inj hu).1; replace hu := (Prod.mk.inj hu).2; subst h9
          have h9 := (Prod.mk.inj hu).1; replace hu := (Prod.mk.inj hu).2; subst h9
          have h9 := (Prod.mk.inj hu).1; replace hu := (Prod.mk.inj hu).2; subst h9
          have h9 := (Prod.mk.inj hu).1; replace hu := (Prod.mk.inj hu).2; subst h9
          have h9 := (Prod.mk.inj hu).1; replace hu := (Prod.mk.inj hu).2; subst h9
          have h9 := (Prod.mk.inj hu).1; replace hu := (Prod.mk.inj hu).2; subst h9
          have h9 := (Prod.mk.inj hu).1; replace hu := (Prod.mk.inj hu).2; subst h9
          have h9 := (Prod.mk.inj hu).1; replace hu := (Prod.mk.inj hu).2; subst h9
          have h9 := (Prod.mk.inj hu).1; replace hu := (Prod.mk.inj hu).2; subst h9
          have h9 := (Prod.mk.inj hu).1; replace hu := (Prod.mk.inj hu).2; subst h9
          have h9 := (Prod.mk.inj hu).1; replace hu := (Prod.mk.inj hu).2; subst h9
          subst hu
          exact bEndI X Y hr hlk dX6_readInto_43 rfl rfl
set_option maxHeartbeats 4000000 in
set_option maxRecDepth 100000 in
theorem c_readInto (l : Launch) (D : va_G) (cyC cyI : ClassId) (h : Nat) (ht : Nat) (xn : Int32) (xi : Int32) (xc : Nat → Int32) (g : Nat) (r0 : Int32) (r1 : Int32) (r2 : Int32) (r3 : Int32) (r4 : Int32) (gl : Nat) (rx0 : Int32) (rx1 : Int32) (rx2 : Int32) (gr : Nat) (ry0 : Int32) (ry1 : Int32) (ry2 : Int32) (o0 : Int32) (o1 : Int32) (o2 : Int32) (o3 : Int32) (o4 : Int32) (o5 : Int32) (o6 : Int32) (o7 : Int32) (o8 : Int32) (o9 : Int32) (o10 : Int32) (o11 : Int32) (o12 : Int32) (hu : s_readInto xn xc = (o0, o1, o2, o3, o4, o5, o6, o7, o8, o9, o10, o11, o12)) : CI l yX6_readInto wsX6_readInto { frames := 4, cells := 0, slots := 0, locals := 91 } D cyC cyI [.ref h, .ref g] [(h, .inr (6, [.ref ht, .int xn, .int xi])), (ht, .inl (cyC, 200, .inl xc)), (g, .inr (1, [.int r0, .int r1, .int r2, .int r3, .int r4, .ref gl, .ref gr])), (gl, .inr (4, [.int rx0, .int rx1, .int rx2])), (gr, .inr (4, [.int ry0, .int ry1, .int ry2]))] o0 [(h, .inr (6, [.ref ht, .int xn, .int o1])), (ht, .inl (cyC, 200, .inl xc)), (g, .inr (1, [.int o2, .int o3, .int o4, .int o5, .int o6, .ref gl, .ref gr])), (gl, .inr (4, [.int o7, .int o8, .int o9])), (gr, .inr (4, [.int o10, .int o11, .int o12]))] := by
  refine CI.of (cc := cX6_readInto) (n := 4) (ret := (some .int)) (by decide +kernel) rfl (Nat.le_of_ble_eq_true rfl) ?_
  intro p_ e_ s_ m_ bl_ me_ cd_ A_ ls X Y hr hlk hl
  have hx := X.1.1
  have hb := X.1.2.1
  have hl : lv_has ls 4 [(0, .ref h), (1, .ref g)] := hl
  unfold s_readInto at hu
  refine lv_aload_n hx hb dX6_readInto_0 rfl (lv_at hl 1 rfl) ?_
  refine bVV (As := []) (rest := []) (wc := [(g, .inr (1, [.int r0, .int r1, .int r2, .int r3, .int r4, .ref gl, .ref gr])), (gl, .inr (4, [.int rx0, .int rx1, .int rx2])), (gr, .inr (4, [.int ry0, .int ry1, .int ry2]))]) (w1 := [(g, .inr (1, [.int 600, .int 40, .int 2, .int 12, .int 6, .ref gl, .ref gr])), (gl, .inr (4, [.int 100, .int 30, .int 0])), (gr, .inr (4, [.int 500, .int 30, .int 0]))]) (ws' := [(h, .inr (6, [.ref ht, .int xn, .int xi])), (ht, .inl (cyC, 200, .inl xc)), (g, .inr (1, [.int 600, .int 40, .int 2, .int 12, .int 6, .ref gl, .ref gr])), (gl, .inr (4, [.int 100, .int 30, .int 0])), (gr, .inr (4, [.int 500, .int 30, .int 0]))]) (ad := [g, gl, gr]) (wr := [(h, .inr (6, [.ref ht, .int xn, .int xi])), (ht, .inl (cyC, 200, .inl xc))]) (nn := 5) (ci := 1) (q0 := 2) X Y (c_setUsual l D cyC cyI g r0 r1 r2 r3 r4 gl rx0 rx1 rx2 gr ry0 ry1 ry2) gX6_readInto_X1_setUsual rfl ⟨rfl, rfl⟩ hd_X1_setUsual ⟨(Nat.le_of_ble_eq_true rfl), (Nat.le_of_ble_eq_true rfl)⟩ rfl rfl rfl [2, 3, 4] [0, 1] rfl rfl rfl rfl rfl rfl rfl rfl (by decide) rfl rfl hl.1 (Nat.le_of_ble_eq_true rfl) ⟨Nat.zero_le _, Nat.zero_le _⟩ dX6_readInto_1 (fun H locs Y => ?_)
  refine lv_aload_n hx hb dX6_readInto_4 rfl (lv_at hl 0 rfl) ?_
  refine lv_iconst (v := 0) hx hb dX6_readInto_5 (by decide) ?_
  refine bPut (T := TX6) (N := 3) (ci := 6) (ws' := [(h, .inr (6, [.ref ht, .int xn, .int 0])), (ht, .inl (cyC, 200, .inl xc)), (g, .inr (1, [.int 600, .int 40, .int 2, .int 12, .int 6, .ref gl, .ref gr])), (gl, .inr (4, [.int 100, .int 30, .int 0])), (gr, .inr (4, [.int 500, .int 30, .int 0]))]) X Y i_X6_readInto_X6 tyX6 tyX6_ok nmX6 0 rfl rfl 2 (Nat.le_of_ble_eq_true rfl) f_X6_readInto_24 rfl rfl rfl rfl (Nat.le_of_ble_eq_true rfl) rfl dX6_readInto_6 (fun H locs Y => ?_)
  refine lv_iconst (v := 0) hx hb dX6_readInto_9 (by decide) ?_
  refine lv_istore_n (lv' := [(2, .int 0), (0, .ref h), (1, .ref g)]) hx hb dX6_readInto_10 rfl hl (by decide) rfl (fun ls hl => ?_)
  exact lp_readInto l D cyC cyI h ht xn xi xc g r0 r1 r2 r3 r4 gl rx0 rx1 rx2 gr ry0 ry1 ry2 o0 o1 o2 o3 o4 o5 o6 o7 o8 o9 o10 o11 o12 X hr hlk (201) 0 0 600 40 2 12 6 100 30 0 500 30 0 (by omega) (by omega) hu _ _ _ (lv_sub hl [1, 2, 0] rfl) Y
