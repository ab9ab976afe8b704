theorem i_X0_setSteps_X0 : ∀ w ∈ wsX00, w ∈ wsX0_setSteps := by decide +kernel
theorem f_X0_setSteps_49 : Cond.fieldLink RX0 49 "SwingCranes$Crane" "soonIn" "I" ∈ wsX0_setSteps := by decide +kernel
theorem f_X0_setSteps_52 : Cond.fieldLink RX0 52 "SwingCranes$Crane" "soonBy" "I" ∈ wsX0_setSteps := by decide +kernel
theorem f_X0_setSteps_55 : Cond.fieldLink RX0 55 "SwingCranes$Crane" "laterIn" "I" ∈ wsX0_setSteps := by decide +kernel
theorem f_X0_setSteps_58 : Cond.fieldLink RX0 58 "SwingCranes$Crane" "laterBy" "I" ∈ wsX0_setSteps := by decide +kernel
set_option maxHeartbeats 4000000 in
set_option maxRecDepth 100000 in
theorem c_setSteps (l : Launch) (D : va_G) (cyC cyI : ClassId) (h : Nat) (a0 : Int32) (a1 : Int32) (a2 : Int32) (a3 : Int32) (a4 : Int32) (a5 : Int32) (a6 : Int32) (a7 : Int32) (a8 : Int32) (a9 : Int32) (a10 : Int32) (a11 : Int32) (ab : Bool) (x : Int32) (y : Int32) (z : Int32) : CV l yX0_setSteps wsX0_setSteps { frames := 0, cells := 0, slots := 0, locals := 0 } D cyC cyI [.ref h, .int x, .int y, .int z] [(h, .inr (0, [.int a0, .int a1, .int a2, .int a3, .int a4, .int a5, .int a6, .int a7, .int a8, .int a9, .int a10, .int a11, .int (bB ab)]))] [(h, .inr (0, [.int a0, .int a1, .int a2, .int a3, .int a4, .int a5, .int a6, .int a7, .int 1, .int x, .int (1 + z), .int y, .int (bB ab)]))] := by
  refine CV.of (cc := cX0_setSteps) (n := 4) (ret := none) (by decide +kernel) rfl (Nat.le_of_ble_eq_true rfl) ?_
  intro p_ e_ s_ m_ bl_ me_ cd_ A_ ls X Y hr hlk hl
  have hx := X.1.1
  have hb := X.1.2.1
  have hl : lv_has ls 4 [(0, .ref h), (1, .int x), (2, .int y), (3, .int z)] := hl
  refine lv_aload_n hx hb dX0_setSteps_0 rfl (lv_at hl 0 rfl) ?_
  refine lv_iconst (v := 1) hx hb dX0_setSteps_1 (by decide) ?_
  refine bPut (T := TX0) (N := 13) (ci := 0) (ws' := [(h, .inr (0, [.int a0, .int a1, .int a2, .int a3, .int a4, .int a5, .int a6, .int a7, .int 1, .int a9, .int a10, .int a11, .int (bB ab)]))]) X Y i_X0_setSteps_X0 tyX0 tyX0_ok nmX0 0 rfl rfl 8 (Nat.le_of_ble_eq_true rfl) f_X0_setSteps_49 rfl rfl rfl rfl (Nat.le_of_ble_eq_true rfl) rfl dX0_setSteps_2 (fun H locs Y => ?_)
  refine lv_aload_n hx hb dX0_setSteps_5 rfl (lv_at hl 0 rfl) ?_
  refine lv_iload_n hx hb dX0_setSteps_6 rfl (lv_at hl 1 rfl) ?_
  refine bPut (T := TX0) (N := 13) (ci := 0) (ws' := [(h, .inr (0, [.int a0, .int a1, .int a2, .int a3, .int a4, .int a5, .int a6, .int a7, .int 1, .int x, .int a10, .int a11, .int (bB ab)]))]) X Y i_X0_setSteps_X0 tyX0 tyX0_ok nmX0 0 rfl rfl 9 (Nat.le_of_ble_eq_true rfl) f_X0_setSteps_52 rfl rfl rfl rfl (Nat.le_of_ble_eq_true rfl) rfl dX0_setSteps_7 (fun H locs Y => ?_)
  refine lv_aload_n hx hb dX0_setSteps_10 rfl (lv_at hl 0 rfl) ?_
  refine lv_iconst (v := 1) hx hb dX0_setSteps_11 (by decide) ?_
  refine lv_iload_n hx hb dX0_setSteps_12 rfl (lv_at hl 3 rfl) ?_
  refine bAdd (v := 1 + z) X dX0_setSteps_13 rfl ?_
  refine bPut (T := TX0) (N := 13) (ci := 0) (ws' := [(h, .inr (0, [.int a0, .int a1, .int a2, .int a3, .int a4, .int a5, .int a6, .int a7, .int 1, .int x, .int (1 + z), .int a11, .int (bB ab)]))]) X Y i_X0_setSteps_X0 tyX0 tyX0_ok nmX0 0 rfl rfl 10 (Nat.le_of_ble_eq_true rfl) f_X0_setSteps_55 rfl rfl rfl rfl (Nat.le_of_ble_eq_true rfl) rfl dX0_setSteps_14 (fun H locs Y => ?_)
  refine lv_aload_n hx hb dX0_setSteps_17 rfl (lv_at hl 0 rfl) ?_
  refine lv_iload_n hx hb dX0_setSteps_18 rfl (lv_at hl 2 rfl) ?_
  refine bPut (T := TX0) (N := 13) (ci := 0) (ws' := [(h, .inr (0, [.int a0, .int a1, .int a2, .int a3, .int a4, .int a5, .int a6, .int a7, .int 1, .int x, .int (1 + z), .int y, .int (bB ab)]))]) X Y i_X0_setSteps_X0 tyX0 tyX0_ok nmX0 0 rfl rfl 11 (Nat.le_of_ble_eq_true rfl) f_X0_setSteps_58 rfl rfl rfl rfl (Nat.le_of_ble_eq_true rfl) rfl dX0_setSteps_19 (fun H locs Y => ?_)
  exact bEndV X Y hr hlk dX0_setSteps_22 rfl
theorem i_X0_planAtOnce_X0 : ∀ w ∈ wsX00, w ∈ wsX0_planAtOnce := by decide +kernel
theorem f_X0_planAtOnce_35 : Cond.fieldLink RX0 35 "SwingCranes$Crane" "want" "I" ∈ wsX0_planAtOnce := by decide +kernel
theorem hd_X0_setSteps : bD1 yX0_setSteps RX0 3 := by decide +kernel
set_option maxHeartbeats 4000000 in
set_option maxRecDepth 100000 in
theorem c_planAtOnce (l : Launch) (D : va_G) (cyC cyI : ClassId) (h : Nat) (a0 : Int32) (a1 : Int32) (a2 : Int32) (a3 : Int32) (a4 : Int32) (a5 : Int32) (a6 : Int32) (a7 : Int32) (a8 : Int32) (a9 : Int32) (a10 : Int32) (a11 : Int32) (ab : Bool) (w : Int32) : CV l yX0_planAtOnce wsX0_planAtOnce { frames := 1, cells := 0, slots := 0, locals := 23 } D cyC cyI [.ref h, .int w] [(h, .inr (0, [.int a0, .int a1, .int a2, .int a3, .int a4, .int a5, .int a6, .int a7, .int a8, .int a9, .int a10, .int a11, .int (bB ab)]))] [(h, .inr (0, [.int a0, .int a1, .int a2, .int a3, .int a4, .int a5, .int a6, .int a7, .int 1, .int (w - a6), .int (1 + 0), .int 0, .int (bB ab)]))] := by
  refine CV.of (cc := cX0_planAtOnce) (n := 2) (ret := none) (by decide +kernel) rfl (Nat.le_of_ble_eq_true rfl) ?_
  intro p_ e_ s_ m_ bl_ me_ cd_ A_ ls X Y hr hlk hl
  have hx := X.1.1
  have hb := X.1.2.1
  have hl : lv_has ls 2 [(0, .ref h), (1, .int w)] := hl
  refine lv_aload_n hx hb dX0_planAtOnce_0 rfl (lv_at hl 0 rfl) ?_
  refine lv_iload_n hx hb dX0_planAtOnce_1 rfl (lv_at hl 1 rfl) ?_
  refine lv_aload_n hx hb dX0_planAtOnce_2 rfl (lv_at hl 0 rfl) ?_
  refine bGet (v := .int a6) (T := TX0) (N := 13) (ci := 0) X Y i_X0_planAtOnce_X0 0 rfl rfl 6 (Nat.le_of_ble_eq_true rfl) f_X0_planAtOnce_35 rfl rfl dX0_planAtOnce_3 ?_
  refine bSub (v := w - a6) X dX0_planAtOnce_6 rfl ?_
  refine lv_iconst (v := 0) hx hb dX0_planAtOnce_7 (by decide) ?_
  refine lv_iconst (v := 0) hx hb dX0_planAtOnce_8 (by decide) ?_
  refine bVV (As := [.int (w - a6), .int 0, .int 0]) (rest := []) (wc := [(h, .inr (0, [.int a0, .int a1, .int a2, .int a3, .int a4, .int a5, .int a6, .int a7, .int a8, .int a9, .int a10, .int a11, .int (bB ab)]))]) (w1 := [(h, .inr (0, [.int a0, .int a1, .int a2, .int a3, .int a4, .int a5, .int a6, .int a7, .int 1, .int (w - a6), .int (1 + 0), .int 0, .int (bB ab)]))]) (ws' := [(h, .inr (0, [.int a0, .int a1, .int a2, .int a3, .int a4, .int a5, .int a6, .int a7, .int 1, .int (w - a6), .int (1 + 0), .int 0, .int (bB ab)]))]) (ad := [h]) (wr := []) (nn := 1) (ci := 0) (q0 := 0) X Y (c_setSteps l D cyC cyI h a0 a1 a2 a3 a4 a5 a6 a7 a8 a9 a10 a11 ab (w - a6) 0 0) gX0_planAtOnce_X0_setSteps rfl ⟨rfl, rfl⟩ hd_X0_setSteps ⟨(Nat.le_of_ble_eq_true rfl), (Nat.le_of_ble_eq_true rfl)⟩ rfl rfl rfl [0] [] rfl rfl rfl rfl rfl rfl rfl rfl (by decide) rfl rfl hl.1 (Nat.le_of_ble_eq_true rfl) ⟨Nat.zero_le _, Nat.zero_le _⟩ dX0_planAtOnce_9 (fun H locs Y => ?_)
  exact bEndV X Y hr hlk dX0_planAtOnce_12 rfl
theorem i_X0_stepsToCome_X0 : ∀ w ∈ wsX00, w ∈ wsX0_stepsToCome := by decide +kernel
theorem f_X0_stepsToCome_52 : Cond.fieldLink RX0 52 "SwingCranes$Crane" "soonBy" "I" ∈ wsX0_stepsToCome := by decide +kernel
theorem f_X0_stepsToCome_58 : Cond.fieldLink RX0 58 "SwingCranes$Crane" "laterBy" "I" ∈ wsX0_stepsToCome := by decide +kernel
def s_stepsToCome (a9 : Int32) (a11 : Int32) : Int32 :=
  if a9 = 0 then
    if a11 = 0 then
      0
    else
      1
  else
    if a11 = 0 then
      1
    else
      2
set_option maxHeartbeats 4000000 in
set_option maxRecDepth 100000 in
theorem c_stepsToCome (l : Launch) (D : va_G) (cyC cyI : ClassId) (h : Nat) (a0 : Int32) (a1 : Int32) (a2 : Int32) (a3 : Int32) (a4 : Int32) (a5 : Int32) (a6 : Int32) (a7 : Int32) (a8 : Int32) (a9 : Int32) (a10 : Int32) (a11 : Int32) (ab : Bool) (o0 : Int32) (hu : s_stepsToCome a9 a11 = o0) : CI l yX0_stepsToCome wsX0_stepsToCome { frames := 0, cells := 0, slots := 0, locals := 0 } D cyC cyI [.ref h] [(h, .inr (0, [.int a0, .int a1, .int a2, .int a3, .int a4, .int a5, .int a6, .int a7, .int a8, .int a9, .int a10, .int a11, .int (bB ab)]))] o0 [(h, .inr (0, [.int a0, .int a1, .int a2, .int a3, .int a4, .int a5, .int a6, .int a7, .int a8, .int a9, .int a10, .int a11, .int (bB ab)]))] := by
  refine CI.of (cc := cX0_stepsToCome) (n := 1) (ret := (some .int)) (by decide +kernel) rfl (Nat.le_of_ble_eq_true rfl) ?_
  intro p_ e_ s_ m_ bl_ me_ cd_ A_ ls X Y hr hlk hl
  have hx := X.1.1
  have hb := X.1.2.1
  have hl : lv_has ls 1 [(0, .ref h)] := hl
  unfold s_stepsToCome at hu
  refine lv_aload_n hx hb dX0_stepsToCome_0 rfl (lv_at hl 0 rfl) ?_
  refine bGet (v := .int a9) (T := TX0) (N := 13) (ci := 0) X Y i_X0_stepsToCome_X0 0 rfl rfl 9 (Nat.le_of_ble_eq_true rfl) f_X0_stepsToCome_52 rfl rfl dX0_stepsToCome_1 ?_
  refine lv_if_eq (tgt := 11) hx hb dX0_stepsToCome_4 (by decide) (fun c_1 => ?_) (fun c_1 => ?_)
  · have c_1 : a9 = 0 := c_1
    rw [if_pos c_1] at hu
    refine lv_iconst (v := 0) hx hb dX0_stepsToCome_11 (by decide) ?_
    refine lv_aload_n hx hb dX0_stepsToCome_12 rfl (lv_at hl 0 rfl) ?_
    refine bGet (v := .int a11) (T := TX0) (N := 13) (ci := 0) X Y i_X0_stepsToCome_X0 0 rfl rfl 11 (Nat.le_of_ble_eq_true rfl) f_X0_stepsToCome_58 rfl rfl dX0_stepsToCome_13 ?_
    refine lv_if_eq (tgt := 23) hx hb dX0_stepsToCome_16 (by decide) (fun c_2 => ?_) (fun c_2 => ?_)
    · have c_2 : a11 = 0 := c_2
      rw [if_pos c_2] at hu
      refine lv_iconst (v := 0) hx hb dX0_stepsToCome_23 (by decide) ?_
      refine bAdd (v := 0) X dX0_stepsToCome_24 (by decide) ?_
      subst hu
      exact bEndI X Y hr hlk dX0_stepsToCome_25 rfl rfl
    · have c_2 : ¬ (a11 = 0) := c_2
      rw [if_neg c_2] at hu
      refine lv_iconst (v := 1) hx hb dX0_stepsToCome_19 (by decide) ?_
      refine lv_goto (tgt := 24) hx hb dX0_stepsToCome_20 (by decide) ?_
      refine bAdd (v := 1) X dX0_stepsToCome_24 (by decide) ?_
      subst hu
      exact bEndI X Y hr hlk dX0_stepsToCome_25 rfl rfl
  · have c_1 : ¬ (a9 = 0) := c_1
    rw [if_neg c_1] at hu
    refine lv_iconst (v := 1) hx hb dX0_stepsToCome_7 (by decide) ?_
    refine lv_goto (tgt := 12) hx hb dX0_stepsToCome_8 (by decide) ?_
    refine lv_aload_n hx hb dX0_stepsToCome_12 rfl (lv_at hl 0 rfl) ?_
    refine bGet (v := .int a11) (T := TX0) (N := 13) (ci := 0) X Y i_X0_stepsToCome_X0 0 rfl rfl 11 (Nat.le_of_ble_eq_true rfl) f_X0_stepsToCome_58 rfl rfl dX0_stepsToCome_13 ?_
    refine lv_if_eq (tgt := 23) hx hb dX0_stepsToCome_16 (by decide) (fun c_3 => ?_) (fun c_3 => ?_)
    · have c_3 : a11 = 0 := c_3
      rw [if_pos c_3] at hu
      refine lv_iconst (v := 0) hx hb dX0_stepsToCome_23 (by decide) ?_
      refine bAdd (v := 1) X dX0_stepsToCome_24 (by decide) ?_
      subst hu
      exact bEndI X Y hr hlk dX0_stepsToCome_25 rfl rfl
    · have c_3 : ¬ (a11 = 0) := c_3
      rw [if_neg c_3] at hu
      refine lv_iconst (v := 1) hx hb dX0_stepsToCome_19 (by decide) ?_
      refine lv_goto (tgt := 24) hx hb dX0_stepsToCome_20 (by decide) ?_
      refine bAdd (v := 2) X dX0_stepsToCome_24 (by decide) ?_
      subst hu
      exact bEndI X Y hr hlk dX0_stepsToCome_25 rfl rfl
theorem i_X0_isSoon_X0 : ∀ w ∈ wsX00, w ∈ wsX0_isSoon := by decide +kernel
theorem f_X0_isSoon_52 : Cond.fieldLink RX0 52 "SwingCranes$Crane" "soonBy" "I" ∈ wsX0_isSoon := by decide +kernel
def s_isSoon (a9 : Int32) (k : Int32) : Bool :=
  if k = 0 then
    if a9 = 0 then
      false
    else
      true
  else
    false
set_option maxHeartbeats 4000000 in
set_option maxRecDepth 100000 in
theorem c_isSoon (l : Launch) (D : va_G) (cyC cyI : ClassId) (h : Nat) (a0 : Int32) (a1 : Int32) (a2 : Int32) (a3 : Int32) (a4 : Int32) (a5 : Int32) (a6 : Int32) (a7 : Int32) (a8 : Int32) (a9 : Int32) (a10 : Int32) (a11 : Int32) (ab : Bool) (k : Int32) (o0 : Bool) (hu : s_isSoon a9 k = o0) : CI l yX0_isSoon wsX0_isSoon { frames := 0, cells := 0, slots := 0, locals := 0 } D cyC cyI [.ref h, .int k] [(h, .inr (0, [.int a0, .int a1, .int a2, .int a3, .int a4, .int a5, .int a6, .int a7, .int a8, .int a9, .int a10, .int a11, .int (bB ab)]))] (bB o0) [(h, .inr (0, [.int a0, .int a1, .int a2, .int a3, .int a4, .int a5, .int a6, .int a7, .int a8, .int a9, .int a10, .int a11, .int (bB ab)]))] := by
  refine CI.of (cc := cX0_isSoon) (n := 2) (ret := (some .boolean)) (by decide +kernel) rfl (Nat.le_of_ble_eq_true rfl) ?_
  intro p_ e_ s_ m_ bl_ me_ cd_ A_ ls X Y hr hlk hl
  have hx := X.1.1
  have hb := X.1.2.1
  have hl : lv_has ls 2 [(0, .ref h), (1, .int k)] := hl
  unfold s_isSoon at hu
  refine lv_iload_n hx hb dX0_isSoon_0 rfl (lv_at hl 1 rfl) ?_
  refine lv_if_ne (tgt := 15) hx hb dX0_isSoon_1 (by decide) (fun c_1 => ?_) (fun c_1 => ?_)
  · have c_1 : ¬ (k = 0) := c_1
    rw [if_neg c_1] at hu
    refine lv_iconst (v := 0) hx hb dX0_isSoon_15 (by decide) ?_
    subst hu
    exact bEndZ X Y hr hlk dX0_isSoon_16 rfl rfl rfl
  · have c_1 : k = 0 := c_1
    rw [if_pos c_1] at hu
    refine lv_aload_n hx hb dX0_isSoon_4 rfl (lv_at hl 0 rfl) ?_
    refine bGet (v := .int a9) (T := TX0) (N := 13) (ci := 0) X Y i_X0_isSoon_X0 0 rfl rfl 9 (Nat.le_of_ble_eq_true rfl) f_X0_isSoon_52 rfl rfl dX0_isSoon_5 ?_
    refine lv_if_eq (tgt := 15) hx hb dX0_isSoon_8 (by decide) (fun c_2 => ?_) (fun c_2 => ?_)
    · have c_2 : a9 = 0 := c_2
      rw [if_pos c_2] at hu
      refine lv_iconst (v := 0) hx hb dX0_isSoon_15 (by decide) ?_
      subst hu
      exact bEndZ X Y hr hlk dX0_isSoon_16 rfl rfl rfl
    · have c_2 : ¬ (a9 = 0) := c_2
      rw [if_neg c_2] at hu
      refine lv_iconst (v := 1) hx hb dX0_isSoon_11 (by decide) ?_
      refine lv_goto (tgt := 16) hx hb dX0_isSoon_12 (by decide) ?_
      subst hu
      exact bEndZ X Y hr hlk dX0_isSoon_16 rfl rfl rfl
theorem hd_X0_isSoon : bD1 yX0_isSoon RX0 1 := by decide +kernel
theorem i_X0_stepIn_X0 : ∀ w ∈ wsX00, w ∈ wsX0_stepIn := by decide +kernel
theorem f_X0_stepIn_55 : Cond.fieldLink RX0 55 "SwingCranes$Crane" "laterIn" "I" ∈ wsX0_stepIn := by decide +kernel
theorem f_X0_stepIn_49 : Cond.fieldLink RX0 49 "SwingCranes$Crane" "soonIn" "I" ∈ wsX0_stepIn := by decide +kernel
def s_stepIn (a8 : Int32) (a9 : Int32) (a10 : Int32) (k : Int32) : Int32 :=
  if (s_isSoon a9 k) = true then
    a8
  else
    a10
set_option maxHeartbeats 4000000 in
set_option maxRecDepth 100000 in
theorem c_stepIn (l : Launch) (D : va_G) (cyC cyI : ClassId) (h : Nat) (a0 : Int32) (a1 : Int32) (a2 : Int32) (a3 : Int32) (a4 : Int32) (a5 : Int32) (a6 : Int32) (a7 : Int32) (a8 : Int32) (a9 : Int32) (a10 : Int32) (a11 : Int32) (ab : Bool) (k : Int32) (o0 : Int32) (hu : s_stepIn a8 a9 a10 k = o0) : CI l yX0_stepIn wsX0_stepIn { frames := 1, cells := 0, slots := 0, locals := 21 } D cyC cyI [.ref h, .int k] [(h, .inr (0, [.int a0, .int a1, .int a2, .int a3, .int a4, .int a5, .int a6, .int a7, .int a8, .int a9, .int a10, .int a11, .int (bB ab)]))] o0 [(h, .inr (0, [.int a0, .int a1, .int a2, .int a3, .int a4, .int a5, .int a6, .int a7, .int a8, .int a9, .int a10, .int a11, .int (bB ab)]))] := by
  refine CI.of (cc := cX0_stepIn) (n := 2) (ret := (some .int)) (by decide +kernel) rfl (Nat.le_of_ble_eq_true rfl) ?_
  intro p_ e_ s_ m_ bl_ me_ cd_ A_ ls X Y hr hlk hl
  have hx := X.1.1
  have hb := X.1.2.1
  have hl : lv_has ls 2 [(0, .ref h), (1, .int k)] := hl
  unfold s_stepIn at hu
  refine lv_aload_n hx hb dX0_stepIn_0 rfl (lv_at hl 0 rfl) ?_
  refine lv_iload_n hx hb dX0_stepIn_1 rfl (lv_at hl 1 rfl) ?_
  refine bVI0 (As := [.int k]) (rest := []) (wc := [(h, .inr (0, [.int a0, .int a1, .int a2, .int a3, .int a4, .int a5, .int a6, .int a7, .int a8, .int a9, .int a10, .int a11, .int (bB ab)]))]) (ci := 0) (q0 := 0) X Y (c_isSoon l D cyC cyI h a0 a1 a2 a3 a4 a5 a6 a7 a8 a9 a10 a11 ab k (s_isSoon a9 k) rfl) gX0_stepIn_X0_isSoon rfl ⟨rfl, rfl⟩ hd_X0_isSoon ⟨(Nat.le_of_ble_eq_true rfl), (Nat.le_of_ble_eq_true rfl)⟩ rfl rfl rfl [0] rfl rfl rfl rfl hl.1 (Nat.le_of_ble_eq_true rfl) ⟨Nat.zero_le _, Nat.zero_le _⟩ dX0_stepIn_2 (fun H locs Y => ?_)
  refine lv_if_eq (tgt := 15) hx hb dX0_stepIn_5 (by decide) (fun c_1 => ?_) (fun c_1 => ?_)
  · have c_1 := bB_f c_1
    rw [if_neg c_1] at hu
    refine lv_aload_n hx hb dX0_stepIn_15 rfl (lv_at hl 0 rfl) ?_
    refine bGet (v := .int a10) (T := TX0) (N := 13) (ci := 0) X Y i_X0_stepIn_X0 0 rfl rfl 10 (Nat.le_of_ble_eq_true rfl) f_X0_stepIn_55 rfl rfl dX0_stepIn_16 ?_
    subst hu
    exact bEndI X Y hr hlk dX0_stepIn_19 rfl rfl
  · have c_1 := bB_t c_1
    rw [if_pos c_1] at hu
    refine lv_aload_n hx hb dX0_stepIn_8 rfl (lv_at hl 0 rfl) ?_
    refine bGet (v := .int a8) (T := TX0) (N := 13) (ci := 0) X Y i_X0_stepIn_X0 0 rfl rfl 8 (Nat.le_of_ble_eq_true rfl) f_X0_stepIn_49 rfl rfl dX0_stepIn_9 ?_
    refine lv_goto (tgt := 19) hx hb dX0_stepIn_12 (by decide) ?_
    subst hu
    exact bEndI X Y hr hlk dX0_stepIn_19 rfl rfl
theorem i_X0_stepBy_X0 : ∀ w ∈ wsX00, w ∈ wsX0_stepBy := by decide +kernel
theorem f_X0_stepBy_58 : Cond.fieldLink RX0 58 "SwingCranes$Crane" "laterBy" "I" ∈ wsX0_stepBy := by decide +kernel
theorem f_X0_stepBy_52 : Cond.fieldLink RX0 52 "SwingCranes$Crane" "soonBy" "I" ∈ wsX0_stepBy := by decide +kernel
def s_stepBy (a9 : Int32) (a11 : Int32) (k : Int32) : Int32 :=
  if (s_isSoon a9 k) = true then
    a9
  else
    a11
set_option maxHeartbeats 4000000 in
set_option maxRecDepth 100000 in
theorem c_stepBy (l : Launch) (D : va_G) (cyC cyI : ClassId) (h : Nat) (a0 : Int32) (a1 : Int32) (a2 : Int32) (a3 : Int32) (a4 : Int32) (a5 : Int32) (a6 : Int32) (a7 : Int32) (a8 : Int32) (a9 : Int32) (a10 : Int32) (a11 : Int32) (ab : Bool) (k : Int32) (o0 : Int32) (hu : s_stepBy a9 a11 k = o0) : CI l yX0_stepBy wsX0_stepBy { frames := 1, cells := 0, slots := 0, locals := 21 } D cyC cyI [.ref h, .int k] [(h, .inr (0, [.int a0, .int a1, .int a2, .int a3, .int a4, .int a5, .int a6, .int a7, .int a8, .int a9, .int a10, .int a11, .int (bB ab)]))] o0 [(h, .inr (0, [.int a0, .int a1, .int a2, .int a3, .int a4, .int a5, .int a6, .int a7, .int a8, .int a9, .int a10, .int a11, .int (bB ab)]))] := by
  refine CI.of (cc := cX0_stepBy) (n := 2) (ret := (some .int)) (by decide +kernel) rfl (Nat.le_of_ble_eq_true rfl) ?_
  intro p_ e_ s_ m_ bl_ me_ cd_ A_ ls X Y hr hlk hl
  have hx := X.1.1
  have hb := X.1.2.1
  have hl : lv_has ls 2 [(0, .ref h), (1, .int k)] := hl
  unfold s_stepBy at hu
  refine lv_aload_n hx hb dX0_stepBy_0 rfl (lv_at hl 0 rfl) ?_
  refine lv_iload_n hx hb dX0_stepBy_1 rfl (lv_at hl 1 rfl) ?_
  refine bVI0 (As := [.int k]) (rest := []) (wc := [(h, .inr (0, [.int a0, .int a1, .int a2, .int a3, .int a4, .int a5, .int a6, .int a7, .int a8, .int a9, .int a10, .int a11, .int (bB ab)]))]) (ci := 0) (q0 := 0) X Y (c_isSoon l D cyC cyI h a0 a1 a2 a3 a4 a5 a6 a7 a8 a9 a10 a11 ab k (s_isSoon a9 k) rfl) gX0_stepBy_X0_isSoon rfl ⟨rfl, rfl⟩ hd_X0_isSoon ⟨(Nat.le_of_ble_eq_true rfl), (Nat.le_of_ble_eq_true rfl)⟩ rfl rfl rfl [0] rfl rfl rfl rfl hl.1 (Nat.le_of_ble_eq_true rfl) ⟨Nat.zero_le _, Nat.zero_le _⟩ dX0_stepBy_2 (fun H locs Y => ?_)
  refine lv_if_eq (tgt := 15) hx hb dX0_stepBy_5 (by decide) (fun c_1 => ?_) (fun c_1 => ?_)
  · have c_1 := bB_f c_1
    rw [if_neg c_1] at hu
    refine lv_aload_n hx hb dX0_stepBy_15 rfl (lv_at hl 0 rfl) ?_
    refine bGet (v := .int a11) (T := TX0) (N := 13) (ci := 0) X Y i_X0_stepBy_X0 0 rfl rfl 11 (Nat.le_of_ble_eq_true rfl) f_X0_stepBy_58 rfl rfl dX0_stepBy_16 ?_
    subst hu
    exact bEndI X Y hr hlk dX0_stepBy_19 rfl rfl
  · have c_1 := bB_t c_1
    rw [if_pos c_1] at hu
    refine lv_aload_n hx hb dX0_stepBy_8 rfl (lv_at hl 0 rfl) ?_
    refine bGet (v := .int a9) (T := TX0) (N := 13) (ci := 0) X Y i_X0_stepBy_X0 0 rfl rfl 9 (Nat.le_of_ble_eq_true rfl) f_X0_stepBy_52 rfl rfl dX0_stepBy_9 ?_
    refine lv_goto (tgt := 19) hx hb dX0_stepBy_12 (by decide) ?_
    subst hu
    exact bEndI X Y hr hlk dX0_stepBy_19 rfl rfl
theorem i_X0_limit_X1 : ∀ w ∈ wsX10, w ∈ wsX0_limit := by decide +kernel
theorem f_X0_limit_69 : Cond.fieldLink RX0 69 "SwingCranes$Layout" "top" "I" ∈ wsX0_limit := by decide +kernel
theorem i_X0_limit_X0 : ∀ w ∈ wsX00, w ∈ wsX0_limit := by decide +kernel
theorem f_X0_limit_28 : Cond.fieldLink RX0 28 "SwingCranes$Crane" "load" "I" ∈ wsX0_limit := by decide +kernel
theorem m_X0_limit_74 : Cond.methodLink RX0 74 Lib.Math.max.name ∈ wsX0_limit := by decide +kernel
theorem ms_X0_limit_max : Cond.static Lib.Math.max.name ∈ wsX0_limit := by decide +kernel
theorem mi_X0_limit : Cond.initialized "java/lang/Math" ∈ wsX0_limit := by decide +kernel
theorem mc_X0_limit_max : Cond.code Lib.Math.max.name Lib.Math.max.code 2 (some .int) ∈ wsX0_limit := by decide +kernel
def s_limit (a3 : Int32) (r3 : Int32) : Int32 :=
  (if 1 < (r3 - (a3 / 10)) then (r3 - (a3 / 10)) else 1)
set_option maxHeartbeats 4000000 in
set_option maxRecDepth 100000 in
theorem c_limit (l : Launch) (D : va_G) (cyC cyI : ClassId) (h : Nat) (a0 : Int32) (a1 : Int32) (a2 : Int32) (a3 : Int32) (a4 : Int32) (a5 : Int32) (a6 : Int32) (a7 : Int32) (a8 : Int32) (a9 : Int32) (a10 : Int32) (a11 : Int32) (ab : Bool) (g : Nat) (gl : Nat) (gr : Nat) (r0 : Int32) (r1 : Int32) (r2 : Int32) (r3 : Int32) (r4 : Int32) (o0 : Int32) (hu : s_limit a3 r3 = o0) : CI l yX0_limit wsX0_limit { frames := 1, cells := 0, slots := 0, locals := 13 } D cyC cyI [.ref h, .ref g] [(h, .inr (0, [.int a0, .int a1, .int a2, .int a3, .int a4, .int a5, .int a6, .int a7, .int a8, .int a9, .int a10, .int a11, .int (bB ab)])), (g, .inr (1, [.int r0, .int r1, .int r2, .int r3, .int r4, .ref gl, .ref gr]))] o0 [(h, .inr (0, [.int a0, .int a1, .int a2, .int a3, .int a4, .int a5, .int a6, .int a7, .int a8, .int a9, .int a10, .int a11, .int (bB ab)])), (g, .inr (1, [.int r0, .int r1, .int r2, .int r3, .int r4, .ref gl, .ref gr]))] := by
  refine CI.of (cc := cX0_limit) (n := 2) (ret := (some .int)) (by decide +kernel) rfl (Nat.le_of_ble_eq_true rfl) ?_
  intro p_ e_ s_ m_ bl_ me_ cd_ A_ ls X Y hr hlk hl
  have hx := X.1.1
  have hb := X.1.2.1
  have hl : lv_has ls 2 [(0, .ref h), (1, .ref g)] := hl
  unfold s_limit at hu
  refine lv_iconst (v := 1) hx hb dX0_limit_0 (by decide) ?_
  refine lv_aload_n hx hb dX0_limit_1 rfl (lv_at hl 1 rfl) ?_
  refine bGet (v := .int r3) (T := TX1) (N := 7) (ci := 1) X Y i_X0_limit_X1 1 rfl rfl 3 (Nat.le_of_ble_eq_true rfl) f_X0_limit_69 rfl rfl dX0_limit_2 ?_
  refine lv_aload_n hx hb dX0_limit_5 rfl (lv_at hl 0 rfl) ?_
  refine bGet (v := .int a3) (T := TX0) (N := 13) (ci := 0) X Y i_X0_limit_X0 0 rfl rfl 3 (Nat.le_of_ble_eq_true rfl) f_X0_limit_28 rfl rfl dX0_limit_6 ?_
  refine lv_bipush (v := 10) hx hb dX0_limit_9 (by decide) ?_
  refine bDiv (v := a3 / 10) X dX0_limit_11 (by decide) rfl ?_
  refine bSub (v := r3 - (a3 / 10)) X dX0_limit_12 rfl ?_
  refine bMax (v := (if 1 < (r3 - (a3 / 10)) then (r3 - (a3 / 10)) else 1)) X hl.1 m_X0_limit_74 ms_X0_limit_max mi_X0_limit mc_X0_limit_max (Nat.le_of_ble_eq_true rfl) (Nat.le_of_ble_eq_true rfl) ⟨Nat.zero_le _, Nat.zero_le _⟩ dX0_limit_13 rfl ?_
  subst hu
  exact bEndI X Y hr hlk dX0_limit_16 rfl rfl
theorem i_X0_isQuiet_X0 : ∀ w ∈ wsX00, w ∈ wsX0_isQuiet := by decide +kernel
theorem f_X0_isQuiet_18 : Cond.fieldLink RX0 18 "SwingCranes$Crane" "speed" "I" ∈ wsX0_isQuiet := by decide +kernel
theorem f_X0_isQuiet_35 : Cond.fieldLink RX0 35 "SwingCranes$Crane" "want" "I" ∈ wsX0_isQuiet := by decide +kernel
theorem hd_X0_stepsToCome : bD1 yX0_stepsToCome RX0 0 := by decide +kernel
theorem f_X0_isQuiet_29 : Cond.fieldLink RX0 29 "SwingCranes$Crane" "swing" "I" ∈ wsX0_isQuiet := by decide +kernel
theorem m_X0_isQuiet_84 : Cond.methodLink RX0 84 Lib.Math.abs.name ∈ wsX0_isQuiet := by decide +kernel
theorem ms_X0_isQuiet_abs : Cond.static Lib.Math.abs.name ∈ wsX0_isQuiet := by decide +kernel
theorem mi_X0_isQuiet : Cond.initialized "java/lang/Math" ∈ wsX0_isQuiet := by decide +kernel
theorem mc_X0_isQuiet_abs : Cond.code Lib.Math.abs.name Lib.Math.abs.code 1 (some .int) ∈ wsX0_isQuiet := by decide +kernel
theorem f_X0_isQuiet_32 : Cond.fieldLink RX0 32 "SwingCranes$Crane" "rate" "I" ∈ wsX0_isQuiet := by decide +kernel
def s_isQuiet (a1 : Int32) (a4 : Int32) (a5 : Int32) (a6 : Int32) (a9 : Int32) (a11 : Int32) : Bool :=
  if a1 = 0 then
    if a6 = 0 then
      if (s_stepsToCome a9 a11) = 0 then
        if 3 < (if 0 ≤ a4 then a4 else 0 - a4) then
          false
        else
          if 2 < (if 0 ≤ a5 then a5 else 0 - a5) then
            false
          else
            true
      else
        false
    else
      false
  else
    false
set_option maxHeartbeats 4000000 in
set_option maxRecDepth 100000 in
theorem c_isQuiet (l : Launch) (D : va_G) (cyC cyI : ClassId) (h : Nat) (a0 : Int32) (a1 : Int32) (a2 : Int32) (a3 : Int32) (a4 : Int32) (a5 : Int32) (a6 : Int32) (a7 : Int32) (a8 : Int32) (a9 : Int32) (a10 : Int32) (a11 : Int32) (ab : Bool) (o0 : Bool) (hu : s_isQuiet a1 a4 a5 a6 a9 a11 = o0) : CI l yX0_isQuiet wsX0_isQuiet { frames := 1, cells := 0, slots := 0, locals := 20 } D cyC cyI [.ref h] [(h, .inr (0, [.int a0, .int a1, .int a2, .int a3, .int a4, .int a5, .int a6, .int a7, .int a8, .int a9, .int a10, .int a11, .int (bB ab)]))] (bB o0) [(h, .inr (0, [.int a0, .int a1, .int a2, .int a3, .int a4, .int a5, .int a6, .int a7, .int a8, .int a9, .int a10, .int a11, .int (bB ab)]))] := by
  refine CI.of (cc := cX0_isQuiet) (n := 1) (ret := (some .boolean)) (by decide +kernel) rfl (Nat.le_of_ble_eq_true rfl) ?_
  intro p_ e_ s_ m_ bl_ me_ cd_ A_ ls X Y hr hlk hl
  have hx := X.1.1
  have hb := X.1.2.1
  have hl : lv_has ls 1 [(0, .ref h)] := hl
  unfold s_isQuiet at hu
  refine lv_aload_n hx hb dX0_isQuiet_0 rfl (lv_at hl 0 rfl) ?_
  refine bGet (v := .int a1) (T := TX0) (N := 13) (ci := 0) X Y i_X0_isQuiet_X0 0 rfl rfl 1 (Nat.le_of_ble_eq_true rfl) f_X0_isQuiet_18 rfl rfl dX0_isQuiet_1 ?_
  refine lv_if_ne (tgt := 47) hx hb dX0_isQuiet_4 (by decide) (fun c_1 => ?_) (fun c_1 => ?_)
  · have c_1 : ¬ (a1 = 0) := c_1
    rw [if_neg c_1] at hu
    refine lv_iconst (v := 0) hx hb dX0_isQuiet_47 (by decide) ?_
    subst hu
    exact bEndZ X Y hr hlk dX0_isQuiet_48 rfl rfl rfl
  · have c_1 : a1 = 0 := c_1
    rw [if_pos c_1] at hu
    refine lv_aload_n hx hb dX0_isQuiet_7 rfl (lv_at hl 0 rfl) ?_
    refine bGet (v := .int a6) (T := TX0) (N := 13) (ci := 0) X Y i_X0_isQuiet_X0 0 rfl rfl 6 (Nat.le_of_ble_eq_true rfl) f_X0_isQuiet_35 rfl rfl dX0_isQuiet_8 ?_
    refine lv_if_ne (tgt := 47) hx hb dX0_isQuiet_11 (by decide) (fun c_2 => ?_) (fun c_2 => ?_)
    · have c_2 : ¬ (a6 = 0) := c_2
      rw [if_neg c_2] at hu
      refine lv_iconst (v := 0) hx hb dX0_isQuiet_47 (by decide) ?_
      subst hu
      exact bEndZ X Y hr hlk dX0_isQuiet_48 rfl rfl rfl
    · have c_2 : a6 = 0 := c_2
      rw [if_pos c_2] at hu
      refine lv_aload_n hx hb dX0_isQuiet_14 rfl (lv_at hl 0 rfl) ?_
      refine bVI0 (As := []) (rest := []) (wc := [(h, .inr (0, [.int a0, .int a1, .int a2, .int a3, .int a4, .int a5, .int a6, .int a7, .int a8, .int a9, .int a10, .int a11, .int (bB ab)]))]) (ci := 0) (q0 := 0) X Y (c_stepsToCome l D cyC cyI h a0 a1 a2 a3 a4 a5 a6 a7 a8 a9 a10 a11 ab (s_stepsToCome a9 a11) rfl) gX0_isQuiet_X0_stepsToCome rfl ⟨rfl, rfl⟩ hd_X0_stepsToCome ⟨(Nat.le_of_ble_eq_true rfl), (Nat.le_of_ble_eq_true rfl)⟩ rfl rfl rfl [0] rfl rfl rfl rfl hl.1 (Nat.le_of_ble_eq_true rfl) ⟨Nat.zero_le _, Nat.zero_le _⟩ dX0_isQuiet_15 (fun H locs Y => ?_)
      refine lv_if_ne (tgt := 47) hx hb dX0_isQuiet_18 (by decide) (fun c_3 => ?_) (fun c_3 => ?_)
      · have c_3 : ¬ ((s_stepsToCome a9 a11) = 0) := c_3
        rw [if_neg c_3] at hu
        refine lv_iconst (v := 0) hx hb dX0_isQuiet_47 (by decide) ?_
        subst hu
        exact bEndZ X Y hr hlk dX0_isQuiet_48 rfl rfl rfl
      · have c_3 : (s_stepsToCome a9 a11) = 0 := c_3
        rw [if_pos c_3] at hu
        refine lv_aload_n hx hb dX0_isQuiet_21 rfl (lv_at hl 0 rfl) ?_
        refine bGet (v := .int a4) (T := TX0) (N := 13) (ci := 0) X Y i_X0_isQuiet_X0 0 rfl rfl 4 (Nat.le_of_ble_eq_true rfl) f_X0_isQuiet_29 rfl rfl dX0_isQuiet_22 ?_
        refine bAbs (v := (if 0 ≤ a4 then a4 else 0 - a4)) X hl.1 m_X0_isQuiet_84 ms_X0_isQuiet_abs mi_X0_isQuiet mc_X0_isQuiet_abs (Nat.le_of_ble_eq_true rfl) (Nat.le_of_ble_eq_true rfl) ⟨Nat.zero_le _, Nat.zero_le _⟩ dX0_isQuiet_25 rfl ?_
        refine lv_iconst (v := 3) hx hb dX0_isQuiet_28 (by decide) ?_
        refine lv_icmp_gt (tgt := 47) hx hb dX0_isQuiet_29 (by decide) (fun c_4 => ?_) (fun c_4 => ?_)
        · have c_4 : 3 < (if 0 ≤ a4 then a4 else 0 - a4) := c_4
          rw [if_pos c_4] at hu
          refine lv_iconst (v := 0) hx hb dX0_isQuiet_47 (by decide) ?_
          subst hu
          exact bEndZ X Y hr hlk dX0_isQuiet_48 rfl rfl rfl
        · have c_4 : ¬ (3 < (if 0 ≤ a4 then a4 else 0 - a4)) := c_4
          rw [if_neg c_4] at hu
          refine lv_aload_n hx hb dX0_isQuiet_32 rfl (lv_at hl 0 rfl) ?_
          refine bGet (v := .int a5) (T := TX0) (N := 13) (ci := 0) X Y i_X0_isQuiet_X0 0 rfl rfl 5 (Nat.le_of_ble_eq_true rfl) f_X0_isQuiet_32 rfl rfl dX0_isQuiet_33 ?_
          refine bAbs (v := (if 0 ≤ a5 then a5 else 0 - a5)) X hl.1 m_X0_isQuiet_84 ms_X0_isQuiet_abs mi_X0_isQuiet mc_X0_isQuiet_abs (Nat.le_of_ble_eq_true rfl) (Nat.le_of_ble_eq_true rfl) ⟨Nat.zero_le _, Nat.zero_le _⟩ dX0_isQuiet_36 rfl ?_
          refine lv_iconst (v := 2) hx hb dX0_isQuiet_39 (by decide) ?_
          refine lv_icmp_gt (tgt := 47) hx hb dX0_isQuiet_40 (by decide) (fun c_5 => ?_) (fun c_5 => ?_)
          · have c_5 : 2 < (if 0 ≤ a5 then a5 else 0 - a5) := c_5
            rw [if_pos c_5] at hu
            refine lv_iconst (v := 0) hx hb dX0_isQuiet_47 (by decide) ?_
            subst hu
            exact bEndZ X Y hr hlk dX0_isQuiet_48 rfl rfl rfl
          · have c_5 : ¬ (2 < (if 0 ≤ a5 then a5 else 0 - a5)) := c_5
            rw [if_neg c_5] at hu
            refine lv_iconst (v := 1) hx hb dX0_isQuiet_43 (by decide) ?_
            refine lv_goto (tgt := 48) hx hb dX0_isQuiet_44 (by decide) ?_
            subst hu
            exact bEndZ X Y hr hlk dX0_isQuiet_48 rfl rfl rfl
theorem i_X0_takeSteps_X0 : ∀ w ∈ wsX00, w ∈ wsX0_takeSteps := by decide +kernel
theorem f_X0_takeSteps_49 : Cond.fieldLink RX0 49 "SwingCranes$Crane" "soonIn" "I" ∈ wsX0_takeSteps := by decide +kernel
theorem f_X0_takeSteps_55 : Cond.fieldLink RX0 55 "SwingCranes$Crane" "laterIn" "I" ∈ wsX0_takeSteps := by decide +kernel
theorem f_X0_takeSteps_52 : Cond.fieldLink RX0 52 "SwingCranes$Crane" "soonBy" "I" ∈ wsX0_takeSteps := by decide +kernel
theorem f_X0_takeSteps_58 : Cond.fieldLink RX0 58 "SwingCranes$Crane" "laterBy" "I" ∈ wsX0_takeSteps := by decide +kernel
theorem f_X0_takeSteps_35 : Cond.fieldLink RX0 35 "SwingCranes$Crane" "want" "I" ∈ wsX0_takeSteps := by decide +kernel
def s_takeSteps (a6 : Int32) (a8 : Int32) (a9 : Int32) (a10 : Int32) (a11 : Int32) : Int32 × Int32 × Int32 :=
  if a9 = 0 then
    if a11 = 0 then
      (a6, a9, a11)
    else
      if 1 ≤ a10 - 1 then
        (a6, a9, a11)
      else
        (a6 + a11, a9, 0)
  else
    if 1 ≤ a8 - 1 then
      if a11 = 0 then
        (a6, a9, a11)
      else
        if 1 ≤ a10 - 1 then
          (a6, a9, a11)
        else
          (a6 + a11, a9, 0)
    else
      if a11 = 0 then
        (a6 + a9, 0, a11)
      else
        if 1 ≤ a10 - 1 then
          (a6 + a9, 0, a11)
        else
          ((a6 + a9) + a11, 0, 0)
set_option maxHeartbeats 4000000 in
set_option maxRecDepth 100000 in
theorem c_takeSteps (l : Launch) (D : va_G) (cyC cyI : ClassId) (h : Nat) (a0 : Int32) (a1 : Int32) (a2 : Int32) (a3 : Int32) (a4 : Int32) (a5 : Int32) (a6 : Int32) (a7 : Int32) (a8 : Int32) (a9 : Int32) (a10 : Int32) (a11 : Int32) (ab : Bool) (o0 : Int32) (o1 : Int32) (o2 : Int32) (hu : s_takeSteps a6 a8 a9 a10 a11 = (o0, o1, o2)) : CV l yX0_takeSteps wsX0_takeSteps { frames := 0, cells := 0, slots := 0, locals := 0 } D cyC cyI [.ref h] [(h, .inr (0, [.int a0, .int a1, .int a2, .int a3, .int a4, .int a5, .int a6, .int a7, .int a8, .int a9, .int a10, .int a11, .int (bB ab)]))] [(h, .inr (0, [.int a0, .int a1, .int a2, .int a3, .int a4, .int a5, .int o0, .int a7, .int (a8 - 1), .int o1, .int (a10 - 1), .int o2, .int (bB ab)]))] := by
  refine CV.of (cc := cX0_takeSteps) (n := 1) (ret := none) (by decide +kernel) rfl (Nat.le_of_ble_eq_true rfl) ?_
  intro p_ e_ s_ m_ bl_ me_ cd_ A_ ls X Y hr hlk hl
  have hx := X.1.1
  have hb := X.1.2.1
  have hl : lv_has ls 1 [(0, .ref h)] := hl
  unfold s_takeSteps at hu
  refine lv_aload_n hx hb dX0_takeSteps_0 rfl (lv_at hl 0 rfl) ?_
  refine lv_dup hx hb dX0_takeSteps_1 rfl ?_
  refine bGet (v := .int a8) (T := TX0) (N := 13) (ci := 0) X Y i_X0_takeSteps_X0 0 rfl rfl 8 (Nat.le_of_ble_eq_true rfl) f_X0_takeSteps_49 rfl rfl dX0_takeSteps_2 ?_
  refine lv_iconst (v := 1) hx hb dX0_takeSteps_5 (by decide) ?_
  refine bSub (v := a8 - 1) X dX0_takeSteps_6 rfl ?_
  refine bPut (T := TX0) (N := 13) (ci := 0) (ws' := [(h, .inr (0, [.int a0, .int a1, .int a2, .int a3, .int a4, .int a5, .int a6, .int a7, .int (a8 - 1), .int a9, .int a10, .int a11, .int (bB ab)]))]) X Y i_X0_takeSteps_X0 tyX0 tyX0_ok nmX0 0 rfl rfl 8 (Nat.le_of_ble_eq_true rfl) f_X0_takeSteps_49 rfl rfl rfl rfl (Nat.le_of_ble_eq_true rfl) rfl dX0_takeSteps_7 (fun H locs Y => ?_)
  refine lv_aload_n hx hb dX0_takeSteps_10 rfl (lv_at hl 0 rfl) ?_
  refine lv_dup hx hb dX0_takeSteps_11 rfl ?_
  refine bGet (v := .int a10) (T := TX0) (N := 13) (ci := 0) X Y i_X0_takeSteps_X0 0 rfl rfl 10 (Nat.le_of_ble_eq_true rfl) f_X0_takeSteps_55 rfl rfl dX0_takeSteps_12 ?_
  refine lv_iconst (v := 1) hx hb dX0_takeSteps_15 (by decide) ?_
  refine bSub (v := a10 - 1) X dX0_takeSteps_16 rfl ?_
  refine bPut (T := TX0) (N := 13) (ci := 0) (ws' := [(h, .inr (0, [.int a0, .int a1, .int a2, .int a3, .int a4, .int a5, .int a6, .int a7, .int (a8 - 1), .int a9, .int (a10 - 1), .int a11, .int (bB ab)]))]) X Y i_X0_takeSteps_X0 tyX0 tyX0_ok nmX0 0 rfl rfl 10 (Nat.le_of_ble_eq_true rfl) f_X0_takeSteps_55 rfl rfl rfl rfl (Nat.le_of_ble_eq_true rfl) rfl dX0_takeSteps_17 (fun H locs Y => ?_)
  refine lv_aload_n hx hb dX0_takeSteps_20 rfl (lv_at hl 0 rfl) ?_
  refine bGet (v := .int a9) (T := TX0) (N := 13) (ci := 0) X Y i_X0_takeSteps_X0 0 rfl rfl 9 (Nat.le_of_ble_eq_true rfl) f_X0_takeSteps_52 rfl rfl dX0_takeSteps_21 ?_
  refine lv_if_eq (tgt := 53) hx hb dX0_takeSteps_24 (by decide) (fun c_1 => ?_) (fun c_1 => ?_)
  · have c_1 : a9 = 0 := c_1
    rw [if_pos c_1] at hu
    refine lv_aload_n hx hb dX0_takeSteps_53 rfl (lv_at hl 0 rfl) ?_
    refine bGet (v := .int a11) (T := TX0) (N := 13) (ci := 0) X Y i_X0_takeSteps_X0 0 rfl rfl 11 (Nat.le_of_ble_eq_true rfl) f_X0_takeSteps_58 rfl rfl dX0_takeSteps_54 ?_
    refine lv_if_eq (tgt := 86) hx hb dX0_takeSteps_57 (by decide) (fun c_2 => ?_) (fun c_2 => ?_)
    · have c_2 : a11 = 0 := c_2
      rw [if_pos c_2] at hu
      have h9 := (Prod.mk.inj hu).1; replace hu := (Prod.mk.inj hu).2; subst h9
      have h9 := (Prod.mk.inj hu).1; replace hu := (Prod.mk.inj hu).2; subst h9
      subst hu
      exact bEndV X Y hr hlk dX0_takeSteps_86 rfl
    · have c_2 : ¬ (a11 = 0) := c_2
      rw [if_neg c_2] at hu
      refine lv_aload_n hx hb dX0_takeSteps_60 rfl (lv_at hl 0 rfl) ?_
      refine bGet (v := .int (a10 - 1)) (T := TX0) (N := 13) (ci := 0) X Y i_X0_takeSteps_X0 0 rfl rfl 10 (Nat.le_of_ble_eq_true rfl) f_X0_takeSteps_55 rfl rfl dX0_takeSteps_61 ?_
      refine lv_iconst (v := 1) hx hb dX0_takeSteps_64 (by decide) ?_
      refine lv_icmp_ge (tgt := 86) hx hb dX0_takeSteps_65 (by decide) (fun c_3 => ?_) (fun c_3 => ?_)
      · have c_3 : 1 ≤ a10 - 1 := c_3
        rw [if_pos c_3] at hu
        have h9 := (Prod.mk.inj hu).1; replace hu := (Prod.mk.inj hu).2; subst h9
        have h9 := (Prod.mk.inj hu).1; replace hu := (Prod.mk.inj hu).2; subst h9
        subst hu
        exact bEndV X Y hr hlk dX0_takeSteps_86 rfl
      · have c_3 : ¬ (1 ≤ a10 - 1) := c_3
        rw [if_neg c_3] at hu
        refine lv_aload_n hx hb dX0_takeSteps_68 rfl (lv_at hl 0 rfl) ?_
        refine lv_dup hx hb dX0_takeSteps_69 rfl ?_
        refine bGet (v := .int a6) (T := TX0) (N := 13) (ci := 0) X Y i_X0_takeSteps_X0 0 rfl rfl 6 (Nat.le_of_ble_eq_true rfl) f_X0_takeSteps_35 rfl rfl dX0_takeSteps_70 ?_
        refine lv_aload_n hx hb dX0_takeSteps_73 rfl (lv_at hl 0 rfl) ?_
        refine bGet (v := .int a11) (T := TX0) (N := 13) (ci := 0) X Y i_X0_takeSteps_X0 0 rfl rfl 11 (Nat.le_of_ble_eq_true rfl) f_X0_takeSteps_58 rfl rfl dX0_takeSteps_74 ?_
        refine bAdd (v := a6 + a11) X dX0_takeSteps_77 rfl ?_
        refine bPut (T := TX0) (N := 13) (ci := 0) (ws' := [(h, .inr (0, [.int a0, .int a1, .int a2, .int a3, .int a4, .int a5, .int (a6 + a11), .int a7, .int (a8 - 1), .int a9, .int (a10 - 1), .int a11, .int (bB ab)]))]) X Y i_X0_takeSteps_X0 tyX0 tyX0_ok nmX0 0 rfl rfl 6 (Nat.le_of_ble_eq_true rfl) f_X0_takeSteps_35 rfl rfl rfl rfl (Nat.le_of_ble_eq_true rfl) rfl dX0_takeSteps_78 (fun H locs Y => ?_)
        refine lv_aload_n hx hb dX0_takeSteps_81 rfl (lv_at hl 0 rfl) ?_
        refine lv_iconst (v := 0) hx hb dX0_takeSteps_82 (by decide) ?_
        refine bPut (T := TX0) (N := 13) (ci := 0) (ws' := [(h, .inr (0, [.int a0, .int a1, .int a2, .int a3, .int a4, .int a5, .int (a6 + a11), .int a7, .int (a8 - 1), .int a9, .int (a10 - 1), .int 0, .int (bB ab)]))]) X Y i_X0_takeSteps_X0 tyX0 tyX0_ok nmX0 0 rfl rfl 11 (Nat.le_of_ble_eq_true rfl) f_X0_takeSteps_58 rfl rfl rfl rfl (Nat.le_of_ble_eq_true rfl) rfl dX0_takeSteps_83 (fun H locs Y => ?_)
        have h9 := (Prod.mk.inj hu).1; replace hu := (Prod.mk.inj hu).2; subst h9
        have h9 := (Prod.mk.inj hu).1; replace hu := (Prod.mk.inj hu).2; subst h9
        subst hu
        exact bEndV X Y hr hlk dX0_takeSteps_86 rfl
  · have c_1 : ¬ (a9 = 0) := c_1
    rw [if_neg c_1] at hu
    refine lv_aload_n hx hb dX0_takeSteps_27 rfl (lv_at hl 0 rfl) ?_
    refine bGet (v := .int (a8 - 1)) (T := TX0) (N := 13) (ci := 0) X Y i_X0_takeSteps_X0 0 rfl rfl 8 (Nat.le_of_ble_eq_true rfl) f_X0_takeSteps_49 rfl rfl dX0_takeSteps_28 ?_
    refine lv_iconst (v := 1) hx hb dX0_takeSteps_31 (by decide) ?_
    refine lv_icmp_ge (tgt := 53) hx hb dX0_takeSteps_32 (by decide) (fun c_4 => ?_) (fun c_4 => ?_)
    · have c_4 : 1 ≤ a8 - 1 := c_4
      rw [if_pos c_4] at hu
      refine lv_aload_n hx hb dX0_takeSteps_53 rfl (lv_at hl 0 rfl) ?_
      refine bGet (v := .int a11) (T := TX0) (N := 13) (ci := 0) X Y i_X0_takeSteps_X0 0 rfl rfl 11 (Nat.le_of_ble_eq_true rfl) f_X0_takeSteps_58 rfl rfl dX0_takeSteps_54 ?_
      refine lv_if_eq (tgt := 86) hx hb dX0_takeSteps_57 (by decide) (fun c_5 => ?_) (fun c_5 => ?_)
      · have c_5 : a11 = 0 := c_5
        rw [if_pos c_5] at hu
        have h9 := (Prod.mk.inj hu).1; replace hu := (Prod.mk.inj hu).2; subst h9
        have h9 := (Prod.mk.inj hu).1; replace hu := (Prod.mk.inj hu).2; subst h9
        subst hu
        exact bEndV X Y hr hlk dX0_takeSteps_86 rfl
      · have c_5 : ¬ (a11 = 0) := c_5
        rw [if_neg c_5] at hu
        refine lv_aload_n hx hb dX0_takeSteps_60 rfl (lv_at hl 0 rfl) ?_
        refine bGet (v := .int (a10 - 1)) (T := TX0) (N := 13) (ci := 0) X Y i_X0_takeSteps_X0 0 rfl rfl 10 (Nat.le_of_ble_eq_true rfl) f_X0_takeSteps_55 rfl rfl dX0_takeSteps_61 ?_
        refine lv_iconst (v := 1) hx hb dX0_takeSteps_64 (by decide) ?_
        refine lv_icmp_ge (tgt := 86) hx hb dX0_takeSteps_65 (by decide) (fun c_6 => ?_) (fun c_6 => ?_)
        · have c_6 : 1 ≤ a10 - 1 := c_6
          rw [if_pos c_6] at hu
          have h9 := (Prod.mk.inj hu).1; replace hu := (Prod.mk.inj hu).2; subst h9
          have h9 := (Prod.mk.inj hu).1; replace hu := (Prod.mk.inj hu).2; subst h9
          subst hu
          exact bEndV X Y hr hlk dX0_takeSteps_86 rfl
        · have c_6 : ¬ (1 ≤ a10 - 1) := c_6
          rw [if_neg c_6] at hu
          refine lv_aload_n hx hb dX0_takeSteps_68 rfl (lv_at hl 0 rfl) ?_
          refine lv_dup hx hb dX0_takeSteps_69 rfl ?_
          refine bGet (v := .int a6) (T := TX0) (N := 13) (ci := 0) X Y i_X0_takeSteps_X0 0 rfl rfl 6 (Nat.le_of_ble_eq_true rfl) f_X0_takeSteps_35 rfl rfl dX0_takeSteps_70 ?_
          refine lv_aload_n hx hb dX0_takeSteps_73 rfl (lv_at hl 0 rfl) ?_
          refine bGet (v := .int a11) (T := TX0) (N := 13) (ci := 0) X Y i_X0_takeSteps_X0 0 rfl rfl 11 (Nat.le_of_ble_eq_true rfl) f_X0_takeSteps_58 rfl rfl dX0_takeSteps_74 ?_
          refine bAdd (v := a6 + a11) X dX0_takeSteps_77 rfl ?_
          refine bPut (T := TX0) (N := 13) (ci := 0) (ws' := [(h, .inr (0, [.int a0, .int a1, .int a2, .int a3, .int a4, .int a5, .int (a6 + a11), .int a7, .int (a8 - 1), .int a9, .int (a10 - 1), .int a11, .int (bB ab)]))]) X Y i_X0_takeSteps_X0 tyX0 tyX0_ok nmX0 0 rfl rfl 6 (Nat.le_of_ble_eq_true rfl) f_X0_takeSteps_35 rfl rfl rfl rfl (Nat.le_of_ble_eq_true rfl) rfl dX0_takeSteps_78 (fun H locs Y => ?_)
          refine lv_aload_n hx hb dX0_takeSteps_81 rfl (lv_at hl 0 rfl) ?_
          refine lv_iconst (v := 0) hx hb dX0_takeSteps_82 (by decide) ?_
          refine bPut (T := TX0) (N := 13) (ci := 0) (ws' := [(h, .inr (0, [.int a0, .int a1, .int a2, .int a3, .int a4, .int a5, .int (a6 + a11), .int a7, .int (a8 - 1), .int a9, .int (a10 - 1), .int 0, .int (bB ab)]))]) X Y i_X0_takeSteps_X0 tyX0 tyX0_ok nmX0 0 rfl rfl 11 (Nat.le_of_ble_eq_true rfl) f_X0_takeSteps_58 rfl rfl rfl rfl (Nat.le_of_ble_eq_true rfl) rfl dX0_takeSteps_83 (fun H locs Y => ?_)
          have h9 := (Prod.mk.inj hu).1; replace hu := (Prod.mk.inj hu).2; subst h9
          have h9 := (Prod.mk.inj hu).1; replace hu := (Prod.mk.inj hu).2; subst h9
          subst hu
          exact bEndV X Y hr hlk dX0_takeSteps_86 rfl
    · have c_4 : ¬ (1 ≤ a8 - 1) := c_4
      rw [if_neg c_4] at hu
      refine lv_aload_n hx hb dX0_takeSteps_35 rfl (lv_at hl 0 rfl) ?_
      refine lv_dup hx hb dX0_takeSteps_36 rfl ?_
      refine bGet (v := .int a6) (T := TX0) (N := 13) (ci := 0) X Y i_X0_takeSteps_X0 0 rfl rfl 6 (Nat.le_of_ble_eq_true rfl) f_X0_takeSteps_35 rfl rfl dX0_takeSteps_37 ?_
      refine lv_aload_n hx hb dX0_takeSteps_40 rfl (lv_at hl 0 rfl) ?_
      refine bGet (v := .int a9) (T := TX0) (N := 13) (ci := 0) X Y i_X0_takeSteps_X0 0 rfl rfl 9 (Nat.le_of_ble_eq_true rfl) f_X0_takeSteps_52 rfl rfl dX0_takeSteps_41 ?_
      refine bAdd (v := a6 + a9) X dX0_takeSteps_44 rfl ?_
      refine bPut (T := TX0) (N := 13) (ci := 0) (ws' := [(h, .inr (0, [.int a0, .int a1, .int a2, .int a3, .int a4, .int a5, .int (a6 + a9), .int a7, .int (a8 - 1), .int a9, .int (a10 - 1), .int a11, .int (bB ab)]))]) X Y i_X0_takeSteps_X0 tyX0 tyX0_ok nmX0 0 rfl rfl 6 (Nat.le_of_ble_eq_true rfl) f_X0_takeSteps_35 rfl rfl rfl rfl (Nat.le_of_ble_eq_true rfl) rfl dX0_takeSteps_45 (fun H locs Y => ?_)
      refine lv_aload_n hx hb dX0_takeSteps_48 rfl (lv_at hl 0 rfl) ?_
      refine lv_iconst (v := 0) hx hb dX0_takeSteps_49 (by decide) ?_
      refine bPut (T := TX0) (N := 13) (ci := 0) (ws' := [(h, .inr (0, [.int a0, .int a1, .int a2, .int a3, .int a4, .int a5, .int (a6 + a9), .int a7, .int (a8 - 1), .int 0, .int (a10 - 1), .int a11, .int (bB ab)]))]) X Y i_X0_takeSteps_X0 tyX0 tyX0_ok nmX0 0 rfl rfl 9 (Nat.le_of_ble_eq_true rfl) f_X0_takeSteps_52 rfl rfl rfl rfl (Nat.le_of_ble_eq_true rfl) rfl dX0_takeSteps_50 (fun H locs Y => ?_)
      refine lv_aload_n hx hb dX0_takeSteps_53 rfl (lv_at hl 0 rfl) ?_
      refine bGet (v := .int a11) (T := TX0) (N := 13) (ci := 0) X Y i_X0_takeSteps_X0 0 rfl rfl 11 (Nat.le_of_ble_eq_true rfl) f_X0_takeSteps_58 rfl rfl dX0_takeSteps_54 ?_
      refine lv_if_eq (tgt := 86) hx hb dX0_takeSteps_57 (by decide) (fun c_7 => ?_) (fun c_7 => ?_)
      · have c_7 : a11 = 0 := c_7
        rw [if_pos c_7] at hu
        have h9 := (Prod.mk.inj hu).1; replace hu := (Prod.mk.inj hu).2; subst h9
        have h9 := (Prod.mk.inj hu).1; replace hu := (Prod.mk.inj hu).2; subst h9
        subst hu
        exact bEndV X Y hr hlk dX0_takeSteps_86 rfl
      · have c_7 : ¬ (a11 = 0) := c_7
        rw [if_neg c_7] at hu
        refine lv_aload_n hx hb dX0_takeSteps_60 rfl (lv_at hl 0 rfl) ?_
        refine bGet (v := .int (a10 - 1)) (T := TX0) (N := 13) (ci := 0) X Y i_X0_takeSteps_X0 0 rfl rfl 10 (Nat.le_of_ble_eq_true rfl) f_X0_takeSteps_55 rfl rfl dX0_takeSteps_61 ?_
        refine lv_iconst (v := 1) hx hb dX0_takeSteps_64 (by decide) ?_
        refine lv_icmp_ge (tgt := 86) hx hb dX0_takeSteps_65 (by decide) (fun c_8 => ?_) (fun c_8 => ?_)
        · have c_8 : 1 ≤ a10 - 1 := c_8
          rw [if_pos c_8] at hu
          have h9 := (Prod.mk.inj hu).1; replace hu := (Prod.mk.inj hu).2; subst h9
          have h9 := (Prod.mk.inj hu).1; replace hu := (Prod.mk.inj hu).2; subst h9
          subst hu
          exact bEndV X Y hr hlk dX0_takeSteps_86 rfl
        · have c_8 : ¬ (1 ≤ a10 - 1) := c_8
          rw [if_neg c_8] at hu
          refine lv_aload_n hx hb dX0_takeSteps_68 rfl (lv_at hl 0 rfl) ?_
          refine lv_dup hx hb dX0_takeSteps_69 rfl ?_
          refine bGet (v := .int (a6 + a9)) (T := TX0) (N := 13) (ci := 0) X Y i_X0_takeSteps_X0 0 rfl rfl 6 (Nat.le_of_ble_eq_true rfl) f_X0_takeSteps_35 rfl rfl dX0_takeSteps_70 ?_
          refine lv_aload_n hx hb dX0_takeSteps_73 rfl (lv_at hl 0 rfl) ?_
          refine bGet (v := .int a11) (T := TX0) (N := 13) (ci := 0) X Y i_X0_takeSteps_X0 0 rfl rfl 11 (Nat.le_of_ble_eq_true rfl) f_X0_takeSteps_58 rfl rfl dX0_takeSteps_74 ?_
          refine bAdd (v := (a6 + a9) + a11) X dX0_takeSteps_77 rfl ?_
          refine bPut (T := TX0) (N := 13) (ci := 0) (ws' := [(h, .inr (0, [.int a0, .int a1, .int a2, .int a3, .int a4, .int a5, .int ((a6 + a9) + a11), .int a7, .int (a8 - 1), .int 0, .int (a10 - 1), .int a11, .int (bB ab)]))]) X Y i_X0_takeSteps_X0 tyX0 tyX0_ok nmX0 0 rfl rfl 6 (Nat.le_of_ble_eq_true rfl) f_X0_takeSteps_35 rfl rfl rfl rfl (Nat.le_of_ble_eq_true rfl) rfl dX0_takeSteps_78 (fun H locs Y => ?_)
          refine lv_aload_n hx hb dX0_takeSteps_81 rfl (lv_at hl 0 rfl) ?_
          refine lv_iconst (v := 0) hx hb dX0_takeSteps_82 (by decide) ?_
          refine bPut (T := TX0) (N := 13) (ci := 0) (ws' := [(h, .inr (0, [.int a0, .int a1, .int a2, .int a3, .int a4, .int a5, .int ((a6 + a9) + a11), .int a7, .int (a8 - 1), .int 0, .int (a10 - 1), .int 0, .int (bB ab)]))]) X Y i_X0_takeSteps_X0 tyX0 tyX0_ok nmX0 0 rfl rfl 11 (Nat.le_of_ble_eq_true rfl) f_X0_takeSteps_58 rfl rfl rfl rfl (Nat.le_of_ble_eq_true rfl) rfl dX0_takeSteps_83 (fun H locs Y => ?_)
          have h9 := (Prod.mk.inj hu).1; replace hu := (Prod.mk.inj hu).2; subst h9
          have h9 := (Prod.mk.inj hu).1; replace hu := (Prod.mk.inj hu).2; subst h9
          subst hu
          exact bEndV X Y hr hlk dX0_takeSteps_86 rfl
theorem i_X0_speedNearerToWant_X0 : ∀ w ∈ wsX00, w ∈ wsX0_speedNearerToWant := by decide +kernel
theorem f_X0_speedNearerToWant_35 : Cond.fieldLink RX0 35 "SwingCranes$Crane" "want" "I" ∈ wsX0_speedNearerToWant := by decide +kernel
theorem hd_X0_limit : bD1 yX0_limit RX0 1 := by decide +kernel
theorem hd_X7_keptWithin : bD1 yX7_keptWithin RX7 2 := by decide +kernel
theorem ni_X0_speedNearerToWant_X7 : Cond.initialized RX7 ∈ wsX0_speedNearerToWant := by decide +kernel
theorem ns_X0_speedNearerToWant_X7_keptWithin : Cond.static yX7_keptWithin ∈ wsX0_speedNearerToWant := by decide +kernel
theorem f_X0_speedNearerToWant_18 : Cond.fieldLink RX0 18 "SwingCranes$Crane" "speed" "I" ∈ wsX0_speedNearerToWant := by decide +kernel
theorem i_X0_speedNearerToWant_X1 : ∀ w ∈ wsX10, w ∈ wsX0_speedNearerToWant := by decide +kernel
theorem f_X0_speedNearerToWant_94 : Cond.fieldLink RX0 94 "SwingCranes$Layout" "change" "I" ∈ wsX0_speedNearerToWant := by decide +kernel
def s_speedNearerToWant (a1 : Int32) (a3 : Int32) (a6 : Int32) (r2 : Int32) (r3 : Int32) : Int32 :=
  a1 + (s_keptWithin ((s_keptWithin a6 (s_limit a3 r3)) - a1) r2)
set_option maxHeartbeats 4000000 in
set_option maxRecDepth 100000 in
theorem c_speedNearerToWant (l : Launch) (D : va_G) (cyC cyI : ClassId) (h : Nat) (a0 : Int32) (a1 : Int32) (a2 : Int32) (a3 : Int32) (a4 : Int32) (a5 : Int32) (a6 : Int32) (a7 : Int32) (a8 : Int32) (a9 : Int32) (a10 : Int32) (a11 : Int32) (ab : Bool) (g : Nat) (gl : Nat) (gr : Nat) (r0 : Int32) (r1 : Int32) (r2 : Int32) (r3 : Int32) (r4 : Int32) (o0 : Int32) (hu : s_speedNearerToWant a1 a3 a6 r2 r3 = o0) : CI l yX0_speedNearerToWant wsX0_speedNearerToWant { frames := 2, cells := 0, slots := 0, locals := 35 } D cyC cyI [.ref h, .ref g] [(h, .inr (0, [.int a0, .int a1, .int a2, .int a3, .int a4, .int a5, .int a6, .int a7, .int a8, .int a9, .int a10, .int a11, .int (bB ab)])), (g, .inr (1, [.int r0, .int r1, .int r2, .int r3, .int r4, .ref gl, .ref gr]))] o0 [(h, .inr (0, [.int a0, .int a1, .int a2, .int a3, .int a4, .int a5, .int a6, .int a7, .int a8, .int a9, .int a10, .int a11, .int (bB ab)])), (g, .inr (1, [.int r0, .int r1, .int r2, .int r3, .int r4, .ref gl, .ref gr]))] := by
  refine CI.of (cc := cX0_speedNearerToWant) (n := 3) (ret := (some .int)) (by decide +kernel) rfl (Nat.le_of_ble_eq_true rfl) ?_
  intro p_ e_ s_ m_ bl_ me_ cd_ A_ ls X Y hr hlk hl
  have hx := X.1.1
  have hb := X.1.2.1
  have hl : lv_has ls 3 [(0, .ref h), (1, .ref g)] := hl
  unfold s_speedNearerToWant at hu
  refine lv_aload_n hx hb dX0_speedNearerToWant_0 rfl (lv_at hl 0 rfl) ?_
  refine bGet (v := .int a6) (T := TX0) (N := 13) (ci := 0) X Y i_X0_speedNearerToWant_X0 0 rfl rfl 6 (Nat.le_of_ble_eq_true rfl) f_X0_speedNearerToWant_35 rfl rfl dX0_speedNearerToWant_1 ?_
  refine lv_aload_n hx hb dX0_speedNearerToWant_4 rfl (lv_at hl 0 rfl) ?_
  refine lv_aload_n hx hb dX0_speedNearerToWant_5 rfl (lv_at hl 1 rfl) ?_
  refine bVI0 (As := [.ref g]) (rest := [.int a6]) (wc := [(h, .inr (0, [.int a0, .int a1, .int a2, .int a3, .int a4, .int a5, .int a6, .int a7, .int a8, .int a9, .int a10, .int a11, .int (bB ab)])), (g, .inr (1, [.int r0, .int r1, .int r2, .int r3, .int r4, .ref gl, .ref gr]))]) (ci := 0) (q0 := 0) X Y (c_limit l D cyC cyI h a0 a1 a2 a3 a4 a5 a6 a7 a8 a9 a10 a11 ab g gl gr r0 r1 r2 r3 r4 (s_limit a3 r3) rfl) gX0_speedNearerToWant_X0_limit rfl ⟨rfl, rfl⟩ hd_X0_limit ⟨(Nat.le_of_ble_eq_true rfl), (Nat.le_of_ble_eq_true rfl)⟩ rfl rfl rfl [0, 1] rfl rfl rfl rfl hl.1 (Nat.le_of_ble_eq_true rfl) ⟨Nat.zero_le _, Nat.zero_le _⟩ dX0_speedNearerToWant_6 (fun H locs Y => ?_)
  refine bNI (host := RX7) (As := [.int a6, .int (s_limit a3 r3)]) (rest := []) X Y (c_keptWithin l D cyC cyI a6 (s_limit a3 r3) (s_keptWithin a6 (s_limit a3 r3)) rfl) gX0_speedNearerToWant_X7_keptWithin_n111 rfl ⟨rfl, rfl⟩ hd_X7_keptWithin.2 ⟨(Nat.le_of_ble_eq_true rfl), (Nat.le_of_ble_eq_true rfl)⟩ 3 rfl ni_X0_speedNearerToWant_X7 ns_X0_speedNearerToWant_X7_keptWithin rfl rfl hl.1 (Nat.le_of_ble_eq_true rfl) ⟨Nat.zero_le _, Nat.zero_le _⟩ dX0_speedNearerToWant_9 (fun H locs Y => ?_)
  refine lv_istore_n (lv' := [(2, .int (s_keptWithin a6 (s_limit a3 r3))), (0, .ref h), (1, .ref g)]) hx hb dX0_speedNearerToWant_12 rfl hl (by decide) rfl (fun ls hl => ?_)
  refine lv_aload_n hx hb dX0_speedNearerToWant_13 rfl (lv_at hl 1 rfl) ?_
  refine bGet (v := .int a1) (T := TX0) (N := 13) (ci := 0) X Y i_X0_speedNearerToWant_X0 0 rfl rfl 1 (Nat.le_of_ble_eq_true rfl) f_X0_speedNearerToWant_18 rfl rfl dX0_speedNearerToWant_14 ?_
  refine lv_iload_n hx hb dX0_speedNearerToWant_17 rfl (lv_at hl 0 rfl) ?_
  refine lv_aload_n hx hb dX0_speedNearerToWant_18 rfl (lv_at hl 1 rfl) ?_
  refine bGet (v := .int a1) (T := TX0) (N := 13) (ci := 0) X Y i_X0_speedNearerToWant_X0 0 rfl rfl 1 (Nat.le_of_ble_eq_true rfl) f_X0_speedNearerToWant_18 rfl rfl dX0_speedNearerToWant_19 ?_
  refine bSub (v := (s_keptWithin a6 (s_limit a3 r3)) - a1) X dX0_speedNearerToWant_22 rfl ?_
  refine lv_aload_n hx hb dX0_speedNearerToWant_23 rfl (lv_at hl 2 rfl) ?_
  refine bGet (v := .int r2) (T := TX1) (N := 7) (ci := 1) X Y i_X0_speedNearerToWant_X1 1 rfl rfl 2 (Nat.le_of_ble_eq_true rfl) f_X0_speedNearerToWant_94 rfl rfl dX0_speedNearerToWant_24 ?_
  refine bNI (host := RX7) (As := [.int ((s_keptWithin a6 (s_limit a3 r3)) - a1), .int r2]) (rest := [.int a1]) X Y (c_keptWithin l D cyC cyI ((s_keptWithin a6 (s_limit a3 r3)) - a1) r2 (s_keptWithin ((s_keptWithin a6 (s_limit a3 r3)) - a1) r2) rfl) gX0_speedNearerToWant_X7_keptWithin_n111 rfl ⟨rfl, rfl⟩ hd_X7_keptWithin.2 ⟨(Nat.le_of_ble_eq_true rfl), (Nat.le_of_ble_eq_true rfl)⟩ 3 rfl ni_X0_speedNearerToWant_X7 ns_X0_speedNearerToWant_X7_keptWithin rfl rfl hl.1 (Nat.le_of_ble_eq_true rfl) ⟨Nat.zero_le _, Nat.zero_le _⟩ dX0_speedNearerToWant_27 (fun H locs Y => ?_)
  refine bAdd (v := a1 + (s_keptWithin ((s_keptWithin a6 (s_limit a3 r3)) - a1) r2)) X dX0_speedNearerToWant_30 rfl ?_
  subst hu
  exact bEndI X Y hr hlk dX0_speedNearerToWant_31 rfl rfl
theorem i_X0_swingOut_X0 : ∀ w ∈ wsX00, w ∈ wsX0_swingOut := by decide +kernel
theorem f_X0_swingOut_24 : Cond.fieldLink RX0 24 "SwingCranes$Crane" "rope" "I" ∈ wsX0_swingOut := by decide +kernel
theorem f_X0_swingOut_32 : Cond.fieldLink RX0 32 "SwingCranes$Crane" "rate" "I" ∈ wsX0_swingOut := by decide +kernel
theorem ni_X0_swingOut_X7 : Cond.initialized RX7 ∈ wsX0_swingOut := by decide +kernel
theorem ns_X0_swingOut_X7_keptWithin : Cond.static yX7_keptWithin ∈ wsX0_swingOut := by decide +kernel
theorem f_X0_swingOut_29 : Cond.fieldLink RX0 29 "SwingCranes$Crane" "swing" "I" ∈ wsX0_swingOut := by decide +kernel
def s_swingOut (a2 : Int32) (a4 : Int32) (a5 : Int32) (d : Int32) : Int32 × Int32 :=
  if a2 ≤ 0 then
    ((s_keptWithin (a4 + (s_keptWithin ((a5 - 0) - (4 * d)) 9999)) 9999), (s_keptWithin ((a5 - 0) - (4 * d)) 9999))
  else
    ((s_keptWithin (a4 + (s_keptWithin ((a5 - ((16 * a4) / a2)) - (4 * d)) 9999)) 9999), (s_keptWithin ((a5 - ((16 * a4) / a2)) - (4 * d)) 9999))
set_option maxHeartbeats 4000000 in
set_option maxRecDepth 100000 in
theorem c_swingOut (l : Launch) (D : va_G) (cyC cyI : ClassId) (h : Nat) (a0 : Int32) (a1 : Int32) (a2 : Int32) (a3 : Int32) (a4 : Int32) (a5 : Int32) (a6 : Int32) (a7 : Int32) (a8 : Int32) (a9 : Int32) (a10 : Int32) (a11 : Int32) (ab : Bool) (d : Int32) (o0 : Int32) (o1 : Int32) (hu : s_swingOut a2 a4 a5 d = (o0, o1)) : CV l yX0_swingOut wsX0_swingOut { frames := 2, cells := 0, slots := 0, locals := 35 } D cyC cyI [.ref h, .int d] [(h, .inr (0, [.int a0, .int a1, .int a2, .int a3, .int a4, .int a5, .int a6, .int a7, .int a8, .int a9, .int a10, .int a11, .int (bB ab)]))] [(h, .inr (0, [.int a0, .int a1, .int a2, .int a3, .int o0, .int o1, .int a6, .int a7, .int a8, .int a9, .int a10, .int a11, .int (bB ab)]))] := by
  refine CV.of (cc := cX0_swingOut) (n := 3) (ret := none) (by decide +kernel) rfl (Nat.le_of_ble_eq_true rfl) ?_
  intro p_ e_ s_ m_ bl_ me_ cd_ A_ ls X Y hr hlk hl
  have hx := X.1.1
  have hb := X.1.2.1
  have hl : lv_has ls 3 [(0, .ref h), (1, .int d)] := hl
  unfold s_swingOut at hu
  refine lv_aload_n hx hb dX0_swingOut_0 rfl (lv_at hl 0 rfl) ?_
  refine bGet (v := .int a2) (T := TX0) (N := 13) (ci := 0) X Y i_X0_swingOut_X0 0 rfl rfl 2 (Nat.le_of_ble_eq_true rfl) f_X0_swingOut_24 rfl rfl dX0_swingOut_1 ?_
  refine lv_if_le (tgt := 22) hx hb dX0_swingOut_4 (by decide) (fun c_1 => ?_) (fun c_1 => ?_)
  · have c_1 : a2 ≤ 0 := c_1
    rw [if_pos c_1] at hu
    refine lv_iconst (v := 0) hx hb dX0_swingOut_22 (by decide) ?_
    refine lv_istore_n (lv' := [(2, .int 0), (0, .ref h), (1, .int d)]) hx hb dX0_swingOut_23 rfl hl (by decide) rfl (fun ls hl => ?_)
    refine lv_aload_n hx hb dX0_swingOut_24 rfl (lv_at hl 1 rfl) ?_
    refine lv_aload_n hx hb dX0_swingOut_25 rfl (lv_at hl 1 rfl) ?_
    refine bGet (v := .int a5) (T := TX0) (N := 13) (ci := 0) X Y i_X0_swingOut_X0 0 rfl rfl 5 (Nat.le_of_ble_eq_true rfl) f_X0_swingOut_32 rfl rfl dX0_swingOut_26 ?_
    refine lv_iload_n hx hb dX0_swingOut_29 rfl (lv_at hl 0 rfl) ?_
    refine bSub (v := a5 - 0) X dX0_swingOut_30 rfl ?_
    refine lv_iconst (v := 4) hx hb dX0_swingOut_31 (by decide) ?_
    refine lv_iload_n hx hb dX0_swingOut_32 rfl (lv_at hl 2 rfl) ?_
    refine bMul (v := 4 * d) X dX0_swingOut_33 rfl ?_
    refine bSub (v := (a5 - 0) - (4 * d)) X dX0_swingOut_34 rfl ?_
    refine lv_sipush (v := 9999) hx hb dX0_swingOut_35 (by decide) ?_
    refine bNI (host := RX7) (As := [.int ((a5 - 0) - (4 * d)), .int 9999]) (rest := [.ref h]) X Y (c_keptWithin l D cyC cyI ((a5 - 0) - (4 * d)) 9999 (s_keptWithin ((a5 - 0) - (4 * d)) 9999) rfl) gX0_swingOut_X7_keptWithin_n111 rfl ⟨rfl, rfl⟩ hd_X7_keptWithin.2 ⟨(Nat.le_of_ble_eq_true rfl), (Nat.le_of_ble_eq_true rfl)⟩ 3 rfl ni_X0_swingOut_X7 ns_X0_swingOut_X7_keptWithin rfl rfl hl.1 (Nat.le_of_ble_eq_true rfl) ⟨Nat.zero_le _, Nat.zero_le _⟩ dX0_swingOut_38 (fun H locs Y => ?_)
    refine bPut (T := TX0) (N := 13) (ci := 0) (ws' := [(h, .inr (0, [.int a0, .int a1, .int a2, .int a3, .int a4, .int (s_keptWithin ((a5 - 0) - (4 * d)) 9999), .int a6, .int a7, .int a8, .int a9, .int a10, .int a11, .int (bB ab)]))]) X Y i_X0_swingOut_X0 tyX0 tyX0_ok nmX0 0 rfl rfl 5 (Nat.le_of_ble_eq_true rfl) f_X0_swingOut_32 rfl rfl rfl rfl (Nat.le_of_ble_eq_true rfl) rfl dX0_swingOut_41 (fun H locs Y => ?_)
    refine lv_aload_n hx hb dX0_swingOut_44 rfl (lv_at hl 1 rfl) ?_
    refine lv_aload_n hx hb dX0_swingOut_45 rfl (lv_at hl 1 rfl) ?_
    refine bGet (v := .int a4) (T := TX0) (N := 13) (ci := 0) X Y i_X0_swingOut_X0 0 rfl rfl 4 (Nat.le_of_ble_eq_true rfl) f_X0_swingOut_29 rfl rfl dX0_swingOut_46 ?_
    refine lv_aload_n hx hb dX0_swingOut_49 rfl (lv_at hl 1 rfl) ?_
    refine bGet (v := .int (s_keptWithin ((a5 - 0) - (4 * d)) 9999)) (T := TX0) (N := 13) (ci := 0) X Y i_X0_swingOut_X0 0 rfl rfl 5 (Nat.le_of_ble_eq_true rfl) f_X0_swingOut_32 rfl rfl dX0_swingOut_50 ?_
    refine bAdd (v := a4 + (s_keptWithin ((a5 - 0) - (4 * d)) 9999)) X dX0_swingOut_53 rfl ?_
    refine lv_sipush (v := 9999) hx hb dX0_swingOut_54 (by decide) ?_
    refine bNI (host := RX7) (As := [.int (a4 + (s_keptWithin ((a5 - 0) - (4 * d)) 9999)), .int 9999]) (rest := [.ref h]) X Y (c_keptWithin l D cyC cyI (a4 + (s_keptWithin ((a5 - 0) - (4 * d)) 9999)) 9999 (s_keptWithin (a4 + (s_keptWithin ((a5 - 0) - (4 * d)) 9999)) 9999) rfl) gX0_swingOut_X7_keptWithin_n111 rfl ⟨rfl, rfl⟩ hd_X7_keptWithin.2 ⟨(Nat.le_of_ble_eq_true rfl), (Nat.le_of_ble_eq_true rfl)⟩ 3 rfl ni_X0_swingOut_X7 ns_X0_swingOut_X7_keptWithin rfl rfl hl.1 (Nat.le_of_ble_eq_true rfl) ⟨Nat.zero_le _, Nat.zero_le _⟩ dX0_swingOut_57 (fun H locs Y => ?_)
    refine bPut (T := TX0) (N := 13) (ci := 0) (ws' := [(h, .inr (0, [.int a0, .int a1, .int a2, .int a3, .int (s_keptWithin (a4 + (s_keptWithin ((a5 - 0) - (4 * d)) 9999)) 9999), .int (s_keptWithin ((a5 - 0) - (4 * d)) 9999), .int a6, .int a7, .int a8, .int a9, .int a10, .int a11, .int (bB ab)]))]) X Y i_X0_swingOut_X0 tyX0 tyX0_ok nmX0 0 rfl rfl 4 (Nat.le_of_ble_eq_true rfl) f_X0_swingOut_29 rfl rfl rfl rfl (Nat.le_of_ble_eq_true rfl) rfl dX0_swingOut_60 (fun H locs Y => ?_)
    have h9 := (Prod.mk.inj hu).1; replace hu := (Prod.mk.inj hu).2; subst h9
    subst hu
    exact bEndV X Y hr hlk dX0_swingOut_63 rfl
  · have c_1 : ¬ (a2 ≤ 0) := c_1
    rw [if_neg c_1] at hu
    refine lv_bipush (v := 16) hx hb dX0_swingOut_7 (by decide) ?_
    refine lv_aload_n hx hb dX0_swingOut_9 rfl (lv_at hl 0 rfl) ?_
    refine bGet (v := .int a4) (T := TX0) (N := 13) (ci := 0) X Y i_X0_swingOut_X0 0 rfl rfl 4 (Nat.le_of_ble_eq_true rfl) f_X0_swingOut_29 rfl rfl dX0_swingOut_10 ?_
    refine bMul (v := 16 * a4) X dX0_swingOut_13 rfl ?_
    refine lv_aload_n hx hb dX0_swingOut_14 rfl (lv_at hl 0 rfl) ?_
    refine bGet (v := .int a2) (T := TX0) (N := 13) (ci := 0) X Y i_X0_swingOut_X0 0 rfl rfl 2 (Nat.le_of_ble_eq_true rfl) f_X0_swingOut_24 rfl rfl dX0_swingOut_15 ?_
    refine bDiv (v := (16 * a4) / a2) X dX0_swingOut_18 (by first | assumption | exact bNz (by assumption) | exact bNz1 (by assumption) | exact bNz2 (by assumption) | exact bNz3 (by assumption)) rfl ?_
    refine lv_goto (tgt := 23) hx hb dX0_swingOut_19 (by decide) ?_
    refine lv_istore_n (lv' := [(2, .int ((16 * a4) / a2)), (0, .ref h), (1, .int d)]) hx hb dX0_swingOut_23 rfl hl (by decide) rfl (fun ls hl => ?_)
    refine lv_aload_n hx hb dX0_swingOut_24 rfl (lv_at hl 1 rfl) ?_
    refine lv_aload_n hx hb dX0_swingOut_25 rfl (lv_at hl 1 rfl) ?_
    refine bGet (v := .int a5) (T := TX0) (N := 13) (ci := 0) X Y i_X0_swingOut_X0 0 rfl rfl 5 (Nat.le_of_ble_eq_true rfl) f_X0_swingOut_32 rfl rfl dX0_swingOut_26 ?_
    refine lv_iload_n hx hb dX0_swingOut_29 rfl (lv_at hl 0 rfl) ?_
    refine bSub (v := a5 - ((16 * a4) / a2)) X dX0_swingOut_30 rfl ?_
    refine lv_iconst (v := 4) hx hb dX0_swingOut_31 (by decide) ?_
    refine lv_iload_n hx hb dX0_swingOut_32 rfl (lv_at hl 2 rfl) ?_
    refine bMul (v := 4 * d) X dX0_swingOut_33 rfl ?_
    refine bSub (v := (a5 - ((16 * a4) / a2)) - (4 * d)) X dX0_swingOut_34 rfl ?_
    refine lv_sipush (v := 9999) hx hb dX0_swingOut_35 (by decide) ?_
    refine bNI (host := RX7) (As := [.int ((a5 - ((16 * a4) / a2)) - (4 * d)), .int 9999]) (rest := [.ref h]) X Y (c_keptWithin l D cyC cyI ((a5 - ((16 * a4) / a2)) - (4 * d)) 9999 (s_keptWithin ((a5 - ((16 * a4) / a2)) - (4 * d)) 9999) rfl) gX0_swingOut_X7_keptWithin_n111 rfl ⟨rfl, rfl⟩ hd_X7_keptWithin.2 ⟨(Nat.le_of_ble_eq_true rfl), (Nat.le_of_ble_eq_true rfl)⟩ 3 rfl ni_X0_swingOut_X7 ns_X0_swingOut_X7_keptWithin rfl rfl hl.1 (Nat.le_of_ble_eq_true rfl) ⟨Nat.zero_le _, Nat.zero_le _⟩ dX0_swingOut_38 (fun H locs Y => ?_)
    refine bPut (T := TX0) (N := 13) (ci := 0) (ws' := [(h, .inr (0, [.int a0, .int a1, .int a2, .int a3, .int a4, .int (s_keptWithin ((a5 - ((16 * a4) / a2)) - (4 * d)) 9999), .int a6, .int a7, .int a8, .int a9, .int a10, .int a11, .int (bB ab)]))]) X Y i_X0_swingOut_X0 tyX0 tyX0_ok nmX0 0 rfl rfl 5 (Nat.le_of_ble_eq_true rfl) f_X0_swingOut_32 rfl rfl rfl rfl (Nat.le_of_ble_eq_true rfl) rfl dX0_swingOut_41 (fun H locs Y => ?_)
    refine lv_aload_n hx hb dX0_swingOut_44 rfl (lv_at hl 1 rfl) ?_
    refine lv_aload_n hx hb dX0_swingOut_45 rfl (lv_at hl 1 rfl) ?_
    refine bGet (v := .int a4) (T := TX0) (N := 13) (ci := 0) X Y i_X0_swingOut_X0 0 rfl rfl 4 (Nat.le_of_ble_eq_true rfl) f_X0_swingOut_29 rfl rfl dX0_swingOut_46 ?_
    refine lv_aload_n hx hb dX0_swingOut_49 rfl (lv_at hl 1 rfl) ?_
    refine bGet (v := .int (s_keptWithin ((a5 - ((16 * a4) / a2)) - (4 * d)) 9999)) (T := TX0) (N := 13) (ci := 0) X Y i_X0_swingOut_X0 0 rfl rfl 5 (Nat.le_of_ble_eq_true rfl) f_X0_swingOut_32 rfl rfl dX0_swingOut_50 ?_
    refine bAdd (v := a4 + (s_keptWithin ((a5 - ((16 * a4) / a2)) - (4 * d)) 9999)) X dX0_swingOut_53 rfl ?_
    refine lv_sipush (v := 9999) hx hb dX0_swingOut_54 (by decide) ?_
    refine bNI (host := RX7) (As := [.int (a4 + (s_keptWithin ((a5 - ((16 * a4) / a2)) - (4 * d)) 9999)), .int 9999]) (rest := [.ref h]) X Y (c_keptWithin l D cyC cyI (a4 + (s_keptWithin ((a5 - ((16 * a4) / a2)) - (4 * d)) 9999)) 9999 (s_keptWithin (a4 + (s_keptWithin ((a5 - ((16 * a4) / a2)) - (4 * d)) 9999)) 9999) rfl) gX0_swingOut_X7_keptWithin_n111 rfl ⟨rfl, rfl⟩ hd_X7_keptWithin.2 ⟨(Nat.le_of_ble_eq_true rfl), (Nat.le_of_ble_eq_true rfl)⟩ 3 rfl ni_X0_swingOut_X7 ns_X0_swingOut_X7_keptWithin rfl rfl hl.1 (Nat.le_of_ble_eq_true rfl) ⟨Nat.zero_le _, Nat.zero_le _⟩ dX0_swingOut_57 (fun H locs Y => ?_)
    refine bPut (T := TX0) (N := 13) (ci := 0) (ws' := [(h, .inr (0, [.int a0, .int a1, .int a2, .int a3, .int (s_keptWithin (a4 + (s_keptWithin ((a5 - ((16 * a4) / a2)) - (4 * d)) 9999)) 9999), .int (s_keptWithin ((a5 - ((16 * a4) / a2)) - (4 * d)) 9999), .int a6, .int a7, .int a8, .int a9, .int a10, .int a11, .int (bB ab)]))]) X Y i_X0_swingOut_X0 tyX0 tyX0_ok nmX0 0 rfl rfl 4 (Nat.le_of_ble_eq_true rfl) f_X0_swingOut_29 rfl rfl rfl rfl (Nat.le_of_ble_eq_true rfl) rfl dX0_swingOut_60 (fun H locs Y => ?_)
    have h9 := (Prod.mk.inj hu).1; replace hu := (Prod.mk.inj hu).2; subst h9
    subst hu
    exact bEndV X Y hr hlk dX0_swingOut_63 rfl
theorem i_X0_hoistRope_X0 : ∀ w ∈ wsX00, w ∈ wsX0_hoistRope := by decide +kernel
theorem f_X0_hoistRope_38 : Cond.fieldLink RX0 38 "SwingCranes$Crane" "target" "I" ∈ wsX0_hoistRope := by decide +kernel
theorem f_X0_hoistRope_24 : Cond.fieldLink RX0 24 "SwingCranes$Crane" "rope" "I" ∈ wsX0_hoistRope := by decide +kernel
theorem f_X0_hoistRope_18 : Cond.fieldLink RX0 18 "SwingCranes$Crane" "speed" "I" ∈ wsX0_hoistRope := by decide +kernel
theorem m_X0_hoistRope_84 : Cond.methodLink RX0 84 Lib.Math.abs.name ∈ wsX0_hoistRope := by decide +kernel
theorem ms_X0_hoistRope_abs : Cond.static Lib.Math.abs.name ∈ wsX0_hoistRope := by decide +kernel
theorem mi_X0_hoistRope : Cond.initialized "java/lang/Math" ∈ wsX0_hoistRope := by decide +kernel
theorem mc_X0_hoistRope_abs : Cond.code Lib.Math.abs.name Lib.Math.abs.code 1 (some .int) ∈ wsX0_hoistRope := by decide +kernel
def s_hoistRope (a1 : Int32) (a2 : Int32) (a7 : Int32) (sl : Int32) (ot : Int32) (lv : Int32) : Int32 × Unit :=
  if a7 = a2 then
    (a2, ())
  else
    if (if 0 ≤ a1 then a1 else 0 - a1) ≤ sl then
      if a7 ≤ a2 then
        if lv < 0 then
          (a2 - 1, ())
        else
          if (if 0 ≤ ((a2 - 1) - ot) then ((a2 - 1) - ot) else 0 - ((a2 - 1) - ot)) ≤ lv then
            (a2 - 1, ())
          else
            if (if 0 ≤ ((a2 - 1) - ot) then ((a2 - 1) - ot) else 0 - ((a2 - 1) - ot)) ≤ (if 0 ≤ (a2 - ot) then (a2 - ot) else 0 - (a2 - ot)) then
              (a2 - 1, ())
            else
              (a2, ())
      else
        if lv < 0 then
          (a2 + 1, ())
        else
          if (if 0 ≤ ((a2 + 1) - ot) then ((a2 + 1) - ot) else 0 - ((a2 + 1) - ot)) ≤ lv then
            (a2 + 1, ())
          else
            if (if 0 ≤ ((a2 + 1) - ot) then ((a2 + 1) - ot) else 0 - ((a2 + 1) - ot)) ≤ (if 0 ≤ (a2 - ot) then (a2 - ot) else 0 - (a2 - ot)) then
              (a2 + 1, ())
            else
              (a2, ())
    else
      (a2, ())
set_option maxHeartbeats 4000000 in
set_option maxRecDepth 100000 in
theorem c_hoistRope (l : Launch) (D : va_G) (cyC cyI : ClassId) (h : Nat) (a0 : Int32) (a1 : Int32) (a2 : Int32) (a3 : Int32) (a4 : Int32) (a5 : Int32) (a6 : Int32) (a7 : Int32) (a8 : Int32) (a9 : Int32) (a10 : Int32) (a11 : Int32) (ab : Bool) (sl : Int32) (ot : Int32) (lv : Int32) (o0 : Int32) (hu : s_hoistRope a1 a2 a7 sl ot lv = (o0, ())) : CV l yX0_hoistRope wsX0_hoistRope { frames := 1, cells := 0, slots := 0, locals := 14 } D cyC cyI [.ref h, .int sl, .int ot, .int lv] [(h, .inr (0, [.int a0, .int a1, .int a2, .int a3, .int a4, .int a5, .int a6, .int a7, .int a8, .int a9, .int a10, .int a11, .int (bB ab)]))] [(h, .inr (0, [.int a0, .int a1, .int o0, .int a3, .int a4, .int a5, .int a6, .int a7, .int a8, .int a9, .int a10, .int a11, .int (bB ab)]))] := by
  refine CV.of (cc := cX0_hoistRope) (n := 6) (ret := none) (by decide +kernel) rfl (Nat.le_of_ble_eq_true rfl) ?_
  intro p_ e_ s_ m_ bl_ me_ cd_ A_ ls X Y hr hlk hl
  have hx := X.1.1
  have hb := X.1.2.1
  have hl : lv_has ls 6 [(0, .ref h), (1, .int sl), (2, .int ot), (3, .int lv)] := hl
  unfold s_hoistRope at hu
  refine lv_aload_n hx hb dX0_hoistRope_0 rfl (lv_at hl 0 rfl) ?_
  refine bGet (v := .int a7) (T := TX0) (N := 13) (ci := 0) X Y i_X0_hoistRope_X0 0 rfl rfl 7 (Nat.le_of_ble_eq_true rfl) f_X0_hoistRope_38 rfl rfl dX0_hoistRope_1 ?_
  refine lv_aload_n hx hb dX0_hoistRope_4 rfl (lv_at hl 0 rfl) ?_
  refine bGet (v := .int a2) (T := TX0) (N := 13) (ci := 0) X Y i_X0_hoistRope_X0 0 rfl rfl 2 (Nat.le_of_ble_eq_true rfl) f_X0_hoistRope_24 rfl rfl dX0_hoistRope_5 ?_
  refine lv_icmp_eq (tgt := 22) hx hb dX0_hoistRope_8 (by decide) (fun c_1 => ?_) (fun c_1 => ?_)
  · have c_1 : a7 = a2 := c_1
    rw [if_pos c_1] at hu
    have h9 := (Prod.mk.inj hu).1
    subst h9
    exact bEndV X Y hr hlk dX0_hoistRope_22 rfl
  · have c_1 : ¬ (a7 = a2) := c_1
    rw [if_neg c_1] at hu
    refine lv_aload_n hx hb dX0_hoistRope_11 rfl (lv_at hl 0 rfl) ?_
    refine bGet (v := .int a1) (T := TX0) (N := 13) (ci := 0) X Y i_X0_hoistRope_X0 0 rfl rfl 1 (Nat.le_of_ble_eq_true rfl) f_X0_hoistRope_18 rfl rfl dX0_hoistRope_12 ?_
    refine bAbs (v := (if 0 ≤ a1 then a1 else 0 - a1)) X hl.1 m_X0_hoistRope_84 ms_X0_hoistRope_abs mi_X0_hoistRope mc_X0_hoistRope_abs (Nat.le_of_ble_eq_true rfl) (Nat.le_of_ble_eq_true rfl) ⟨Nat.zero_le _, Nat.zero_le _⟩ dX0_hoistRope_15 rfl ?_
    refine lv_iload_n hx hb dX0_hoistRope_18 rfl (lv_at hl 1 rfl) ?_
    refine lv_icmp_le (tgt := 23) hx hb dX0_hoistRope_19 (by decide) (fun c_2 => ?_) (fun c_2 => ?_)
    · have c_2 : (if 0 ≤ a1 then a1 else 0 - a1) ≤ sl := c_2
      rw [if_pos c_2] at hu
      refine lv_aload_n hx hb dX0_hoistRope_23 rfl (lv_at hl 0 rfl) ?_
      refine bGet (v := .int a7) (T := TX0) (N := 13) (ci := 0) X Y i_X0_hoistRope_X0 0 rfl rfl 7 (Nat.le_of_ble_eq_true rfl) f_X0_hoistRope_38 rfl rfl dX0_hoistRope_24 ?_
      refine lv_aload_n hx hb dX0_hoistRope_27 rfl (lv_at hl 0 rfl) ?_
      refine bGet (v := .int a2) (T := TX0) (N := 13) (ci := 0) X Y i_X0_hoistRope_X0 0 rfl rfl 2 (Nat.le_of_ble_eq_true rfl) f_X0_hoistRope_24 rfl rfl dX0_hoistRope_28 ?_
      refine lv_icmp_le (tgt := 43) hx hb dX0_hoistRope_31 (by decide) (fun c_3 => ?_) (fun c_3 => ?_)
      · have c_3 : a7 ≤ a2 := c_3
        rw [if_pos c_3] at hu
        refine lv_aload_n hx hb dX0_hoistRope_43 rfl (lv_at hl 0 rfl) ?_
        refine bGet (v := .int a2) (T := TX0) (N := 13) (ci := 0) X Y i_X0_hoistRope_X0 0 rfl rfl 2 (Nat.le_of_ble_eq_true rfl) f_X0_hoistRope_24 rfl rfl dX0_hoistRope_44 ?_
        refine lv_iconst (v := 1) hx hb dX0_hoistRope_47 (by decide) ?_
        refine bSub (v := a2 - 1) X dX0_hoistRope_48 rfl ?_
        refine lv_istore (lv' := [(4, .int (a2 - 1)), (0, .ref h), (1, .int sl), (2, .int ot), (3, .int lv)]) hx hb dX0_hoistRope_49 hl (by decide) rfl (fun ls hl => ?_)
        refine lv_iload hx hb dX0_hoistRope_51 (lv_at hl 0 rfl) ?_
        refine lv_iload_n hx hb dX0_hoistRope_53 rfl (lv_at hl 3 rfl) ?_
        refine bSub (v := (a2 - 1) - ot) X dX0_hoistRope_54 rfl ?_
        refine bAbs (v := (if 0 ≤ ((a2 - 1) - ot) then ((a2 - 1) - ot) else 0 - ((a2 - 1) - ot))) X hl.1 m_X0_hoistRope_84 ms_X0_hoistRope_abs mi_X0_hoistRope mc_X0_hoistRope_abs (Nat.le_of_ble_eq_true rfl) (Nat.le_of_ble_eq_true rfl) ⟨Nat.zero_le _, Nat.zero_le _⟩ dX0_hoistRope_55 rfl ?_
        refine lv_istore (lv' := [(5, .int (if 0 ≤ ((a2 - 1) - ot) then ((a2 - 1) - ot) else 0 - ((a2 - 1) - ot))), (4, .int (a2 - 1)), (0, .ref h), (1, .int sl), (2, .int ot), (3, .int lv)]) hx hb dX0_hoistRope_58 hl (by decide) rfl (fun ls hl => ?_)
        refine lv_iload_n hx hb dX0_hoistRope_60 rfl (lv_at hl 5 rfl) ?_
        refine lv_if_lt (tgt := 85) hx hb dX0_hoistRope_61 (by decide) (fun c_4 => ?_) (fun c_4 => ?_)
        · have c_4 : lv < 0 := c_4
          rw [if_pos c_4] at hu
          refine lv_aload_n hx hb dX0_hoistRope_85 rfl (lv_at hl 2 rfl) ?_
          refine lv_iload hx hb dX0_hoistRope_86 (lv_at hl 1 rfl) ?_
          refine bPut (T := TX0) (N := 13) (ci := 0) (ws' := [(h, .inr (0, [.int a0, .int a1, .int (a2 - 1), .int a3, .int a4, .int a5, .int a6, .int a7, .int a8, .int a9, .int a10, .int a11, .int (bB ab)]))]) X Y i_X0_hoistRope_X0 tyX0 tyX0_ok nmX0 0 rfl rfl 2 (Nat.le_of_ble_eq_true rfl) f_X0_hoistRope_24 rfl rfl rfl rfl (Nat.le_of_ble_eq_true rfl) rfl dX0_hoistRope_88 (fun H locs Y => ?_)
          have h9 := (Prod.mk.inj hu).1
          subst h9
          exact bEndV X Y hr hlk dX0_hoistRope_91 rfl
        · have c_4 : ¬ (lv < 0) := c_4
          rw [if_neg c_4] at hu
          refine lv_iload hx hb dX0_hoistRope_64 (lv_at hl 0 rfl) ?_
          refine lv_iload_n hx hb dX0_hoistRope_66 rfl (lv_at hl 5 rfl) ?_
          refine lv_icmp_le (tgt := 85) hx hb dX0_hoistRope_67 (by decide) (fun c_5 => ?_) (fun c_5 => ?_)
          · have c_5 : (if 0 ≤ ((a2 - 1) - ot) then ((a2 - 1) - ot) else 0 - ((a2 - 1) - ot)) ≤ lv := c_5
            rw [if_pos c_5] at hu
            refine lv_aload_n hx hb dX0_hoistRope_85 rfl (lv_at hl 2 rfl) ?_
            refine lv_iload hx hb dX0_hoistRope_86 (lv_at hl 1 rfl) ?_
            refine bPut (T := TX0) (N := 13) (ci := 0) (ws' := [(h, .inr (0, [.int a0, .int a1, .int (a2 - 1), .int a3, .int a4, .int a5, .int a6, .int a7, .int a8, .int a9, .int a10, .int a11, .int (bB ab)]))]) X Y i_X0_hoistRope_X0 tyX0 tyX0_ok nmX0 0 rfl rfl 2 (Nat.le_of_ble_eq_true rfl) f_X0_hoistRope_24 rfl rfl rfl rfl (Nat.le_of_ble_eq_true rfl) rfl dX0_hoistRope_88 (fun H locs Y => ?_)
            have h9 := (Prod.mk.inj hu).1
            subst h9
            exact bEndV X Y hr hlk dX0_hoistRope_91 rfl
          · have c_5 : ¬ ((if 0 ≤ ((a2 - 1) - ot) then ((a2 - 1) - ot) else 0 - ((a2 - 1) - ot)) ≤ lv) := c_5
            rw [if_neg c_5] at hu
            refine lv_iload hx hb dX0_hoistRope_70 (lv_at hl 0 rfl) ?_
            refine lv_aload_n hx hb dX0_hoistRope_72 rfl (lv_at hl 2 rfl) ?_
            refine bGet (v := .int a2) (T := TX0) (N := 13) (ci := 0) X Y i_X0_hoistRope_X0 0 rfl rfl 2 (Nat.le_of_ble_eq_true rfl) f_X0_hoistRope_24 rfl rfl dX0_hoistRope_73 ?_
            refine lv_iload_n hx hb dX0_hoistRope_76 rfl (lv_at hl 4 rfl) ?_
            refine bSub (v := a2 - ot) X dX0_hoistRope_77 rfl ?_
            refine bAbs (v := (if 0 ≤ (a2 - ot) then (a2 - ot) else 0 - (a2 - ot))) X hl.1 m_X0_hoistRope_84 ms_X0_hoistRope_abs mi_X0_hoistRope mc_X0_hoistRope_abs (Nat.le_of_ble_eq_true rfl) (Nat.le_of_ble_eq_true rfl) ⟨Nat.zero_le _, Nat.zero_le _⟩ dX0_hoistRope_78 rfl ?_
            refine lv_icmp_le (tgt := 85) hx hb dX0_hoistRope_81 (by decide) (fun c_6 => ?_) (fun c_6 => ?_)
            · have c_6 : (if 0 ≤ ((a2 - 1) - ot) then ((a2 - 1) - ot) else 0 - ((a2 - 1) - ot)) ≤ (if 0 ≤ (a2 - ot) then (a2 - ot) else 0 - (a2 - ot)) := c_6
              rw [if_pos c_6] at hu
              refine lv_aload_n hx hb dX0_hoistRope_85 rfl (lv_at hl 2 rfl) ?_
              refine lv_iload hx hb dX0_hoistRope_86 (lv_at hl 1 rfl) ?_
              refine bPut (T := TX0) (N := 13) (ci := 0) (ws' := [(h, .inr (0, [.int a0, .int a1, .int (a2 - 1), .int a3, .int a4, .int a5, .int a6, .int a7, .int a8, .int a9, .int a10, .int a11, .int (bB ab)]))]) X Y i_X0_hoistRope_X0 tyX0 tyX0_ok nmX0 0 rfl rfl 2 (Nat.le_of_ble_eq_true rfl) f_X0_hoistRope_24 rfl rfl rfl rfl (Nat.le_of_ble_eq_true rfl) rfl dX0_hoistRope_88 (fun H locs Y => ?_)
              have h9 := (Prod.mk.inj hu).1
              subst h9
              exact bEndV X Y hr hlk dX0_hoistRope_91 rfl
            · have c_6 : ¬ ((if 0 ≤ ((a2 - 1) - ot) then ((a2 - 1) - ot) else 0 - ((a2 - 1) - ot)) ≤ (if 0 ≤ (a2 - ot) then (a2 - ot) else 0 - (a2 - ot))) := c_6
              rw [if_neg c_6] at hu
              have h9 := (Prod.mk.inj hu).1
              subst h9
              exact bEndV X Y hr hlk dX0_hoistRope_84 rfl
      · have c_3 : ¬ (a7 ≤ a2) := c_3
        rw [if_neg c_3] at hu
        refine lv_aload_n hx hb dX0_hoistRope_34 rfl (lv_at hl 0 rfl) ?_
        refine bGet (v := .int a2) (T := TX0) (N := 13) (ci := 0) X Y i_X0_hoistRope_X0 0 rfl rfl 2 (Nat.le_of_ble_eq_true rfl) f_X0_hoistRope_24 rfl rfl dX0_hoistRope_35 ?_
        refine lv_iconst (v := 1) hx hb dX0_hoistRope_38 (by decide) ?_
        refine bAdd (v := a2 + 1) X dX0_hoistRope_39 rfl ?_
        refine lv_goto (tgt := 49) hx hb dX0_hoistRope_40 (by decide) ?_
        refine lv_istore (lv' := [(4, .int (a2 + 1)), (0, .ref h), (1, .int sl), (2, .int ot), (3, .int lv)]) hx hb dX0_hoistRope_49 hl (by decide) rfl (fun ls hl => ?_)
        refine lv_iload hx hb dX0_hoistRope_51 (lv_at hl 0 rfl) ?_
        refine lv_iload_n hx hb dX0_hoistRope_53 rfl (lv_at hl 3 rfl) ?_
        refine bSub (v := (a2 + 1) - ot) X dX0_hoistRope_54 rfl ?_
        refine bAbs (v := (if 0 ≤ ((a2 + 1) - ot) then ((a2 + 1) - ot) else 0 - ((a2 + 1) - ot))) X hl.1 m_X0_hoistRope_84 ms_X0_hoistRope_abs mi_X0_hoistRope mc_X0_hoistRope_abs (Nat.le_of_ble_eq_true rfl) (Nat.le_of_ble_eq_true rfl) ⟨Nat.zero_le _, Nat.zero_le _⟩ dX0_hoistRope_55 rfl ?_
        refine lv_istore (lv' := [(5, .int (if 0 ≤ ((a2 + 1) - ot) then ((a2 + 1) - ot) else 0 - ((a2 + 1) - ot))), (4, .int (a2 + 1)), (0, .ref h), (1, .int sl), (2, .int ot), (3, .int lv)]) hx hb dX0_hoistRope_58 hl (by decide) rfl (fun ls hl => ?_)
        refine lv_iload_n hx hb dX0_hoistRope_60 rfl (lv_at hl 5 rfl) ?_
        refine lv_if_lt (tgt := 85) hx hb dX0_hoistRope_61 (by decide) (fun c_7 => ?_) (fun c_7 => ?_)
        · have c_7 : lv < 0 := c_7
          rw [if_pos c_7] at hu
          refine lv_aload_n hx hb dX0_hoistRope_85 rfl (lv_at hl 2 rfl) ?_
          refine lv_iload hx hb dX0_hoistRope_86 (lv_at hl 1 rfl) ?_
          refine bPut (T := TX0) (N := 13) (ci := 0) (ws' := [(h, .inr (0, [.int a0, .int a1, .int (a2 + 1), .int a3, .int a4, .int a5, .int a6, .int a7, .int a8, .int a9, .int a10, .int a11, .int (bB ab)]))]) X Y i_X0_hoistRope_X0 tyX0 tyX0_ok nmX0 0 rfl rfl 2 (Nat.le_of_ble_eq_true rfl) f_X0_hoistRope_24 rfl rfl rfl rfl (Nat.le_of_ble_eq_true rfl) rfl dX0_hoistRope_88 (fun H locs Y => ?_)
          have h9 := (Prod.mk.inj hu).1
          subst h9
          exact bEndV X Y hr hlk dX0_hoistRope_91 rfl
        · have c_7 : ¬ (lv < 0) := c_7
          rw [if_neg c_7] at hu
          refine lv_iload hx hb dX0_hoistRope_64 (lv_at hl 0 rfl) ?_
          refine lv_iload_n hx hb dX0_hoistRope_66 rfl (lv_at hl 5 rfl) ?_
          refine lv_icmp_le (tgt := 85) hx hb dX0_hoistRope_67 (by decide) (fun c_8 => ?_) (fun c_8 => ?_)
          · have c_8 : (if 0 ≤ ((a2 + 1) - ot) then ((a2 + 1) - ot) else 0 - ((a2 + 1) - ot)) ≤ lv := c_8
            rw [if_pos c_8] at hu
            refine lv_aload_n hx hb dX0_hoistRope_85 rfl (lv_at hl 2 rfl) ?_
            refine lv_iload hx hb dX0_hoistRope_86 (lv_at hl 1 rfl) ?_
            refine bPut (T := TX0) (N := 13) (ci := 0) (ws' := [(h, .inr (0, [.int a0, .int a1, .int (a2 + 1), .int a3, .int a4, .int a5, .int a6, .int a7, .int a8, .int a9, .int a10, .int a11, .int (bB ab)]))]) X Y i_X0_hoistRope_X0 tyX0 tyX0_ok nmX0 0 rfl rfl 2 (Nat.le_of_ble_eq_true rfl) f_X0_hoistRope_24 rfl rfl rfl rfl (Nat.le_of_ble_eq_true rfl) rfl dX0_hoistRope_88 (fun H locs Y => ?_)
            have h9 := (Prod.mk.inj hu).1
            subst h9
            exact bEndV X Y hr hlk dX0_hoistRope_91 rfl
          · have c_8 : ¬ ((if 0 ≤ ((a2 + 1) - ot) then ((a2 + 1) - ot) else 0 - ((a2 + 1) - ot)) ≤ lv) := c_8
            rw [if_neg c_8] at hu
            refine lv_iload hx hb dX0_hoistRope_70 (lv_at hl 0 rfl) ?_
            refine lv_aload_n hx hb dX0_hoistRope_72 rfl (lv_at hl 2 rfl) ?_
            refine bGet (v := .int a2) (T := TX0) (N := 13) (ci := 0) X Y i_X0_hoistRope_X0 0 rfl rfl 2 (Nat.le_of_ble_eq_true rfl) f_X0_hoistRope_24 rfl rfl dX0_hoistRope_73 ?_
            refine lv_iload_n hx hb dX0_hoistRope_76 rfl (lv_at hl 4 rfl) ?_
            refine bSub (v := a2 - ot) X dX0_hoistRope_77 rfl ?_
            refine bAbs (v := (if 0 ≤ (a2 - ot) then (a2 - ot) else 0 - (a2 - ot))) X hl.1 m_X0_hoistRope_84 ms_X0_hoistRope_abs mi_X0_hoistRope mc_X0_hoistRope_abs (Nat.le_of_ble_eq_true rfl) (Nat.le_of_ble_eq_true rfl) ⟨Nat.zero_le _, Nat.zero_le _⟩ dX0_hoistRope_78 rfl ?_
            refine lv_icmp_le (tgt := 85) hx hb dX0_hoistRope_81 (by decide) (fun c_9 => ?_) (fun c_9 => ?_)
            · have c_9 : (if 0 ≤ ((a2 + 1) - ot) then ((a2 + 1) - ot) else 0 - ((a2 + 1) - ot)) ≤ (if 0 ≤ (a2 - ot) then (a2 - ot) else 0 - (a2 - ot)) := c_9
              rw [if_pos c_9] at hu
              refine lv_aload_n hx hb dX0_hoistRope_85 rfl (lv_at hl 2 rfl) ?_
              refine lv_iload hx hb dX0_hoistRope_86 (lv_at hl 1 rfl) ?_
              refine bPut (T := TX0) (N := 13) (ci := 0) (ws' := [(h, .inr (0, [.int a0, .int a1, .int (a2 + 1), .int a3, .int a4, .int a5, .int a6, .int a7, .int a8, .int a9, .int a10, .int a11, .int (bB ab)]))]) X Y i_X0_hoistRope_X0 tyX0 tyX0_ok nmX0 0 rfl rfl 2 (Nat.le_of_ble_eq_true rfl) f_X0_hoistRope_24 rfl rfl rfl rfl (Nat.le_of_ble_eq_true rfl) rfl dX0_hoistRope_88 (fun H locs Y => ?_)
              have h9 := (Prod.mk.inj hu).1
              subst h9
              exact bEndV X Y hr hlk dX0_hoistRope_91 rfl
            · have c_9 : ¬ ((if 0 ≤ ((a2 + 1) - ot) then ((a2 + 1) - ot) else 0 - ((a2 + 1) - ot)) ≤ (if 0 ≤ (a2 - ot) then (a2 - ot) else 0 - (a2 - ot))) := c_9
              rw [if_neg c_9] at hu
              have h9 := (Prod.mk.inj hu).1
              subst h9
              exact bEndV X Y hr hlk dX0_hoistRope_84 rfl
    · have c_2 : ¬ ((if 0 ≤ a1 then a1 else 0 - a1) ≤ sl) := c_2
      rw [if_neg c_2] at hu
      have h9 := (Prod.mk.inj hu).1
      subst h9
      exact bEndV X Y hr hlk dX0_hoistRope_22 rfl
theorem m_X0_speedForRoom_84 : Cond.methodLink RX0 84 Lib.Math.abs.name ∈ wsX0_speedForRoom := by decide +kernel
theorem ms_X0_speedForRoom_abs : Cond.static Lib.Math.abs.name ∈ wsX0_speedForRoom := by decide +kernel
theorem mi_X0_speedForRoom : Cond.initialized "java/lang/Math" ∈ wsX0_speedForRoom := by decide +kernel
theorem mc_X0_speedForRoom_abs : Cond.code Lib.Math.abs.name Lib.Math.abs.code 1 (some .int) ∈ wsX0_speedForRoom := by decide +kernel
theorem hd_X7_wayToStop : bD1 yX7_wayToStop RX7 2 := by decide +kernel
theorem ni_X0_speedForRoom_X7 : Cond.initialized RX7 ∈ wsX0_speedForRoom := by decide +kernel
theorem ns_X0_speedForRoom_X7_wayToStop : Cond.static yX7_wayToStop ∈ wsX0_speedForRoom := by decide +kernel
def g_speedForRoom (ro : Int32) (ch : Int32) : Nat → Int32 → Int32 → Int32
  | 0, _, _ => 0
  | n_ + 1, sg, sz =>
    if sz ≤ 0 then
      0
    else
      if ro < (s_wayToStop sz ch) then
        g_speedForRoom ro ch n_ sg (sz + (-1))
      else
        sg * sz
def s_speedForRoom (w : Int32) (ro : Int32) (ch : Int32) : Int32 :=
  if 0 ≤ w then
    g_speedForRoom ro ch (((if 0 ≤ w then w else 0 - w) - 1).toInt.toNat + 1) 1 ((if 0 ≤ w then w else 0 - w) - 1)
  else
    g_speedForRoom ro ch (((if 0 ≤ w then w else 0 - w) - 1).toInt.toNat + 1) (-1) ((if 0 ≤ w then w else 0 - w) - 1)
set_option maxHeartbeats 4000000 in
set_option maxRecDepth 100000 in
theorem lp_speedForRoom {p_ : Program} {e_ : Env} {s_ : State} {m_ : MethodId} {bl_ : List Frame} {me_ : Method} {cd_ : Code} {A_ : Nat → Prop} (l : Launch) (D : va_G) (cyC cyI : ClassId) (h : Nat) (a0 : Int32) (a1 : Int32) (a2 : Int32) (a3 : Int32) (a4 : Int32) (a5 : Int32) (a6 : Int32) (a7 : Int32) (a8 : Int32) (a9 : Int32) (a10 : Int32) (a11 : Int32) (ab : Bool) (w : Int32) (ro : Int32) (ch : Int32) (o0 : Int32) (X : bX p_ s_ m_ ([.ref h, .int w, .int ro, .int ch] : List Value).toArray cd_ cX0_speedForRoom 6 wsX0_speedForRoom yX0_speedForRoom.cls D cyC cyI) (hr : me_.sig.returnType = (some .int)) (hlk : me_.locks = false) : ∀ (n_ : Nat) (sg : Int32) (sz : Int32) (hN : sz.toInt.toNat < n_) (hu : g_speedForRoom ro ch n_ sg sz = o0) (ls : Array Slot) (H : Heap) (locs : List Loc), lv_has ls 6 [(0, .ref h), (1, .int w), (2, .int ro), (3, .int ch), (4, .int sg), (5, .int sz)] → bY D A_ s_.heap [(h, .inr (0, [.int a0, .int a1, .int a2, .int a3, .int a4, .int a5, .int a6, .int a7, .int a8, .int a9, .int a10, .int a11, .int (bB ab)]))] H locs → W p_ l e_ ({ frames := 2, cells := 0, slots := 0, locals := 36 } : Room) s_ m_ ([.ref h, .int w, .int ro, .int ch] : List Value).toArray bl_ me_ cd_ H locs 0 0 (bQI bl_ ([.ref h, .int w, .int ro, .int ch] : List Value).toArray s_ D [(h, .inr (0, [.int a0, .int a1, .int a2, .int a3, .int a4, .int a5, .int a6, .int a7, .int a8, .int a9, .int a10, .int a11, .int (bB ab)]))] o0 A_) (F0 m_ 19 ls []) := by
  intro n_
  induction n_ with
  | zero =>
    intro sg sz hN hu ls H locs hl Y
    exfalso; omega
  | succ n_ ih =>
    intro sg sz hN hu ls H locs hl Y
    have hx := X.1.1
    have hb := X.1.2.1
    rw [g_speedForRoom] at hu
    refine lv_iload hx hb dX0_speedForRoom_19 (lv_at hl 5 rfl) ?_
    refine lv_if_le (tgt := 46) hx hb dX0_speedForRoom_21 (by decide) (fun c_1 => ?_) (fun c_1 => ?_)
    · have c_1 : sz ≤ 0 := c_1
      rw [if_pos c_1] at hu
      refine lv_iconst (v := 0) hx hb dX0_speedForRoom_46 (by decide) ?_
      subst hu
      exact bEndI X Y hr hlk dX0_speedForRoom_47 rfl rfl
    · have c_1 : ¬ (sz ≤ 0) := c_1
      rw [if_neg c_1] at hu
      refine lv_iload hx hb dX0_speedForRoom_24 (lv_at hl 5 rfl) ?_
      refine lv_iload_n hx hb dX0_speedForRoom_26 rfl (lv_at hl 3 rfl) ?_
      refine bNI (host := RX7) (As := [.int sz, .int ch]) (rest := []) X Y (c_wayToStop l D cyC cyI sz ch (s_wayToStop sz ch) rfl) gX0_speedForRoom_X7_wayToStop_n97 rfl ⟨rfl, rfl⟩ hd_X7_wayToStop.2 ⟨(Nat.le_of_ble_eq_true rfl), (Nat.le_of_ble_eq_true rfl)⟩ 5 rfl ni_X0_speedForRoom_X7 ns_X0_speedForRoom_X7_wayToStop rfl rfl hl.1 (Nat.le_of_ble_eq_true rfl) ⟨Nat.zero_le _, Nat.zero_le _⟩ dX0_speedForRoom_27 (fun H locs Y => ?_)
      refine lv_iload_n hx hb dX0_speedForRoom_30 rfl (lv_at hl 2 rfl) ?_
      refine lv_icmp_gt (tgt := 40) hx hb dX0_speedForRoom_31 (by decide) (fun c_2 => ?_) (fun c_2 => ?_)
      · have c_2 : ro < (s_wayToStop sz ch) := c_2
        rw [if_pos c_2] at hu
        refine lv_iinc (v := sz + (-1)) (lv' := [(5, .int (sz + (-1))), (0, .ref h), (1, .int w), (2, .int ro), (3, .int ch), (4, .int sg)]) hx hb dX0_speedForRoom_40 hl (k := 5) rfl (congrArg (fun z => sz + z) (show Int32.ofInt (-1) = (-1) by decide)) (by decide) rfl (fun ls hl => ?_)
        refine lv_goto (tgt := 19) hx hb dX0_speedForRoom_43 (by decide) ?_
        exact ih sg (sz + (-1)) (bDec (bPos c_1) hN) hu _ _ _ (lv_sub hl [1, 2, 3, 4, 5, 0] rfl) Y
      · have c_2 : ¬ (ro < (s_wayToStop sz ch)) := c_2
        rw [if_neg c_2] at hu
        refine lv_iload hx hb dX0_speedForRoom_34 (lv_at hl 4 rfl) ?_
        refine lv_iload hx hb dX0_speedForRoom_36 (lv_at hl 5 rfl) ?_
        refine bMul (v := sg * sz) X dX0_speedForRoom_38 rfl ?_
        subst hu
        exact bEndI X Y hr hlk dX0_speedForRoom_39 rfl rfl
set_option maxHeartbeats 4000000 in
set_option maxRecDepth 100000 in
theorem c_speedForRoom (l : Launch) (D : va_G) (cyC cyI : ClassId) (h : Nat) (a0 : Int32) (a1 : Int32) (a2 : Int32) (a3 : Int32) (a4 : Int32) (a5 : Int32) (a6 : Int32) (a7 : Int32) (a8 : Int32) (a9 : Int32) (a10 : Int32) (a11 : Int32) (ab : Bool) (w : Int32) (ro : Int32) (ch : Int32) (o0 : Int32) (hu : s_speedForRoom w ro ch = o0) : CI l yX0_speedForRoom wsX0_speedForRoom { frames := 2, cells := 0, slots := 0, locals := 36 } D cyC cyI [.ref h, .int w, .int ro, .int ch] [(h, .inr (0, [.int a0, .int a1, .int a2, .int a3, .int a4, .int a5, .int a6, .int a7, .int a8, .int a9, .int a10, .int a11, .int (bB ab)]))] o0 [(h, .inr (0, [.int a0, .int a1, .int a2, .int a3, .int a4, .int a5, .int a6, .int a7, .int a8, .int a9, .int a10, .int a11, .int (bB ab)]))] := by
  refine CI.of (cc := cX0_speedForRoom) (n := 6) (ret := (some .int)) (by decide +kernel) rfl (Nat.le_of_ble_eq_true rfl) ?_
  intro p_ e_ s_ m_ bl_ me_ cd_ A_ ls X Y hr hlk hl
  have hx := X.1.1
  have hb := X.1.2.1
  have hl : lv_has ls 6 [(0, .ref h), (1, .int w), (2, .int ro), (3, .int ch)] := hl
  unfold s_speedForRoom at hu
  refine lv_iload_n hx hb dX0_speedForRoom_0 rfl (lv_at hl 1 rfl) ?_
  refine lv_if_ge (tgt := 8) hx hb dX0_speedForRoom_1 (by decide) (fun c_1 => ?_) (fun c_1 => ?_)
  · have c_1 : 0 ≤ w := c_1
    rw [if_pos c_1] at hu
    refine lv_iconst (v := 1) hx hb dX0_speedForRoom_8 (by decide) ?_
    refine lv_istore (lv' := [(4, .int 1), (0, .ref h), (1, .int w), (2, .int ro), (3, .int ch)]) hx hb dX0_speedForRoom_9 hl (by decide) rfl (fun ls hl => ?_)
    refine lv_iload_n hx hb dX0_speedForRoom_11 rfl (lv_at hl 2 rfl) ?_
    refine bAbs (v := (if 0 ≤ w then w else 0 - w)) X hl.1 m_X0_speedForRoom_84 ms_X0_speedForRoom_abs mi_X0_speedForRoom mc_X0_speedForRoom_abs (Nat.le_of_ble_eq_true rfl) (Nat.le_of_ble_eq_true rfl) ⟨Nat.zero_le _, Nat.zero_le _⟩ dX0_speedForRoom_12 rfl ?_
    refine lv_iconst (v := 1) hx hb dX0_speedForRoom_15 (by decide) ?_
    refine bSub (v := (if 0 ≤ w then w else 0 - w) - 1) X dX0_speedForRoom_16 rfl ?_
    refine lv_istore (lv' := [(5, .int ((if 0 ≤ w then w else 0 - w) - 1)), (4, .int 1), (0, .ref h), (1, .int w), (2, .int ro), (3, .int ch)]) hx hb dX0_speedForRoom_17 hl (by decide) rfl (fun ls hl => ?_)
    exact lp_speedForRoom l D cyC cyI h a0 a1 a2 a3 a4 a5 a6 a7 a8 a9 a10 a11 ab w ro ch o0 X hr hlk (((if 0 ≤ w then w else 0 - w) - 1).toInt.toNat + 1) 1 ((if 0 ≤ w then w else 0 - w) - 1) (Nat.lt_succ_self _) hu _ _ _ (lv_sub hl [2, 3, 4, 5, 1, 0] rfl) Y
  · have c_1 : ¬ (0 ≤ w) := c_1
    rw [if_neg c_1] at hu
    refine lv_iconst (v := (-1)) hx hb dX0_speedForRoom_4 (by decide) ?_
    refine lv_goto (tgt := 9) hx hb dX0_speedForRoom_5 (by decide) ?_
    refine lv_istore (lv' := [(4, .int (-1)), (0, .ref h), (1, .int w), (2, .int ro), (3, .int ch)]) hx hb dX0_speedForRoom_9 hl (by decide) rfl (fun ls hl => ?_)
    refine lv_iload_n hx hb dX0_speedForRoom_11 rfl (lv_at hl 2 rfl) ?_
    refine bAbs (v := (if 0 ≤ w then w else 0 - w)) X hl.1 m_X0_speedForRoom_84 ms_X0_speedForRoom_abs mi_X0_speedForRoom mc_X0_speedForRoom_abs (Nat.le_of_ble_eq_true rfl) (Nat.le_of_ble_eq_true rfl) ⟨Nat.zero_le _, Nat.zero_le _⟩ dX0_speedForRoom_12 rfl ?_
    refine lv_iconst (v := 1) hx hb dX0_speedForRoom_15 (by decide) ?_
    refine bSub (v := (if 0 ≤ w then w else 0 - w) - 1) X dX0_speedForRoom_16 rfl ?_
    refine lv_istore (lv' := [(5, .int ((if 0 ≤ w then w else 0 - w) - 1)), (4, .int (-1)), (0, .ref h), (1, .int w), (2, .int ro), (3, .int ch)]) hx hb dX0_speedForRoom_17 hl (by decide) rfl (fun ls hl => ?_)
    exact lp_speedForRoom l D cyC cyI h a0 a1 a2 a3 a4 a5 a6 a7 a8 a9 a10 a11 ab w ro ch o0 X hr hlk (((if 0 ≤ w then w else 0 - w) - 1).toInt.toNat + 1) (-1) ((if 0 ≤ w then w else 0 - w) - 1) (Nat.lt_succ_self _) hu _ _ _ (lv_sub hl [2, 3, 4, 5, 1, 0] rfl) Y
theorem hd_X0_takeSteps : bD1 yX0_takeSteps RX0 0 := by decide +kernel
theorem hd_X0_speedNearerToWant : bD1 yX0_speedNearerToWant RX0 1 := by decide +kernel
theorem i_X0_roll_X1 : ∀ w ∈ wsX10, w ∈ wsX0_roll := by decide +kernel
theorem f_X0_roll_94 : Cond.fieldLink RX0 94 "SwingCranes$Layout" "change" "I" ∈ wsX0_roll := by decide +kernel
theorem ni_X0_roll_X7 : Cond.initialized RX7 ∈ wsX0_roll := by decide +kernel
theorem ns_X0_roll_X7_wayToStop : Cond.static yX7_wayToStop ∈ wsX0_roll := by decide +kernel
theorem i_X0_roll_X0 : ∀ w ∈ wsX00, w ∈ wsX0_roll := by decide +kernel
theorem f_X0_roll_45 : Cond.fieldLink RX0 45 "SwingCranes$Crane" "braked" "Z" ∈ wsX0_roll := by decide +kernel
theorem f_X0_roll_18 : Cond.fieldLink RX0 18 "SwingCranes$Crane" "speed" "I" ∈ wsX0_roll := by decide +kernel
theorem hd_X0_swingOut : bD1 yX0_swingOut RX0 1 := by decide +kernel
theorem f_X0_roll_15 : Cond.fieldLink RX0 15 "SwingCranes$Crane" "place" "I" ∈ wsX0_roll := by decide +kernel
theorem hd_X0_speedForRoom : bD1 yX0_speedForRoom RX0 3 := by decide +kernel
def s_roll (a0 : Int32) (a1 : Int32) (a2 : Int32) (a3 : Int32) (a4 : Int32) (a5 : Int32) (a6 : Int32) (a8 : Int32) (a9 : Int32) (a10 : Int32) (a11 : Int32) (r2 : Int32) (r3 : Int32) (lo : Int32) (hi : Int32) : Int32 × Int32 × Int32 × Int32 × Int32 × Int32 × Int32 × Bool :=
  match s_takeSteps a6 a8 a9 a10 a11 with
  | (u_1_0, u_1_1, u_1_2) =>
    if 0 ≤ (s_speedNearerToWant a1 a3 u_1_0 r2 r3) then
      if (s_wayToStop (s_speedNearerToWant a1 a3 u_1_0 r2 r3) r2) ≤ hi then
        match s_swingOut a2 a4 a5 ((s_speedNearerToWant a1 a3 u_1_0 r2 r3) - a1) with
        | (u_4_0, u_4_1) =>
          (a0 + (s_speedNearerToWant a1 a3 u_1_0 r2 r3), (s_speedNearerToWant a1 a3 u_1_0 r2 r3), u_4_0, u_4_1, u_1_0, u_1_1, u_1_2, false)
      else
        match s_swingOut a2 a4 a5 ((s_speedForRoom (s_speedNearerToWant a1 a3 u_1_0 r2 r3) hi r2) - a1) with
        | (u_5_0, u_5_1) =>
          (a0 + (s_speedForRoom (s_speedNearerToWant a1 a3 u_1_0 r2 r3) hi r2), (s_speedForRoom (s_speedNearerToWant a1 a3 u_1_0 r2 r3) hi r2), u_5_0, u_5_1, u_1_0, u_1_1, u_1_2, true)
    else
      if (s_wayToStop (s_speedNearerToWant a1 a3 u_1_0 r2 r3) r2) ≤ lo then
        match s_swingOut a2 a4 a5 ((s_speedNearerToWant a1 a3 u_1_0 r2 r3) - a1) with
        | (u_7_0, u_7_1) =>
          (a0 + (s_speedNearerToWant a1 a3 u_1_0 r2 r3), (s_speedNearerToWant a1 a3 u_1_0 r2 r3), u_7_0, u_7_1, u_1_0, u_1_1, u_1_2, false)
      else
        match s_swingOut a2 a4 a5 ((s_speedForRoom (s_speedNearerToWant a1 a3 u_1_0 r2 r3) lo r2) - a1) with
        | (u_8_0, u_8_1) =>
          (a0 + (s_speedForRoom (s_speedNearerToWant a1 a3 u_1_0 r2 r3) lo r2), (s_speedForRoom (s_speedNearerToWant a1 a3 u_1_0 r2 r3) lo r2), u_8_0, u_8_1, u_1_0, u_1_1, u_1_2, true)
set_option maxHeartbeats 4000000 in
set_option maxRecDepth 100000 in
theorem c_roll (l : Launch) (D : va_G) (cyC cyI : ClassId) (h : Nat) (a0 : Int32) (a1 : Int32) (a2 : Int32) (a3 : Int32) (a4 : Int32) (a5 : Int32) (a6 : Int32) (a7 : Int32) (a8 : Int32) (a9 : Int32) (a10 : Int32) (a11 : Int32) (ab : Bool) (g : Nat) (gl : Nat) (gr : Nat) (r0 : Int32) (r1 : Int32) (r2 : Int32) (r3 : Int32) (r4 : Int32) (lo : Int32) (hi : Int32) (o0 : Int32) (o1 : Int32) (o2 : Int32) (o3 : Int32) (o4 : Int32) (o5 : Int32) (o6 : Int32) (o7 : Bool) (hu : s_roll a0 a1 a2 a3 a4 a5 a6 a8 a9 a10 a11 r2 r3 lo hi = (o0, o1, o2, o3, o4, o5, o6, o7)) : CV l yX0_roll wsX0_roll { frames := 3, cells := 0, slots := 0, locals := 61 } D cyC cyI [.ref h, .ref g, .int lo, .int hi] [(h, .inr (0, [.int a0, .int a1, .int a2, .int a3, .int a4, .int a5, .int a6, .int a7, .int a8, .int a9, .int a10, .int a11, .int (bB ab)])), (g, .inr (1, [.int r0, .int r1, .int r2, .int r3, .int r4, .ref gl, .ref gr]))] [(h, .inr (0, [.int o0, .int o1, .int a2, .int a3, .int o2, .int o3, .int o4, .int a7, .int (a8 - 1), .int o5, .int (a10 - 1), .int o6, .int (bB o7)])), (g, .inr (1, [.int r0, .int r1, .int r2, .int r3, .int r4, .ref gl, .ref gr]))] := by
  refine CV.of (cc := cX0_roll) (n := 6) (ret := none) (by decide +kernel) rfl (Nat.le_of_ble_eq_true rfl) ?_
  intro p_ e_ s_ m_ bl_ me_ cd_ A_ ls X Y hr hlk hl
  have hx := X.1.1
  have hb := X.1.2.1
  have hl : lv_has ls 6 [(0, .ref h), (1, .ref g), (2, .int lo), (3, .int hi)] := hl
  unfold s_roll at hu
  refine lv_aload_n hx hb dX0_roll_0 rfl (lv_at hl 0 rfl) ?_
  obtain ⟨u_1_0, u_1_1, u_1_2, hr_1⟩ := bEx3 (s_takeSteps a6 a8 a9 a10 a11)
  rw [hr_1] at hu
  dsimp only at hu
  refine bVV (As := []) (rest := []) (wc := [(h, .inr (0, [.int a0, .int a1, .int a2, .int a3, .int a4, .int a5, .int a6, .int a7, .int a8, .int a9, .int a10, .int a11, .int (bB ab)]))]) (w1 := [(h, .inr (0, [.int a0, .int a1, .int a2, .int a3, .int a4, .int a5, .int u_1_0, .int a7, .int (a8 - 1), .int u_1_1, .int (a10 - 1), .int u_1_2, .int (bB ab)]))]) (ws' := [(h, .inr (0, [.int a0, .int a1, .int a2, .int a3, .int a4, .int a5, .int u_1_0, .int a7, .int (a8 - 1), .int u_1_1, .int (a10 - 1), .int u_1_2, .int (bB ab)])), (g, .inr (1, [.int r0, .int r1, .int r2, .int r3, .int r4, .ref gl, .ref gr]))]) (ad := [h]) (wr := [(g, .inr (1, [.int r0, .int r1, .int r2, .int r3, .int r4, .ref gl, .ref gr]))]) (nn := 2) (ci := 0) (q0 := 0) X Y (c_takeSteps l D cyC cyI h a0 a1 a2 a3 a4 a5 a6 a7 a8 a9 a10 a11 ab u_1_0 u_1_1 u_1_2 hr_1) gX0_roll_X0_takeSteps rfl ⟨rfl, rfl⟩ hd_X0_takeSteps ⟨(Nat.le_of_ble_eq_true rfl), (Nat.le_of_ble_eq_true rfl)⟩ rfl rfl rfl [0] [1] rfl rfl rfl rfl rfl rfl rfl rfl (by decide) rfl rfl hl.1 (Nat.le_of_ble_eq_true rfl) ⟨Nat.zero_le _, Nat.zero_le _⟩ dX0_roll_1 (fun H locs Y => ?_)
  refine lv_aload_n hx hb dX0_roll_4 rfl (lv_at hl 0 rfl) ?_
  refine lv_aload_n hx hb dX0_roll_5 rfl (lv_at hl 1 rfl) ?_
  refine bVI0 (As := [.ref g]) (rest := []) (wc := [(h, .inr (0, [.int a0, .int a1, .int a2, .int a3, .int a4, .int a5, .int u_1_0, .int a7, .int (a8 - 1), .int u_1_1, .int (a10 - 1), .int u_1_2, .int (bB ab)])), (g, .inr (1, [.int r0, .int r1, .int r2, .int r3, .int r4, .ref gl, .ref gr]))]) (ci := 0) (q0 := 0) X Y (c_speedNearerToWant l D cyC cyI h a0 a1 a2 a3 a4 a5 u_1_0 a7 (a8 - 1) u_1_1 (a10 - 1) u_1_2 ab g gl gr r0 r1 r2 r3 r4 (s_speedNearerToWant a1 a3 u_1_0 r2 r3) rfl) gX0_roll_X0_speedNearerToWant rfl ⟨rfl, rfl⟩ hd_X0_speedNearerToWant ⟨(Nat.le_of_ble_eq_true rfl), (Nat.le_of_ble_eq_true rfl)⟩ rfl rfl rfl [0, 1] rfl rfl rfl rfl hl.1 (Nat.le_of_ble_eq_true rfl) ⟨Nat.zero_le _, Nat.zero_le _⟩ dX0_roll_6 (fun H locs Y => ?_)
  refine lv_istore (lv' := [(4, .int (s_speedNearerToWant a1 a3 u_1_0 r2 r3)), (0, .ref h), (1, .ref g), (2, .int lo), (3, .int hi)]) hx hb dX0_roll_9 hl (by decide) rfl (fun ls hl => ?_)
  refine lv_iload hx hb dX0_roll_11 (lv_at hl 0 rfl) ?_
  refine lv_if_ge (tgt := 20) hx hb dX0_roll_13 (by decide) (fun c_2 => ?_) (fun c_2 => ?_)
  · have c_2 : 0 ≤ (s_speedNearerToWant a1 a3 u_1_0 r2 r3) := c_2
    rw [if_pos c_2] at hu
    refine lv_iload_n hx hb dX0_roll_20 rfl (lv_at hl 4 rfl) ?_
    refine lv_istore (lv' := [(5, .int hi), (4, .int (s_speedNearerToWant a1 a3 u_1_0 r2 r3)), (0, .ref h), (1, .ref g), (2, .int lo), (3, .int hi)]) hx hb dX0_roll_21 hl (by decide) rfl (fun ls hl => ?_)
    refine lv_aload_n hx hb dX0_roll_23 rfl (lv_at hl 2 rfl) ?_
    refine lv_iload hx hb dX0_roll_24 (lv_at hl 1 rfl) ?_
    refine lv_aload_n hx hb dX0_roll_26 rfl (lv_at hl 3 rfl) ?_
    refine bGet (v := .int r2) (T := TX1) (N := 7) (ci := 1) X Y i_X0_roll_X1 1 rfl rfl 2 (Nat.le_of_ble_eq_true rfl) f_X0_roll_94 rfl rfl dX0_roll_27 ?_
    refine bNI (host := RX7) (As := [.int (s_speedNearerToWant a1 a3 u_1_0 r2 r3), .int r2]) (rest := [.ref h]) X Y (c_wayToStop l D cyC cyI (s_speedNearerToWant a1 a3 u_1_0 r2 r3) r2 (s_wayToStop (s_speedNearerToWant a1 a3 u_1_0 r2 r3) r2) rfl) gX0_roll_X7_wayToStop_n97 rfl ⟨rfl, rfl⟩ hd_X7_wayToStop.2 ⟨(Nat.le_of_ble_eq_true rfl), (Nat.le_of_ble_eq_true rfl)⟩ 5 rfl ni_X0_roll_X7 ns_X0_roll_X7_wayToStop rfl rfl hl.1 (Nat.le_of_ble_eq_true rfl) ⟨Nat.zero_le _, Nat.zero_le _⟩ dX0_roll_30 (fun H locs Y => ?_)
    refine lv_iload hx hb dX0_roll_33 (lv_at hl 0 rfl) ?_
    refine lv_icmp_le (tgt := 42) hx hb dX0_roll_35 (by decide) (fun c_3 => ?_) (fun c_3 => ?_)
    · have c_3 : (s_wayToStop (s_speedNearerToWant a1 a3 u_1_0 r2 r3) r2) ≤ hi := c_3
      rw [if_pos c_3] at hu
      refine lv_iconst (v := 0) hx hb dX0_roll_42 (by decide) ?_
      refine bPut (T := TX0) (N := 13) (ci := 0) (ws' := [(h, .inr (0, [.int a0, .int a1, .int a2, .int a3, .int a4, .int a5, .int u_1_0, .int a7, .int (a8 - 1), .int u_1_1, .int (a10 - 1), .int u_1_2, .int (bB false)])), (g, .inr (1, [.int r0, .int r1, .int r2, .int r3, .int r4, .ref gl, .ref gr]))]) X Y i_X0_roll_X0 tyX0 tyX0_ok nmX0 0 rfl rfl 12 (Nat.le_of_ble_eq_true rfl) f_X0_roll_45 rfl rfl rfl rfl (Nat.le_of_ble_eq_true rfl) rfl dX0_roll_43 (fun H locs Y => ?_)
      refine lv_aload_n hx hb dX0_roll_46 rfl (lv_at hl 2 rfl) ?_
      refine bGet (v := .int 0) (T := TX0) (N := 13) (ci := 0) X Y i_X0_roll_X0 0 rfl rfl 12 (Nat.le_of_ble_eq_true rfl) f_X0_roll_45 rfl rfl dX0_roll_47 ?_
      refine lv_if_eq (tgt := 67) hx hb dX0_roll_50 (by decide) (fun _ => ?_) (fun c_ => absurd (by decide) c_)
      refine lv_aload_n hx hb dX0_roll_67 rfl (lv_at hl 2 rfl) ?_
      refine lv_iload hx hb dX0_roll_68 (lv_at hl 1 rfl) ?_
      refine lv_aload_n hx hb dX0_roll_70 rfl (lv_at hl 2 rfl) ?_
      refine bGet (v := .int a1) (T := TX0) (N := 13) (ci := 0) X Y i_X0_roll_X0 0 rfl rfl 1 (Nat.le_of_ble_eq_true rfl) f_X0_roll_18 rfl rfl dX0_roll_71 ?_
      refine bSub (v := (s_speedNearerToWant a1 a3 u_1_0 r2 r3) - a1) X dX0_roll_74 rfl ?_
      obtain ⟨u_4_0, u_4_1, hr_4⟩ := bEx2 (s_swingOut a2 a4 a5 ((s_speedNearerToWant a1 a3 u_1_0 r2 r3) - a1))
      rw [hr_4] at hu
      dsimp only at hu
      refine bVV (As := [.int ((s_speedNearerToWant a1 a3 u_1_0 r2 r3) - a1)]) (rest := []) (wc := [(h, .inr (0, [.int a0, .int a1, .int a2, .int a3, .int a4, .int a5, .int u_1_0, .int a7, .int (a8 - 1), .int u_1_1, .int (a10 - 1), .int u_1_2, .int (bB false)]))]) (w1 := [(h, .inr (0, [.int a0, .int a1, .int a2, .int a3, .int u_4_0, .int u_4_1, .int u_1_0, .int a7, .int (a8 - 1), .int u_1_1, .int (a10 - 1), .int u_1_2, .int (bB false)]))]) (ws' := [(h, .inr (0, [.int a0, .int a1, .int a2, .int a3, .int u_4_0, .int u_4_1, .int u_1_0, .int a7, .int (a8 - 1), .int u_1_1, .int (a10 - 1), .int u_1_2, .int (bB false)])), (g, .inr (1, [.int r0, .int r1, .int r2, .int r3, .int r4, .ref gl, .ref gr]))]) (ad := [h]) (wr := [(g, .inr (1, [.int r0, .int r1, .int r2, .int r3, .int r4, .ref gl, .ref gr]))]) (nn := 2) (ci := 0) (q0 := 0) X Y (c_swingOut l D cyC cyI h a0 a1 a2 a3 a4 a5 u_1_0 a7 (a8 - 1) u_1_1 (a10 - 1) u_1_2 false ((s_speedNearerToWant a1 a3 u_1_0 r2 r3) - a1) u_4_0 u_4_1 hr_4) gX0_roll_X0_swingOut rfl ⟨rfl, rfl⟩ hd_X0_swingOut ⟨(Nat.le_of_ble_eq_true rfl), (Nat.le_of_ble_eq_true rfl)⟩ rfl rfl rfl [0] [1] rfl rfl rfl rfl rfl rfl rfl rfl (by decide) rfl rfl hl.1 (Nat.le_of_ble_eq_true rfl) ⟨Nat.zero_le _, Nat.zero_le _⟩ dX0_roll_75 (fun H locs Y => ?_)
      refine lv_aload_n hx hb dX0_roll_78 rfl (lv_at hl 2 rfl) ?_
      refine lv_dup hx hb dX0_roll_79 rfl ?_
      refine bGet (v := .int a0) (T := TX0) (N := 13) (ci := 0) X Y i_X0_roll_X0 0 rfl rfl 0 (Nat.le_of_ble_eq_true rfl) f_X0_roll_15 rfl rfl dX0_roll_80 ?_
      refine lv_iload hx hb dX0_roll_83 (lv_at hl 1 rfl) ?_
      refine bAdd (v := a0 + (s_speedNearerToWant a1 a3 u_1_0 r2 r3)) X dX0_roll_85 rfl ?_
      refine bPut (T := TX0) (N := 13) (ci := 0) (ws' := [(h, .inr (0, [.int (a0 + (s_speedNearerToWant a1 a3 u_1_0 r2 r3)), .int a1, .int a2, .int a3, .int u_4_0, .int u_4_1, .int u_1_0, .int a7, .int (a8 - 1), .int u_1_1, .int (a10 - 1), .int u_1_2, .int (bB false)])), (g, .inr (1, [.int r0, .int r1, .int r2, .int r3, .int r4, .ref gl, .ref gr]))]) X Y i_X0_roll_X0 tyX0 tyX0_ok nmX0 0 rfl rfl 0 (Nat.le_of_ble_eq_true rfl) f_X0_roll_15 rfl rfl rfl rfl (Nat.le_of_ble_eq_true rfl) rfl dX0_roll_86 (fun H locs Y => ?_)
      refine lv_aload_n hx hb dX0_roll_89 rfl (lv_at hl 2 rfl) ?_
      refine lv_iload hx hb dX0_roll_90 (lv_at hl 1 rfl) ?_
      refine bPut (T := TX0) (N := 13) (ci := 0) (ws' := [(h, .inr (0, [.int (a0 + (s_speedNearerToWant a1 a3 u_1_0 r2 r3)), .int (s_speedNearerToWant a1 a3 u_1_0 r2 r3), .int a2, .int a3, .int u_4_0, .int u_4_1, .int u_1_0, .int a7, .int (a8 - 1), .int u_1_1, .int (a10 - 1), .int u_1_2, .int (bB false)])), (g, .inr (1, [.int r0, .int r1, .int r2, .int r3, .int r4, .ref gl, .ref gr]))]) X Y i_X0_roll_X0 tyX0 tyX0_ok nmX0 0 rfl rfl 1 (Nat.le_of_ble_eq_true rfl) f_X0_roll_18 rfl rfl rfl rfl (Nat.le_of_ble_eq_true rfl) rfl dX0_roll_92 (fun H locs Y => ?_)
      have h9 := (Prod.mk.inj hu).1; replace hu := (Prod.mk.inj hu).2; subst h9
      have h9 := (Prod.mk.inj hu).1; replace hu := (Prod.mk.inj hu).2; subst h9
      have h9 := (Prod.mk.inj hu).1; replace hu := (Prod.mk.inj hu).2; subst h9
      have h9 := (Prod.mk.inj hu).1; replace hu := (Prod.mk.inj hu).2; subst h9
      have h9 := (Prod.mk.inj hu).1; replace hu := (Prod.mk.inj hu).2; subst h9
      have h9 := (Prod.mk.inj hu).1; replace hu := (Prod.mk.inj hu).2; subst h9
      have h9 := (Prod.mk.inj hu).1; replace hu := (Prod.mk.inj hu).2; subst h9
      subst hu
      exact bEndV X Y hr hlk dX0_roll_95 rfl
    · have c_3 : ¬ ((s_wayToStop (s_speedNearerToWant a1 a3 u_1_0 r2 r3) r2) ≤ hi) := c_3
      rw [if_neg c_3] at hu
      refine lv_iconst (v := 1) hx hb dX0_roll_38 (by decide) ?_
      refine lv_goto (tgt := 43) hx hb dX0_roll_39 (by decide) ?_
      refine bPut (T := TX0) (N := 13) (ci := 0) (ws' := [(h, .inr (0, [.int a0, .int a1, .int a2, .int a3, .int a4, .int a5, .int u_1_0, .int a7, .int (a8 - 1), .int u_1_1, .int (a10 - 1), .int u_1_2, .int (bB true)])), (g, .inr (1, [.int r0, .int r1, .int r2, .int r3, .int r4, .ref gl, .ref gr]))]) X Y i_X0_roll_X0 tyX0 tyX0_ok nmX0 0 rfl rfl 12 (Nat.le_of_ble_eq_true rfl) f_X0_roll_45 rfl rfl rfl rfl (Nat.le_of_ble_eq_true rfl) rfl dX0_roll_43 (fun H locs Y => ?_)
      refine lv_aload_n hx hb dX0_roll_46 rfl (lv_at hl 2 rfl) ?_
      refine bGet (v := .int 1) (T := TX0) (N := 13) (ci := 0) X Y i_X0_roll_X0 0 rfl rfl 12 (Nat.le_of_ble_eq_true rfl) f_X0_roll_45 rfl rfl dX0_roll_47 ?_
      refine lv_if_eq (tgt := 67) hx hb dX0_roll_50 (by decide) (fun c_ => absurd c_ (by decide)) (fun _ => ?_)
      refine lv_aload_n hx hb dX0_roll_53 rfl (lv_at hl 2 rfl) ?_
      refine lv_iload hx hb dX0_roll_54 (lv_at hl 1 rfl) ?_
      refine lv_iload hx hb dX0_roll_56 (lv_at hl 0 rfl) ?_
      refine lv_aload_n hx hb dX0_roll_58 rfl (lv_at hl 3 rfl) ?_
      refine bGet (v := .int r2) (T := TX1) (N := 7) (ci := 1) X Y i_X0_roll_X1 1 rfl rfl 2 (Nat.le_of_ble_eq_true rfl) f_X0_roll_94 rfl rfl dX0_roll_59 ?_
      refine bVI0 (As := [.int (s_speedNearerToWant a1 a3 u_1_0 r2 r3), .int hi, .int r2]) (rest := []) (wc := [(h, .inr (0, [.int a0, .int a1, .int a2, .int a3, .int a4, .int a5, .int u_1_0, .int a7, .int (a8 - 1), .int u_1_1, .int (a10 - 1), .int u_1_2, .int (bB true)]))]) (ci := 0) (q0 := 0) X Y (c_speedForRoom l D cyC cyI h a0 a1 a2 a3 a4 a5 u_1_0 a7 (a8 - 1) u_1_1 (a10 - 1) u_1_2 true (s_speedNearerToWant a1 a3 u_1_0 r2 r3) hi r2 (s_speedForRoom (s_speedNearerToWant a1 a3 u_1_0 r2 r3) hi r2) rfl) gX0_roll_X0_speedForRoom rfl ⟨rfl, rfl⟩ hd_X0_speedForRoom ⟨(Nat.le_of_ble_eq_true rfl), (Nat.le_of_ble_eq_true rfl)⟩ rfl rfl rfl [0] rfl rfl rfl rfl hl.1 (Nat.le_of_ble_eq_true rfl) ⟨Nat.zero_le _, Nat.zero_le _⟩ dX0_roll_62 (fun H locs Y => ?_)
      refine lv_istore (lv' := [(4, .int (s_speedForRoom (s_speedNearerToWant a1 a3 u_1_0 r2 r3) hi r2)), (5, .int hi), (0, .ref h), (1, .ref g), (2, .int lo), (3, .int hi)]) hx hb dX0_roll_65 hl (by decide) rfl (fun ls hl => ?_)
      refine lv_aload_n hx hb dX0_roll_67 rfl (lv_at hl 2 rfl) ?_
      refine lv_iload hx hb dX0_roll_68 (lv_at hl 0 rfl) ?_
      refine lv_aload_n hx hb dX0_roll_70 rfl (lv_at hl 2 rfl) ?_
      refine bGet (v := .int a1) (T := TX0) (N := 13) (ci := 0) X Y i_X0_roll_X0 0 rfl rfl 1 (Nat.le_of_ble_eq_true rfl) f_X0_roll_18 rfl rfl dX0_roll_71 ?_
      refine bSub (v := (s_speedForRoom (s_speedNearerToWant a1 a3 u_1_0 r2 r3) hi r2) - a1) X dX0_roll_74 rfl ?_
      obtain ⟨u_5_0, u_5_1, hr_5⟩ := bEx2 (s_swingOut a2 a4 a5 ((s_speedForRoom (s_speedNearerToWant a1 a3 u_1_0 r2 r3) hi r2) - a1))
      rw [hr_5] at hu
      dsimp only at hu
      refine bVV (As := [.int ((s_speedForRoom (s_speedNearerToWant a1 a3 u_1_0 r2 r3) hi r2) - a1)]) (rest := []) (wc := [(h, .inr (0, [.int a0, .int a1, .int a2, .int a3, .int a4, .int a5, .int u_1_0, .int a7, .int (a8 - 1), .int u_1_1, .int (a10 - 1), .int u_1_2, .int (bB true)]))]) (w1 := [(h, .inr (0, [.int a0, .int a1, .int a2, .int a3, .int u_5_0, .int u_5_1, .int u_1_0, .int a7, .int (a8 - 1), .int u_1_1, .int (a10 - 1), .int u_1_2, .int (bB true)]))]) (ws' := [(h, .inr (0, [.int a0, .int a1, .int a2, .int a3, .int u_5_0, .int u_5_1, .int u_1_0, .int a7, .int (a8 - 1), .int u_1_1, .int (a10 - 1), .int u_1_2, .int (bB true)])), (g, .inr (1, [.int r0, .int r1, .int r2, .int r3, .int r4, .ref gl, .ref gr]))]) (ad := [h]) (wr := [(g, .inr (1, [.int r0, .int r1, .int r2, .int r3, .int r4, .ref gl, .ref gr]))]) (nn := 2) (ci := 0) (q0 := 0) X Y (c_swingOut l D cyC cyI h a0 a1 a2 a3 a4 a5 u_1_0 a7 (a8 - 1) u_1_1 (a10 - 1) u_1_2 true ((s_speedForRoom (s_speedNearerToWant a1 a3 u_1_0 r2 r3) hi r2) - a1) u_5_0 u_5_1 hr_5) gX0_roll_X0_swingOut rfl ⟨rfl, rfl⟩ hd_X0_swingOut ⟨(Nat.le_of_ble_eq_true rfl), (Nat.le_of_ble_eq_true rfl)⟩ rfl rfl rfl [0] [1] rfl rfl rfl rfl rfl rfl rfl rfl (by decide) rfl rfl hl.1 (Nat.le_of_ble_eq_true rfl) ⟨Nat.zero_le _, Nat.zero_le _⟩ dX0_roll_75 (fun H locs Y => ?_)
      refine lv_aload_n hx hb dX0_roll_78 rfl (lv_at hl 2 rfl) ?_
      refine lv_dup hx hb dX0_roll_79 rfl ?_
      refine bGet (v := .int a0) (T := TX0) (N := 13) (ci := 0) X Y i_X0_roll_X0 0 rfl rfl 0 (Nat.le_of_ble_eq_true rfl) f_X0_roll_15 rfl rfl dX0_roll_80 ?_
      refine lv_iload hx hb dX0_roll_83 (lv_at hl 0 rfl) ?_
      refine bAdd (v := a0 + (s_speedForRoom (s_speedNearerToWant a1 a3 u_1_0 r2 r3) hi r2)) X dX0_roll_85 rfl ?_
      refine bPut (T := TX0) (N := 13) (ci := 0) (ws' := [(h, .inr (0, [.int (a0 + (s_speedForRoom (s_speedNearerToWant a1 a3 u_1_0 r2 r3) hi r2)), .int a1, .int a2, .int a3, .int u_5_0, .int u_5_1, .int u_1_0, .int a7, .int (a8 - 1), .int u_1_1, .int (a10 - 1), .int u_1_2, .int (bB true)])), (g, .inr (1, [.int r0, .int r1, .int r2, .int r3, .int r4, .ref gl, .ref gr]))]) X Y i_X0_roll_X0 tyX0 tyX0_ok nmX0 0 rfl rfl 0 (Nat.le_of_ble_eq_true rfl) f_X0_roll_15 rfl rfl rfl rfl (Nat.le_of_ble_eq_true rfl) rfl dX0_roll_86 (fun H locs Y => ?_)
      refine lv_aload_n hx hb dX0_roll_89 rfl (lv_at hl 2 rfl) ?_
      refine lv_iload hx hb dX0_roll_90 (lv_at hl 0 rfl) ?_
      refine bPut (T := TX0) (N := 13) (ci := 0) (ws' := [(h, .inr (0, [.int (a0 + (s_speedForRoom (s_speedNearerToWant a1 a3 u_1_0 r2 r3) hi r2)), .int (s_speedForRoom (s_speedNearerToWant a1 a3 u_1_0 r2 r3) hi r2), .int a2, .int a3, .int u_5_0, .int u_5_1, .int u_1_0, .int a7, .int (a8 - 1), .int u_1_1, .int (a10 - 1), .int u_1_2, .int (bB true)])), (g, .inr (1, [.int r0, .int r1, .int r2, .int r3, .int r4, .ref gl, .ref gr]))]) X Y i_X0_roll_X0 tyX0 tyX0_ok nmX0 0 rfl rfl 1 (Nat.le_of_ble_eq_true rfl) f_X0_roll_18 rfl rfl rfl rfl (Nat.le_of_ble_eq_true rfl) rfl dX0_roll_92 (fun H locs Y => ?_)
      have h9 := (Prod.mk.inj hu).1; replace hu := (Prod.mk.inj hu).2; subst h9
      have h9 := (Prod.mk.inj hu).1; replace hu := (Prod.mk.inj hu).2; subst h9
      have h9 := (Prod.mk.inj hu).1; replace hu := (Prod.mk.inj hu).2; subst h9
      have h9 := (Prod.mk.inj hu).1; replace hu := (Prod.mk.inj hu).2; subst h9
      have h9 := (Prod.mk.inj hu).1; replace hu := (Prod.mk.inj hu).2; subst h9
      have h9 := (Prod.mk.inj hu).1; replace hu := (Prod.mk.inj hu).2; subst h9
      have h9 := (Prod.mk.inj hu).1; replace hu := (Prod.mk.inj hu).2; subst h9
      subst hu
      exact bEndV X Y hr hlk dX0_roll_95 rfl
  · have c_2 : ¬ (0 ≤ (s_speedNearerToWant a1 a3 u_1_0 r2 r3)) := c_2
    rw [if_neg c_2] at hu
    refine lv_iload_n hx hb dX0_roll_16 rfl (lv_at hl 3 rfl) ?_
    refine lv_goto (tgt := 21) hx hb dX0_roll_17 (by decide) ?_
    refine lv_istore (lv' := [(5, .int lo), (4, .int (s_speedNearerToWant a1 a3 u_1_0 r2 r3)), (0, .ref h), (1, .ref g), (2, .int lo), (3, .int hi)]) hx hb dX0_roll_21 hl (by decide) rfl (fun ls hl => ?_)
    refine lv_aload_n hx hb dX0_roll_23 rfl (lv_at hl 2 rfl) ?_
    refine lv_iload hx hb dX0_roll_24 (lv_at hl 1 rfl) ?_
    refine lv_aload_n hx hb dX0_roll_26 rfl (lv_at hl 3 rfl) ?_
    refine bGet (v := .int r2) (T := TX1) (N := 7) (ci := 1) X Y i_X0_roll_X1 1 rfl rfl 2 (Nat.le_of_ble_eq_true rfl) f_X0_roll_94 rfl rfl dX0_roll_27 ?_
    refine bNI (host := RX7) (As := [.int (s_speedNearerToWant a1 a3 u_1_0 r2 r3), .int r2]) (rest := [.ref h]) X Y (c_wayToStop l D cyC cyI (s_speedNearerToWant a1 a3 u_1_0 r2 r3) r2 (s_wayToStop (s_speedNearerToWant a1 a3 u_1_0 r2 r3) r2) rfl) gX0_roll_X7_wayToStop_n97 rfl ⟨rfl, rfl⟩ hd_X7_wayToStop.2 ⟨(Nat.le_of_ble_eq_true rfl), (Nat.le_of_ble_eq_true rfl)⟩ 5 rfl ni_X0_roll_X7 ns_X0_roll_X7_wayToStop rfl rfl hl.1 (Nat.le_of_ble_eq_true rfl) ⟨Nat.zero_le _, Nat.zero_le _⟩ dX0_roll_30 (fun H locs Y => ?_)
    refine lv_iload hx hb dX0_roll_33 (lv_at hl 0 rfl) ?_
    refine lv_icmp_le (tgt := 42) hx hb dX0_roll_35 (by decide) (fun c_6 => ?_) (fun c_6 => ?_)
    · have c_6 : (s_wayToStop (s_speedNearerToWant a1 a3 u_1_0 r2 r3) r2) ≤ lo := c_6
      rw [if_pos c_6] at hu
      refine lv_iconst (v := 0) hx hb dX0_roll_42 (by decide) ?_
      refine bPut (T := TX0) (N := 13) (ci := 0) (ws' := [(h, .inr (0, [.int a0, .int a1, .int a2, .int a3, .int a4, .int a5, .int u_1_0, .int a7, .int (a8 - 1), .int u_1_1, .int (a10 - 1), .int u_1_2, .int (bB false)])), (g, .inr (1, [.int r0, .int r1, .int r2, .int r3, .int r4, .ref gl, .ref gr]))]) X Y i_X0_roll_X0 tyX0 tyX0_ok nmX0 0 rfl rfl 12 (Nat.le_of_ble_eq_true rfl) f_X0_roll_45 rfl rfl rfl rfl (Nat.le_of_ble_eq_true rfl) rfl dX0_roll_43 (fun H locs Y => ?_)
      refine lv_aload_n hx hb dX0_roll_46 rfl (lv_at hl 2 rfl) ?_
      refine bGet (v := .int 0) (T := TX0) (N := 13) (ci := 0) X Y i_X0_roll_X0 0 rfl rfl 12 (Nat.le_of_ble_eq_true rfl) f_X0_roll_45 rfl rfl dX0_roll_47 ?_
      refine lv_if_eq (tgt := 67) hx hb dX0_roll_50 (by decide) (fun _ => ?_) (fun c_ => absurd (by decide) c_)
      refine lv_aload_n hx hb dX0_roll_67 rfl (lv_at hl 2 rfl) ?_
      refine lv_iload hx hb dX0_roll_68 (lv_at hl 1 rfl) ?_
      refine lv_aload_n hx hb dX0_roll_70 rfl (lv_at hl 2 rfl) ?_
      refine bGet (v := .int a1) (T := TX0) (N := 13) (ci := 0) X Y i_X0_roll_X0 0 rfl rfl 1 (Nat.le_of_ble_eq_true rfl) f_X0_roll_18 rfl rfl dX0_roll_71 ?_
      refine bSub (v := (s_speedNearerToWant a1 a3 u_1_0 r2 r3) - a1) X dX0_roll_74 rfl ?_
      obtain ⟨u_7_0, u_7_1, hr_7⟩ := bEx2 (s_swingOut a2 a4 a5 ((s_speedNearerToWant a1 a3 u_1_0 r2 r3) - a1))
      rw [hr_7] at hu
      dsimp only at hu
      refine bVV (As := [.int ((s_speedNearerToWant a1 a3 u_1_0 r2 r3) - a1)]) (rest := []) (wc := [(h, .inr (0, [.int a0, .int a1, .int a2, .int a3, .int a4, .int a5, .int u_1_0, .int a7, .int (a8 - 1), .int u_1_1, .int (a10 - 1), .int u_1_2, .int (bB false)]))]) (w1 := [(h, .inr (0, [.int a0, .int a1, .int a2, .int a3, .int u_7_0, .int u_7_1, .int u_1_0, .int a7, .int (a8 - 1), .int u_1_1, .int (a10 - 1), .int u_1_2, .int (bB false)]))]) (ws' := [(h, .inr (0, [.int a0, .int a1, .int a2, .int a3, .int u_7_0, .int u_7_1, .int u_1_0, .int a7, .int (a8 - 1), .int u_1_1, .int (a10 - 1), .int u_1_2, .int (bB false)])), (g, .inr (1, [.int r0, .int r1, .int r2, .int r3, .int r4, .ref gl, .ref gr]))]) (ad := [h]) (wr := [(g, .inr (1, [.int r0, .int r1, .int r2, .int r3, .int r4, .ref gl, .ref gr]))]) (nn := 2) (ci := 0) (q0 := 0) X Y (c_swingOut l D cyC cyI h a0 a1 a2 a3 a4 a5 u_1_0 a7 (a8 - 1) u_1_1 (a10 - 1) u_1_2 false ((s_speedNearerToWant a1 a3 u_1_0 r2 r3) - a1) u_7_0 u_7_1 hr_7) gX0_roll_X0_swingOut rfl ⟨rfl, rfl⟩ hd_X0_swingOut ⟨(Nat.le_of_ble_eq_true rfl), (Nat.le_of_ble_eq_true rfl)⟩ rfl rfl rfl [0] [1] rfl rfl rfl rfl rfl rfl rfl rfl (by decide) rfl rfl hl.1 (Nat.le_of_ble_eq_true rfl) ⟨Nat.zero_le _, Nat.zero_le _⟩ dX0_roll_75 (fun H locs Y => ?_)
      refine lv_aload_n hx hb dX0_roll_78 rfl (lv_at hl 2 rfl) ?_
      refine lv_dup hx hb dX0_roll_79 rfl ?_
      refine bGet (v := .int a0) (T := TX0) (N := 13) (ci := 0) X Y i_X0_roll_X0 0 rfl rfl 0 (Nat.le_of_ble_eq_true rfl) f_X0_roll_15 rfl rfl dX0_roll_80 ?_
      refine lv_iload hx hb dX0_roll_83 (lv_at hl 1 rfl) ?_
      refine bAdd (v := a0 + (s_speedNearerToWant a1 a3 u_1_0 r2 r3)) X dX0_roll_85 rfl ?_
      refine bPut (T := TX0) (N := 13) (ci := 0) (ws' := [(h, .inr (0, [.int (a0 + (s_speedNearerToWant a1 a3 u_1_0 r2 r3)), .int a1, .int a2, .int a3, .int u_7_0, .int u_7_1, .int u_1_0, .int a7, .int (a8 - 1), .int u_1_1, .int (a10 - 1), .int u_1_2, .int (bB false)])), (g, .inr (1, [.int r0, .int r1, .int r2, .int r3, .int r4, .ref gl, .ref gr]))]) X Y i_X0_roll_X0 tyX0 tyX0_ok nmX0 0 rfl rfl 0 (Nat.le_of_ble_eq_true rfl) f_X0_roll_15 rfl rfl rfl rfl (Nat.le_of_ble_eq_true rfl) rfl dX0_roll_86 (fun H locs Y => ?_)
      refine lv_aload_n hx hb dX0_roll_89 rfl (lv_at hl 2 rfl) ?_
      refine lv_iload hx hb dX0_roll_90 (lv_at hl 1 rfl) ?_
      refine bPut (T := TX0) (N := 13) (ci := 0) (ws' := [(h, .inr (0, [.int (a0 + (s_speedNearerToWant a1 a3 u_1_0 r2 r3)), .int (s_speedNearerToWant a1 a3 u_1_0 r2 r3), .int a2, .int a3, .int u_7_0, .int u_7_1, .int u_1_0, .int a7, .int (a8 - 1), .int u_1_1, .int (a10 - 1), .int u_1_2, .int (bB false)])), (g, .inr (1, [.int r0, .int r1, .int r2, .int r3, .int r4, .ref gl, .ref gr]))]) X Y i_X0_roll_X0 tyX0 tyX0_ok nmX0 0 rfl rfl 1 (Nat.le_of_ble_eq_true rfl) f_X0_roll_18 rfl rfl rfl rfl (Nat.le_of_ble_eq_true rfl) rfl dX0_roll_92 (fun H locs Y => ?_)
      have h9 := (Prod.mk.inj hu).1; replace hu := (Prod.mk.inj hu).2; subst h9
      have h9 := (Prod.mk.inj hu).1; replace hu := (Prod.mk.inj hu).2; subst h9
      have h9 := (Prod.mk.inj hu).1; replace hu := (Prod.mk.inj hu).2; subst h9
      have h9 := (Prod.mk.inj hu).1; replace hu := (Prod.mk.inj hu).2; subst h9
      have h9 := (Prod.mk.inj hu).1; replace hu := (Prod.mk.inj hu).2; subst h9
      have h9 := (Prod.mk.inj hu).1; replace hu := (Prod.mk.inj hu).2; subst h9
      have h9 := (Prod.mk.inj hu).1; replace hu := (Prod.mk.inj hu).2; subst h9
      subst hu
      exact bEndV X Y hr hlk dX0_roll_95 rfl
    · have c_6 : ¬ ((s_wayToStop (s_speedNearerToWant a1 a3 u_1_0 r2 r3) r2) ≤ lo) := c_6
      rw [if_neg c_6] at hu
      refine lv_iconst (v := 1) hx hb dX0_roll_38 (by decide) ?_
      refine lv_goto (tgt := 43) hx hb dX0_roll_39 (by decide) ?_
      refine bPut (T := TX0) (N := 13) (ci := 0) (ws' := [(h, .inr (0, [.int a0, .int a1, .int a2, .int a3, .int a4, .int a5, .int u_1_0, .int a7, .int (a8 - 1), .int u_1_1, .int (a10 - 1), .int u_1_2, .int (bB true)])), (g, .inr (1, [.int r0, .int r1, .int r2, .int r3, .int r4, .ref gl, .ref gr]))]) X Y i_X0_roll_X0 tyX0 tyX0_ok nmX0 0 rfl rfl 12 (Nat.le_of_ble_eq_true rfl) f_X0_roll_45 rfl rfl rfl rfl (Nat.le_of_ble_eq_true rfl) rfl dX0_roll_43 (fun H locs Y => ?_)
      refine lv_aload_n hx hb dX0_roll_46 rfl (lv_at hl 2 rfl) ?_
      refine bGet (v := .int 1) (T := TX0) (N := 13) (ci := 0) X Y i_X0_roll_X0 0 rfl rfl 12 (Nat.le_of_ble_eq_true rfl) f_X0_roll_45 rfl rfl dX0_roll_47 ?_
      refine lv_if_eq (tgt := 67) hx hb dX0_roll_50 (by decide) (fun c_ => absurd c_ (by decide)) (fun _ => ?_)
      refine lv_aload_n hx hb dX0_roll_53 rfl (lv_at hl 2 rfl) ?_
      refine lv_iload hx hb dX0_roll_54 (lv_at hl 1 rfl) ?_
      refine lv_iload hx hb dX0_roll_56 (lv_at hl 0 rfl) ?_
      refine lv_aload_n hx hb dX0_roll_58 rfl (lv_at hl 3 rfl) ?_
      refine bGet (v := .int r2) (T := TX1) (N := 7) (ci := 1) X Y i_X0_roll_X1 1 rfl rfl 2 (Nat.le_of_ble_eq_true rfl) f_X0_roll_94 rfl rfl dX0_roll_59 ?_
      refine bVI0 (As := [.int (s_speedNearerToWant a1 a3 u_1_0 r2 r3), .int lo, .int r2]) (rest := []) (wc := [(h, .inr (0, [.int a0, .int a1, .int a2, .int a3, .int a4, .int a5, .int u_1_0, .int a7, .int (a8 - 1), .int u_1_1, .int (a10 - 1), .int u_1_2, .int (bB true)]))]) (ci := 0) (q0 := 0) X Y (c_speedForRoom l D cyC cyI h a0 a1 a2 a3 a4 a5 u_1_0 a7 (a8 - 1) u_1_1 (a10 - 1) u_1_2 true (s_speedNearerToWant a1 a3 u_1_0 r2 r3) lo r2 (s_speedForRoom (s_speedNearerToWant a1 a3 u_1_0 r2 r3) lo r2) rfl) gX0_roll_X0_speedForRoom rfl ⟨rfl, rfl⟩ hd_X0_speedForRoom ⟨(Nat.le_of_ble_eq_true rfl), (Nat.le_of_ble_eq_true rfl)⟩ rfl rfl rfl [0] rfl rfl rfl rfl hl.1 (Nat.le_of_ble_eq_true rfl) ⟨Nat.zero_le _, Nat.zero_le _⟩ dX0_roll_62 (fun H locs Y => ?_)
      refine lv_istore (lv' := [(4, .int (s_speedForRoom (s_speedNearerToWant a1 a3 u_1_0 r2 r3) lo r2)), (5, .int lo), (0, .ref h), (1, .ref g), (2, .int lo), (3, .int hi)]) hx hb dX0_roll_65 hl (by decide) rfl (fun ls hl => ?_)
      refine lv_aload_n hx hb dX0_roll_67 rfl (lv_at hl 2 rfl) ?_
      refine lv_iload hx hb dX0_roll_68 (lv_at hl 0 rfl) ?_
      refine lv_aload_n hx hb dX0_roll_70 rfl (lv_at hl 2 rfl) ?_
      refine bGet (v := .int a1) (T := TX0) (N := 13) (ci := 0) X Y i_X0_roll_X0 0 rfl rfl 1 (Nat.le_of_ble_eq_true rfl) f_X0_roll_18 rfl rfl dX0_roll_71 ?_
      refine bSub (v := (s_speedForRoom (s_speedNearerToWant a1 a3 u_1_0 r2 r3) lo r2) - a1) X dX0_roll_74 rfl ?_
      obtain ⟨u_8_0, u_8_1, hr_8⟩ := bEx2 (s_swingOut a2 a4 a5 ((s_speedForRoom (s_speedNearerToWant a1 a3 u_1_0 r2 r3) lo r2) - a1))
      rw [hr_8] at hu
      dsimp only at hu
      refine bVV (As := [.int ((s_speedForRoom (s_speedNearerToWant a1 a3 u_1_0 r2 r3) lo r2) - a1)]) (rest := []) (wc := [(h, .inr (0, [.int a0, .int a1, .int a2, .int a3, .int a4, .int a5, .int u_1_0, .int a7, .int (a8 - 1), .int u_1_1, .int (a10 - 1), .int u_1_2, .int (bB true)]))]) (w1 := [(h, .inr (0, [.int a0, .int a1, .int a2, .int a3, .int u_8_0, .int u_8_1, .int u_1_0, .int a7, .int (a8 - 1), .int u_1_1, .int (a10 - 1), .int u_1_2, .int (bB true)]))]) (ws' := [(h, .inr (0, [.int a0, .int a1, .int a2, .int a3, .int u_8_0, .int u_8_1, .int u_1_0, .int a7, .int (a8 - 1), .int u_1_1, .int (a10 - 1), .int u_1_2, .int (bB true)])), (g, .inr (1, [.int r0, .int r1, .int r2, .int r3, .int r4, .ref gl, .ref gr]))]) (ad := [h]) (wr := [(g, .inr (1, [.int r0, .int r1, .int r2, .int r3, .int r4, .ref gl, .ref gr]))]) (nn := 2) (ci := 0) (q0 := 0) X Y (c_swingOut l D cyC cyI h a0 a1 a2 a3 a4 a5 u_1_0 a7 (a8 - 1) u_1_1 (a10 - 1) u_1_2 true ((s_speedForRoom (s_speedNearerToWant a1 a3 u_1_0 r2 r3) lo r2) - a1) u_8_0 u_8_1 hr_8) gX0_roll_X0_swingOut rfl ⟨rfl, rfl⟩ hd_X0_swingOut ⟨(Nat.le_of_ble_eq_true rfl), (Nat.le_of_ble_eq_true rfl)⟩ rfl rfl rfl [0] [1] rfl rfl rfl rfl rfl rfl rfl rfl (by decide) rfl rfl hl.1 (Nat.le_of_ble_eq_true rfl) ⟨Nat.zero_le _, Nat.zero_le _⟩ dX0_roll_75 (fun H locs Y => ?_)
      refine lv_aload_n hx hb dX0_roll_78 rfl (lv_at hl 2 rfl) ?_
      refine lv_dup hx hb dX0_roll_79 rfl ?_
      refine bGet (v := .int a0) (T := TX0) (N := 13) (ci := 0) X Y i_X0_roll_X0 0 rfl rfl 0 (Nat.le_of_ble_eq_true rfl) f_X0_roll_15 rfl rfl dX0_roll_80 ?_
      refine lv_iload hx hb dX0_roll_83 (lv_at hl 0 rfl) ?_
      refine bAdd (v := a0 + (s_speedForRoom (s_speedNearerToWant a1 a3 u_1_0 r2 r3) lo r2)) X dX0_roll_85 rfl ?_
      refine bPut (T := TX0) (N := 13) (ci := 0) (ws' := [(h, .inr (0, [.int (a0 + (s_speedForRoom (s_speedNearerToWant a1 a3 u_1_0 r2 r3) lo r2)), .int a1, .int a2, .int a3, .int u_8_0, .int u_8_1, .int u_1_0, .int a7, .int (a8 - 1), .int u_1_1, .int (a10 - 1), .int u_1_2, .int (bB true)])), (g, .inr (1, [.int r0, .int r1, .int r2, .int r3, .int r4, .ref gl, .ref gr]))]) X Y i_X0_roll_X0 tyX0 tyX0_ok nmX0 0 rfl rfl 0 (Nat.le_of_ble_eq_true rfl) f_X0_roll_15 rfl rfl rfl rfl (Nat.le_of_ble_eq_true rfl) rfl dX0_roll_86 (fun H locs Y => ?_)
      refine lv_aload_n hx hb dX0_roll_89 rfl (lv_at hl 2 rfl) ?_
      refine lv_iload hx hb dX0_roll_90 (lv_at hl 0 rfl) ?_
      refine bPut (T := TX0) (N := 13) (ci := 0) (ws' := [(h, .inr (0, [.int (a0 + (s_speedForRoom (s_speedNearerToWant a1 a3 u_1_0 r2 r3) lo r2)), .int (s_speedForRoom (s_speedNearerToWant a1 a3 u_1_0 r2 r3) lo r2), .int a2, .int a3, .int u_8_0, .int u_8_1, .int u_1_0, .int a7, .int (a8 - 1), .int u_1_1, .int (a10 - 1), .int u_1_2, .int (bB true)])), (g, .inr (1, [.int r0, .int r1, .int r2, .int r3, .int r4, .ref gl, .ref gr]))]) X Y i_X0_roll_X0 tyX0 tyX0_ok nmX0 0 rfl rfl 1 (Nat.le_of_ble_eq_true rfl) f_X0_roll_18 rfl rfl rfl rfl (Nat.le_of_ble_eq_true rfl) rfl dX0_roll_92 (fun H locs Y => ?_)
      have h9 := (Prod.mk.inj hu).1; replace hu := (Prod.mk.inj hu).2; subst h9
      have h9 := (Prod.mk.inj hu).1; replace hu := (Prod.mk.inj hu).2; subst h9
      have h9 := (Prod.mk.inj hu).1; replace hu := (Prod.mk.inj hu).2; subst h9
      have h9 := (Prod.mk.inj hu).1; replace hu := (Prod.mk.inj hu).2; subst h9
      have h9 := (Prod.mk.inj hu).1; replace hu := (Prod.mk.inj hu).2; subst h9
      have h9 := (Prod.mk.inj hu).1; replace hu := (Prod.mk.inj hu).2; subst h9
      have h9 := (Prod.mk.inj hu).1; replace hu := (Prod.mk.inj hu).2; subst h9
      subst hu
      exact bEndV X Y hr hlk dX0_roll_95 rfl
theorem i_X0_copyFrom_X0 : ∀ w ∈ wsX00, w ∈ wsX0_copyFrom := by decide +kernel
theorem f_X0_copyFrom_15 : Cond.fieldLink RX0 15 "SwingCranes$Crane" "place" "I" ∈ wsX0_copyFrom := by decide +kernel
theorem f_X0_copyFrom_18 : Cond.fieldLink RX0 18 "SwingCranes$Crane" "speed" "I" ∈ wsX0_copyFrom := by decide +kernel
theorem f_X0_copyFrom_24 : Cond.fieldLink RX0 24 "SwingCranes$Crane" "rope" "I" ∈ wsX0_copyFrom := by decide +kernel
theorem f_X0_copyFrom_28 : Cond.fieldLink RX0 28 "SwingCranes$Crane" "load" "I" ∈ wsX0_copyFrom := by decide +kernel
theorem f_X0_copyFrom_29 : Cond.fieldLink RX0 29 "SwingCranes$Crane" "swing" "I" ∈ wsX0_copyFrom := by decide +kernel
theorem f_X0_copyFrom_32 : Cond.fieldLink RX0 32 "SwingCranes$Crane" "rate" "I" ∈ wsX0_copyFrom := by decide +kernel
theorem f_X0_copyFrom_35 : Cond.fieldLink RX0 35 "SwingCranes$Crane" "want" "I" ∈ wsX0_copyFrom := by decide +kernel
theorem f_X0_copyFrom_38 : Cond.fieldLink RX0 38 "SwingCranes$Crane" "target" "I" ∈ wsX0_copyFrom := by decide +kernel
theorem f_X0_copyFrom_49 : Cond.fieldLink RX0 49 "SwingCranes$Crane" "soonIn" "I" ∈ wsX0_copyFrom := by decide +kernel
theorem f_X0_copyFrom_52 : Cond.fieldLink RX0 52 "SwingCranes$Crane" "soonBy" "I" ∈ wsX0_copyFrom := by decide +kernel
theorem f_X0_copyFrom_55 : Cond.fieldLink RX0 55 "SwingCranes$Crane" "laterIn" "I" ∈ wsX0_copyFrom := by decide +kernel
theorem f_X0_copyFrom_58 : Cond.fieldLink RX0 58 "SwingCranes$Crane" "laterBy" "I" ∈ wsX0_copyFrom := by decide +kernel
theorem f_X0_copyFrom_45 : Cond.fieldLink RX0 45 "SwingCranes$Crane" "braked" "Z" ∈ wsX0_copyFrom := by decide +kernel
set_option maxHeartbeats 4000000 in
set_option maxRecDepth 100000 in
theorem c_craneCopy (l : Launch) (D : va_G) (cyC cyI : ClassId) (h : Nat) (a0 : Int32) (a1 : Int32) (a2 : Int32) (a3 : Int32) (a4 : Int32) (a5 : Int32) (a6 : Int32) (a7 : Int32) (a8 : Int32) (a9 : Int32) (a10 : Int32) (a11 : Int32) (ab : Bool) (g : Nat) (b0 : Int32) (b1 : Int32) (b2 : Int32) (b3 : Int32) (b4 : Int32) (b5 : Int32) (b6 : Int32) (b7 : Int32) (b8 : Int32) (b9 : Int32) (b10 : Int32) (b11 : Int32) (bb : Bool) : CV l yX0_copyFrom wsX0_copyFrom { frames := 0, cells := 0, slots := 0, locals := 0 } D cyC cyI [.ref h, .ref g] [(h, .inr (0, [.int a0, .int a1, .int a2, .int a3, .int a4, .int a5, .int a6, .int a7, .int a8, .int a9, .int a10, .int a11, .int (bB ab)])), (g, .inr (0, [.int b0, .int b1, .int b2, .int b3, .int b4, .int b5, .int b6, .int b7, .int b8, .int b9, .int b10, .int b11, .int (bB bb)]))] [(h, .inr (0, [.int b0, .int b1, .int b2, .int b3, .int b4, .int b5, .int b6, .int b7, .int b8, .int b9, .int b10, .int b11, .int (bB bb)])), (g, .inr (0, [.int b0, .int b1, .int b2, .int b3, .int b4, .int b5, .int b6, .int b7, .int b8, .int b9, .int b10, .int b11, .int (bB bb)]))] := by
  refine CV.of (cc := cX0_copyFrom) (n := 2) (ret := none) (by decide +kernel) rfl (Nat.le_of_ble_eq_true rfl) ?_
  intro p_ e_ s_ m_ bl_ me_ cd_ A_ ls X Y hr hlk hl
  have hx := X.1.1
  have hb := X.1.2.1
  have hl : lv_has ls 2 [(0, .ref h), (1, .ref g)] := hl
  refine lv_aload_n hx hb dX0_copyFrom_0 rfl (lv_at hl 0 rfl) ?_
  refine lv_aload_n hx hb dX0_copyFrom_1 rfl (lv_at hl 1 rfl) ?_
  refine bGet (v := .int b0) (T := TX0) (N := 13) (ci := 0) X Y i_X0_copyFrom_X0 1 rfl rfl 0 (Nat.le_of_ble_eq_true rfl) f_X0_copyFrom_15 rfl rfl dX0_copyFrom_2 ?_
  refine bPut (T := TX0) (N := 13) (ci := 0) (ws' := [(h, .inr (0, [.int b0, .int a1, .int a2, .int a3, .int a4, .int a5, .int a6, .int a7, .int a8, .int a9, .int a10, .int a11, .int (bB ab)])), (g, .inr (0, [.int b0, .int b1, .int b2, .int b3, .int b4, .int b5, .int b6, .int b7, .int b8, .int b9, .int b10, .int b11, .int (bB bb)]))]) X Y i_X0_copyFrom_X0 tyX0 tyX0_ok nmX0 0 rfl rfl 0 (Nat.le_of_ble_eq_true rfl) f_X0_copyFrom_15 rfl rfl rfl rfl (Nat.le_of_ble_eq_true rfl) rfl dX0_copyFrom_5 (fun H locs Y => ?_)
  refine lv_aload_n hx hb dX0_copyFrom_8 rfl (lv_at hl 0 rfl) ?_
  refine lv_aload_n hx hb dX0_copyFrom_9 rfl (lv_at hl 1 rfl) ?_
  refine bGet (v := .int b1) (T := TX0) (N := 13) (ci := 0) X Y i_X0_copyFrom_X0 1 rfl rfl 1 (Nat.le_of_ble_eq_true rfl) f_X0_copyFrom_18 rfl rfl dX0_copyFrom_10 ?_
  refine bPut (T := TX0) (N := 13) (ci := 0) (ws' := [(h, .inr (0, [.int b0, .int b1, .int a2, .int a3, .int a4, .int a5, .int a6, .int a7, .int a8, .int a9, .int a10, .int a11, .int (bB ab)])), (g, .inr (0, [.int b0, .int b1, .int b2, .int b3, .int b4, .int b5, .int b6, .int b7, .int b8, .int b9, .int b10, .int b11, .int (bB bb)]))]) X Y i_X0_copyFrom_X0 tyX0 tyX0_ok nmX0 0 rfl rfl 1 (Nat.le_of_ble_eq_true rfl) f_X0_copyFrom_18 rfl rfl rfl rfl (Nat.le_of_ble_eq_true rfl) rfl dX0_copyFrom_13 (fun H locs Y => ?_)
  refine lv_aload_n hx hb dX0_copyFrom_16 rfl (lv_at hl 0 rfl) ?_
  refine lv_aload_n hx hb dX0_copyFrom_17 rfl (lv_at hl 1 rfl) ?_
  refine bGet (v := .int b2) (T := TX0) (N := 13) (ci := 0) X Y i_X0_copyFrom_X0 1 rfl rfl 2 (Nat.le_of_ble_eq_true rfl) f_X0_copyFrom_24 rfl rfl dX0_copyFrom_18 ?_
  refine bPut (T := TX0) (N := 13) (ci := 0) (ws' := [(h, .inr (0, [.int b0, .int b1, .int b2, .int a3, .int a4, .int a5, .int a6, .int a7, .int a8, .int a9, .int a10, .int a11, .int (bB ab)])), (g, .inr (0, [.int b0, .int b1, .int b2, .int b3, .int b4, .int b5, .int b6, .int b7, .int b8, .int b9, .int b10, .int b11, .int (bB bb)]))]) X Y i_X0_copyFrom_X0 tyX0 tyX0_ok nmX0 0 rfl rfl 2 (Nat.le_of_ble_eq_true rfl) f_X0_copyFrom_24 rfl rfl rfl rfl (Nat.le_of_ble_eq_true rfl) rfl dX0_copyFrom_21 (fun H locs Y => ?_)
  refine lv_aload_n hx hb dX0_copyFrom_24 rfl (lv_at hl 0 rfl) ?_
  refine lv_aload_n hx hb dX0_copyFrom_25 rfl (lv_at hl 1 rfl) ?_
  refine bGet (v := .int b3) (T := TX0) (N := 13) (ci := 0) X Y i_X0_copyFrom_X0 1 rfl rfl 3 (Nat.le_of_ble_eq_true rfl) f_X0_copyFrom_28 rfl rfl dX0_copyFrom_26 ?_
  refine bPut (T := TX0) (N := 13) (ci := 0) (ws' := [(h, .inr (0, [.int b0, .int b1, .int b2, .int b3, .int a4, .int a5, .int a6, .int a7, .int a8, .int a9, .int a10, .int a11, .int (bB ab)])), (g, .inr (0, [.int b0, .int b1, .int b2, .int b3, .int b4, .int b5, .int b6, .int b7, .int b8, .int b9, .int b10, .int b11, .int (bB bb)]))]) X Y i_X0_copyFrom_X0 tyX0 tyX0_ok nmX0 0 rfl rfl 3 (Nat.le_of_ble_eq_true rfl) f_X0_copyFrom_28 rfl rfl rfl rfl (Nat.le_of_ble_eq_true rfl) rfl dX0_copyFrom_29 (fun H locs Y => ?_)
  refine lv_aload_n hx hb dX0_copyFrom_32 rfl (lv_at hl 0 rfl) ?_
  refine lv_aload_n hx hb dX0_copyFrom_33 rfl (lv_at hl 1 rfl) ?_
  refine bGet (v := .int b4) (T := TX0) (N := 13) (ci := 0) X Y i_X0_copyFrom_X0 1 rfl rfl 4 (Nat.le_of_ble_eq_true rfl) f_X0_copyFrom_29 rfl rfl dX0_copyFrom_34 ?_
  refine bPut (T := TX0) (N := 13) (ci := 0) (ws' := [(h, .inr (0, [.int b0, .int b1, .int b2, .int b3, .int b4, .int a5, .int a6, .int a7, .int a8, .int a9, .int a10, .int a11, .int (bB ab)])), (g, .inr (0, [.int b0, .int b1, .int b2, .int b3, .int b4, .int b5, .int b6, .int b7, .int b8, .int b9, .int b10, .int b11, .int (bB bb)]))]) X Y i_X0_copyFrom_X0 tyX0 tyX0_ok nmX0 0 rfl rfl 4 (Nat.le_of_ble_eq_true rfl) f_X0_copyFrom_29 rfl rfl rfl rfl (Nat.le_of_ble_eq_true rfl) rfl dX0_copyFrom_37 (fun H locs Y => ?_)
  refine lv_aload_n hx hb dX0_copyFrom_40 rfl (lv_at hl 0 rfl) ?_
  refine lv_aload_n hx hb dX0_copyFrom_41 rfl (lv_at hl 1 rfl) ?_
  refine bGet (v := .int b5) (T := TX0) (N := 13) (ci := 0) X Y i_X0_copyFrom_X0 1 rfl rfl 5 (Nat.le_of_ble_eq_true rfl) f_X0_copyFrom_32 rfl rfl dX0_copyFrom_42 ?_
  refine bPut (T := TX0) (N := 13) (ci := 0) (ws' := [(h, .inr (0, [.int b0, .int b1, .int b2, .int b3, .int b4, .int b5, .int a6, .int a7, .int a8, .int a9, .int a10, .int a11, .int (bB ab)])), (g, .inr (0, [.int b0, .int b1, .int b2, .int b3, .int b4, .int b5, .int b6, .int b7, .int b8, .int b9, .int b10, .int b11, .int (bB bb)]))]) X Y i_X0_copyFrom_X0 tyX0 tyX0_ok nmX0 0 rfl rfl 5 (Nat.le_of_ble_eq_true rfl) f_X0_copyFrom_32 rfl rfl rfl rfl (Nat.le_of_ble_eq_true rfl) rfl dX0_copyFrom_45 (fun H locs Y => ?_)
  refine lv_aload_n hx hb dX0_copyFrom_48 rfl (lv_at hl 0 rfl) ?_
  refine lv_aload_n hx hb dX0_copyFrom_49 rfl (lv_at hl 1 rfl) ?_
  refine bGet (v := .int b6) (T := TX0) (N := 13) (ci := 0) X Y i_X0_copyFrom_X0 1 rfl rfl 6 (Nat.le_of_ble_eq_true rfl) f_X0_copyFrom_35 rfl rfl dX0_copyFrom_50 ?_
  refine bPut (T := TX0) (N := 13) (ci := 0) (ws' := [(h, .inr (0, [.int b0, .int b1, .int b2, .int b3, .int b4, .int b5, .int b6, .int a7, .int a8, .int a9, .int a10, .int a11, .int (bB ab)])), (g, .inr (0, [.int b0, .int b1, .int b2, .int b3, .int b4, .int b5, .int b6, .int b7, .int b8, .int b9, .int b10, .int b11, .int (bB bb)]))]) X Y i_X0_copyFrom_X0 tyX0 tyX0_ok nmX0 0 rfl rfl 6 (Nat.le_of_ble_eq_true rfl) f_X0_copyFrom_35 rfl rfl rfl rfl (Nat.le_of_ble_eq_true rfl) rfl dX0_copyFrom_53 (fun H locs Y => ?_)
  refine lv_aload_n hx hb dX0_copyFrom_56 rfl (lv_at hl 0 rfl) ?_
  refine lv_aload_n hx hb dX0_copyFrom_57 rfl (lv_at hl 1 rfl) ?_
  refine bGet (v := .int b7) (T := TX0) (N := 13) (ci := 0) X Y i_X0_copyFrom_X0 1 rfl rfl 7 (Nat.le_of_ble_eq_true rfl) f_X0_copyFrom_38 rfl rfl dX0_copyFrom_58 ?_
  refine bPut (T := TX0) (N := 13) (ci := 0) (ws' := [(h, .inr (0, [.int b0, .int b1, .int b2, .int b3, .int b4, .int b5, .int b6, .int b7, .int a8, .int a9, .int a10, .int a11, .int (bB ab)])), (g, .inr (0, [.int b0, .int b1, .int b2, .int b3, .int b4, .int b5, .int b6, .int b7, .int b8, .int b9, .int b10, .int b11, .int (bB bb)]))]) X Y i_X0_copyFrom_X0 tyX0 tyX0_ok nmX0 0 rfl rfl 7 (Nat.le_of_ble_eq_true rfl) f_X0_copyFrom_38 rfl rfl rfl rfl (Nat.le_of_ble_eq_true rfl) rfl dX0_copyFrom_61 (fun H locs Y => ?_)
  refine lv_aload_n hx hb dX0_copyFrom_64 rfl (lv_at hl 0 rfl) ?_
  refine lv_aload_n hx hb dX0_copyFrom_65 rfl (lv_at hl 1 rfl) ?_
  refine bGet (v := .int b8) (T := TX0) (N := 13) (ci := 0) X Y i_X0_copyFrom_X0 1 rfl rfl 8 (Nat.le_of_ble_eq_true rfl) f_X0_copyFrom_49 rfl rfl dX0_copyFrom_66 ?_
  refine bPut (T := TX0) (N := 13) (ci := 0) (ws' := [(h, .inr (0, [.int b0, .int b1, .int b2, .int b3, .int b4, .int b5, .int b6, .int b7, .int b8, .int a9, .int a10, .int a11, .int (bB ab)])), (g, .inr (0, [.int b0, .int b1, .int b2, .int b3, .int b4, .int b5, .int b6, .int b7, .int b8, .int b9, .int b10, .int b11, .int (bB bb)]))]) X Y i_X0_copyFrom_X0 tyX0 tyX0_ok nmX0 0 rfl rfl 8 (Nat.le_of_ble_eq_true rfl) f_X0_copyFrom_49 rfl rfl rfl rfl (Nat.le_of_ble_eq_true rfl) rfl dX0_copyFrom_69 (fun H locs Y => ?_)
  refine lv_aload_n hx hb dX0_copyFrom_72 rfl (lv_at hl 0 rfl) ?_
  refine lv_aload_n hx hb dX0_copyFrom_73 rfl (lv_at hl 1 rfl) ?_
  refine bGet (v := .int b9) (T := TX0) (N := 13) (ci := 0) X Y i_X0_copyFrom_X0 1 rfl rfl 9 (Nat.le_of_ble_eq_true rfl) f_X0_copyFrom_52 rfl rfl dX0_copyFrom_74 ?_
  refine bPut (T := TX0) (N := 13) (ci := 0) (ws' := [(h, .inr (0, [.int b0, .int b1, .int b2, .int b3, .int b4, .int b5, .int b6, .int b7, .int b8, .int b9, .int a10, .int a11, .int (bB ab)])), (g, .inr (0, [.int b0, .int b1, .int b2, .int b3, .int b4, .int b5, .int b6, .int b7, .int b8, .int b9, .int b10, .int b11, .int (bB bb)]))]) X Y i_X0_copyFrom_X0 tyX0 tyX0_ok nmX0 0 rfl rfl 9 (Nat.le_of_ble_eq_true rfl) f_X0_copyFrom_52 rfl rfl rfl rfl (Nat.le_of_ble_eq_true rfl) rfl dX0_copyFrom_77 (fun H locs Y => ?_)
  refine lv_aload_n hx hb dX0_copyFrom_80 rfl (lv_at hl 0 rfl) ?_
  refine lv_aload_n hx hb dX0_copyFrom_81 rfl (lv_at hl 1 rfl) ?_
  refine bGet (v := .int b10) (T := TX0) (N := 13) (ci := 0) X Y i_X0_copyFrom_X0 1 rfl rfl 10 (Nat.le_of_ble_eq_true rfl) f_X0_copyFrom_55 rfl rfl dX0_copyFrom_82 ?_
  refine bPut (T := TX0) (N := 13) (ci := 0) (ws' := [(h, .inr (0, [.int b0, .int b1, .int b2, .int b3, .int b4, .int b5, .int b6, .int b7, .int b8, .int b9, .int b10, .int a11, .int (bB ab)])), (g, .inr (0, [.int b0, .int b1, .int b2, .int b3, .int b4, .int b5, .int b6, .int b7, .int b8, .int b9, .int b10, .int b11, .int (bB bb)]))]) X Y i_X0_copyFrom_X0 tyX0 tyX0_ok nmX0 0 rfl rfl 10 (Nat.le_of_ble_eq_true rfl) f_X0_copyFrom_55 rfl rfl rfl rfl (Nat.le_of_ble_eq_true rfl) rfl dX0_copyFrom_85 (fun H locs Y => ?_)
  refine lv_aload_n hx hb dX0_copyFrom_88 rfl (lv_at hl 0 rfl) ?_
  refine lv_aload_n hx hb dX0_copyFrom_89 rfl (lv_at hl 1 rfl) ?_
  refine bGet (v := .int b11) (T := TX0) (N := 13) (ci := 0) X Y i_X0_copyFrom_X0 1 rfl rfl 11 (Nat.le_of_ble_eq_true rfl) f_X0_copyFrom_58 rfl rfl dX0_copyFrom_90 ?_
  refine bPut (T := TX0) (N := 13) (ci := 0) (ws' := [(h, .inr (0, [.int b0, .int b1, .int b2, .int b3, .int b4, .int b5, .int b6, .int b7, .int b8, .int b9, .int b10, .int b11, .int (bB ab)])), (g, .inr (0, [.int b0, .int b1, .int b2, .int b3, .int b4, .int b5, .int b6, .int b7, .int b8, .int b9, .int b10, .int b11, .int (bB bb)]))]) X Y i_X0_copyFrom_X0 tyX0 tyX0_ok nmX0 0 rfl rfl 11 (Nat.le_of_ble_eq_true rfl) f_X0_copyFrom_58 rfl rfl rfl rfl (Nat.le_of_ble_eq_true rfl) rfl dX0_copyFrom_93 (fun H locs Y => ?_)
  refine lv_aload_n hx hb dX0_copyFrom_96 rfl (lv_at hl 0 rfl) ?_
  refine lv_aload_n hx hb dX0_copyFrom_97 rfl (lv_at hl 1 rfl) ?_
  refine bGet (v := .int (bB bb)) (T := TX0) (N := 13) (ci := 0) X Y i_X0_copyFrom_X0 1 rfl rfl 12 (Nat.le_of_ble_eq_true rfl) f_X0_copyFrom_45 rfl rfl dX0_copyFrom_98 ?_
  refine bPut (T := TX0) (N := 13) (ci := 0) (ws' := [(h, .inr (0, [.int b0, .int b1, .int b2, .int b3, .int b4, .int b5, .int b6, .int b7, .int b8, .int b9, .int b10, .int b11, .int (bB bb)])), (g, .inr (0, [.int b0, .int b1, .int b2, .int b3, .int b4, .int b5, .int b6, .int b7, .int b8, .int b9, .int b10, .int b11, .int (bB bb)]))]) X Y i_X0_copyFrom_X0 tyX0 tyX0_ok nmX0 0 rfl rfl 12 (Nat.le_of_ble_eq_true rfl) f_X0_copyFrom_45 rfl rfl (bB_nar _) (bB_fit _) (Nat.le_of_ble_eq_true rfl) rfl dX0_copyFrom_101 (fun H locs Y => ?_)
  exact bEndV X Y hr hlk dX0_copyFrom_104 rfl
theorem i_X0_begin_X4 : ∀ w ∈ wsX40, w ∈ wsX0_begin := by decide +kernel
theorem f_X0_begin_9 : Cond.fieldLink RX0 9 "SwingCranes$Start" "place" "I" ∈ wsX0_begin := by decide +kernel
theorem i_X0_begin_X0 : ∀ w ∈ wsX00, w ∈ wsX0_begin := by decide +kernel
theorem f_X0_begin_15 : Cond.fieldLink RX0 15 "SwingCranes$Crane" "place" "I" ∈ wsX0_begin := by decide +kernel
theorem f_X0_begin_18 : Cond.fieldLink RX0 18 "SwingCranes$Crane" "speed" "I" ∈ wsX0_begin := by decide +kernel
theorem f_X0_begin_21 : Cond.fieldLink RX0 21 "SwingCranes$Start" "rope" "I" ∈ wsX0_begin := by decide +kernel
theorem f_X0_begin_24 : Cond.fieldLink RX0 24 "SwingCranes$Crane" "rope" "I" ∈ wsX0_begin := by decide +kernel
theorem f_X0_begin_25 : Cond.fieldLink RX0 25 "SwingCranes$Start" "load" "I" ∈ wsX0_begin := by decide +kernel
theorem f_X0_begin_28 : Cond.fieldLink RX0 28 "SwingCranes$Crane" "load" "I" ∈ wsX0_begin := by decide +kernel
theorem f_X0_begin_29 : Cond.fieldLink RX0 29 "SwingCranes$Crane" "swing" "I" ∈ wsX0_begin := by decide +kernel
theorem f_X0_begin_32 : Cond.fieldLink RX0 32 "SwingCranes$Crane" "rate" "I" ∈ wsX0_begin := by decide +kernel
theorem f_X0_begin_35 : Cond.fieldLink RX0 35 "SwingCranes$Crane" "want" "I" ∈ wsX0_begin := by decide +kernel
theorem f_X0_begin_38 : Cond.fieldLink RX0 38 "SwingCranes$Crane" "target" "I" ∈ wsX0_begin := by decide +kernel
theorem f_X0_begin_45 : Cond.fieldLink RX0 45 "SwingCranes$Crane" "braked" "Z" ∈ wsX0_begin := by decide +kernel
set_option maxHeartbeats 4000000 in
set_option maxRecDepth 100000 in
theorem c_craneBegin (l : Launch) (D : va_G) (cyC cyI : ClassId) (h : Nat) (a0 : Int32) (a1 : Int32) (a2 : Int32) (a3 : Int32) (a4 : Int32) (a5 : Int32) (a6 : Int32) (a7 : Int32) (a8 : Int32) (a9 : Int32) (a10 : Int32) (a11 : Int32) (ab : Bool) (g : Nat) (b0 : Int32) (b1 : Int32) (b2 : Int32) : CV l yX0_begin wsX0_begin { frames := 1, cells := 0, slots := 0, locals := 23 } D cyC cyI [.ref h, .ref g] [(h, .inr (0, [.int a0, .int a1, .int a2, .int a3, .int a4, .int a5, .int a6, .int a7, .int a8, .int a9, .int a10, .int a11, .int (bB ab)])), (g, .inr (4, [.int b0, .int b1, .int b2]))] [(h, .inr (0, [.int b0, .int 0, .int b1, .int b2, .int 0, .int 0, .int 0, .int b1, .int 1, .int 0, .int (1 + 0), .int 0, .int (bB false)])), (g, .inr (4, [.int b0, .int b1, .int b2]))] := by
  refine CV.of (cc := cX0_begin) (n := 2) (ret := none) (by decide +kernel) rfl (Nat.le_of_ble_eq_true rfl) ?_
  intro p_ e_ s_ m_ bl_ me_ cd_ A_ ls X Y hr hlk hl
  have hx := X.1.1
  have hb := X.1.2.1
  have hl : lv_has ls 2 [(0, .ref h), (1, .ref g)] := hl
  refine lv_aload_n hx hb dX0_begin_0 rfl (lv_at hl 0 rfl) ?_
  refine lv_aload_n hx hb dX0_begin_1 rfl (lv_at hl 1 rfl) ?_
  refine bGet (v := .int b0) (T := TX4) (N := 3) (ci := 4) X Y i_X0_begin_X4 1 rfl rfl 0 (Nat.le_of_ble_eq_true rfl) f_X0_begin_9 rfl rfl dX0_begin_2 ?_
  refine bPut (T := TX0) (N := 13) (ci := 0) (ws' := [(h, .inr (0, [.int b0, .int a1, .int a2, .int a3, .int a4, .int a5, .int a6, .int a7, .int a8, .int a9, .int a10, .int a11, .int (bB ab)])), (g, .inr (4, [.int b0, .int b1, .int b2]))]) X Y i_X0_begin_X0 tyX0 tyX0_ok nmX0 0 rfl rfl 0 (Nat.le_of_ble_eq_true rfl) f_X0_begin_15 rfl rfl rfl rfl (Nat.le_of_ble_eq_true rfl) rfl dX0_begin_5 (fun H locs Y => ?_)
  refine lv_aload_n hx hb dX0_begin_8 rfl (lv_at hl 0 rfl) ?_
  refine lv_iconst (v := 0) hx hb dX0_begin_9 (by decide) ?_
  refine bPut (T := TX0) (N := 13) (ci := 0) (ws' := [(h, .inr (0, [.int b0, .int 0, .int a2, .int a3, .int a4, .int a5, .int a6, .int a7, .int a8, .int a9, .int a10, .int a11, .int (bB ab)])), (g, .inr (4, [.int b0, .int b1, .int b2]))]) X Y i_X0_begin_X0 tyX0 tyX0_ok nmX0 0 rfl rfl 1 (Nat.le_of_ble_eq_true rfl) f_X0_begin_18 rfl rfl rfl rfl (Nat.le_of_ble_eq_true rfl) rfl dX0_begin_10 (fun H locs Y => ?_)
  refine lv_aload_n hx hb dX0_begin_13 rfl (lv_at hl 0 rfl) ?_
  refine lv_aload_n hx hb dX0_begin_14 rfl (lv_at hl 1 rfl) ?_
  refine bGet (v := .int b1) (T := TX4) (N := 3) (ci := 4) X Y i_X0_begin_X4 1 rfl rfl 1 (Nat.le_of_ble_eq_true rfl) f_X0_begin_21 rfl rfl dX0_begin_15 ?_
  refine bPut (T := TX0) (N := 13) (ci := 0) (ws' := [(h, .inr (0, [.int b0, .int 0, .int b1, .int a3, .int a4, .int a5, .int a6, .int a7, .int a8, .int a9, .int a10, .int a11, .int (bB ab)])), (g, .inr (4, [.int b0, .int b1, .int b2]))]) X Y i_X0_begin_X0 tyX0 tyX0_ok nmX0 0 rfl rfl 2 (Nat.le_of_ble_eq_true rfl) f_X0_begin_24 rfl rfl rfl rfl (Nat.le_of_ble_eq_true rfl) rfl dX0_begin_18 (fun H locs Y => ?_)
  refine lv_aload_n hx hb dX0_begin_21 rfl (lv_at hl 0 rfl) ?_
  refine lv_aload_n hx hb dX0_begin_22 rfl (lv_at hl 1 rfl) ?_
  refine bGet (v := .int b2) (T := TX4) (N := 3) (ci := 4) X Y i_X0_begin_X4 1 rfl rfl 2 (Nat.le_of_ble_eq_true rfl) f_X0_begin_25 rfl rfl dX0_begin_23 ?_
  refine bPut (T := TX0) (N := 13) (ci := 0) (ws' := [(h, .inr (0, [.int b0, .int 0, .int b1, .int b2, .int a4, .int a5, .int a6, .int a7, .int a8, .int a9, .int a10, .int a11, .int (bB ab)])), (g, .inr (4, [.int b0, .int b1, .int b2]))]) X Y i_X0_begin_X0 tyX0 tyX0_ok nmX0 0 rfl rfl 3 (Nat.le_of_ble_eq_true rfl) f_X0_begin_28 rfl rfl rfl rfl (Nat.le_of_ble_eq_true rfl) rfl dX0_begin_26 (fun H locs Y => ?_)
  refine lv_aload_n hx hb dX0_begin_29 rfl (lv_at hl 0 rfl) ?_
  refine lv_iconst (v := 0) hx hb dX0_begin_30 (by decide) ?_
  refine bPut (T := TX0) (N := 13) (ci := 0) (ws' := [(h, .inr (0, [.int b0, .int 0, .int b1, .int b2, .int 0, .int a5, .int a6, .int a7, .int a8, .int a9, .int a10, .int a11, .int (bB ab)])), (g, .inr (4, [.int b0, .int b1, .int b2]))]) X Y i_X0_begin_X0 tyX0 tyX0_ok nmX0 0 rfl rfl 4 (Nat.le_of_ble_eq_true rfl) f_X0_begin_29 rfl rfl rfl rfl (Nat.le_of_ble_eq_true rfl) rfl dX0_begin_31 (fun H locs Y => ?_)
  refine lv_aload_n hx hb dX0_begin_34 rfl (lv_at hl 0 rfl) ?_
  refine lv_iconst (v := 0) hx hb dX0_begin_35 (by decide) ?_
  refine bPut (T := TX0) (N := 13) (ci := 0) (ws' := [(h, .inr (0, [.int b0, .int 0, .int b1, .int b2, .int 0, .int 0, .int a6, .int a7, .int a8, .int a9, .int a10, .int a11, .int (bB ab)])), (g, .inr (4, [.int b0, .int b1, .int b2]))]) X Y i_X0_begin_X0 tyX0 tyX0_ok nmX0 0 rfl rfl 5 (Nat.le_of_ble_eq_true rfl) f_X0_begin_32 rfl rfl rfl rfl (Nat.le_of_ble_eq_true rfl) rfl dX0_begin_36 (fun H locs Y => ?_)
  refine lv_aload_n hx hb dX0_begin_39 rfl (lv_at hl 0 rfl) ?_
  refine lv_iconst (v := 0) hx hb dX0_begin_40 (by decide) ?_
  refine bPut (T := TX0) (N := 13) (ci := 0) (ws' := [(h, .inr (0, [.int b0, .int 0, .int b1, .int b2, .int 0, .int 0, .int 0, .int a7, .int a8, .int a9, .int a10, .int a11, .int (bB ab)])), (g, .inr (4, [.int b0, .int b1, .int b2]))]) X Y i_X0_begin_X0 tyX0 tyX0_ok nmX0 0 rfl rfl 6 (Nat.le_of_ble_eq_true rfl) f_X0_begin_35 rfl rfl rfl rfl (Nat.le_of_ble_eq_true rfl) rfl dX0_begin_41 (fun H locs Y => ?_)
  refine lv_aload_n hx hb dX0_begin_44 rfl (lv_at hl 0 rfl) ?_
  refine lv_aload_n hx hb dX0_begin_45 rfl (lv_at hl 1 rfl) ?_
  refine bGet (v := .int b1) (T := TX4) (N := 3) (ci := 4) X Y i_X0_begin_X4 1 rfl rfl 1 (Nat.le_of_ble_eq_true rfl) f_X0_begin_21 rfl rfl dX0_begin_46 ?_
  refine bPut (T := TX0) (N := 13) (ci := 0) (ws' := [(h, .inr (0, [.int b0, .int 0, .int b1, .int b2, .int 0, .int 0, .int 0, .int b1, .int a8, .int a9, .int a10, .int a11, .int (bB ab)])), (g, .inr (4, [.int b0, .int b1, .int b2]))]) X Y i_X0_begin_X0 tyX0 tyX0_ok nmX0 0 rfl rfl 7 (Nat.le_of_ble_eq_true rfl) f_X0_begin_38 rfl rfl rfl rfl (Nat.le_of_ble_eq_true rfl) rfl dX0_begin_49 (fun H locs Y => ?_)
  refine lv_aload_n hx hb dX0_begin_52 rfl (lv_at hl 0 rfl) ?_
  refine lv_iconst (v := 0) hx hb dX0_begin_53 (by decide) ?_
  refine lv_iconst (v := 0) hx hb dX0_begin_54 (by decide) ?_
  refine lv_iconst (v := 0) hx hb dX0_begin_55 (by decide) ?_
  refine bVV (As := [.int 0, .int 0, .int 0]) (rest := []) (wc := [(h, .inr (0, [.int b0, .int 0, .int b1, .int b2, .int 0, .int 0, .int 0, .int b1, .int a8, .int a9, .int a10, .int a11, .int (bB ab)]))]) (w1 := [(h, .inr (0, [.int b0, .int 0, .int b1, .int b2, .int 0, .int 0, .int 0, .int b1, .int 1, .int 0, .int (1 + 0), .int 0, .int (bB ab)]))]) (ws' := [(h, .inr (0, [.int b0, .int 0, .int b1, .int b2, .int 0, .int 0, .int 0, .int b1, .int 1, .int 0, .int (1 + 0), .int 0, .int (bB ab)])), (g, .inr (4, [.int b0, .int b1, .int b2]))]) (ad := [h]) (wr := [(g, .inr (4, [.int b0, .int b1, .int b2]))]) (nn := 2) (ci := 0) (q0 := 0) X Y (c_setSteps l D cyC cyI h b0 0 b1 b2 0 0 0 b1 a8 a9 a10 a11 ab 0 0 0) gX0_begin_X0_setSteps rfl ⟨rfl, rfl⟩ hd_X0_setSteps ⟨(Nat.le_of_ble_eq_true rfl), (Nat.le_of_ble_eq_true rfl)⟩ rfl rfl rfl [0] [1] rfl rfl rfl rfl rfl rfl rfl rfl (by decide) rfl rfl hl.1 (Nat.le_of_ble_eq_true rfl) ⟨Nat.zero_le _, Nat.zero_le _⟩ dX0_begin_56 (fun H locs Y => ?_)
  refine lv_aload_n hx hb dX0_begin_59 rfl (lv_at hl 0 rfl) ?_
  refine lv_iconst (v := 0) hx hb dX0_begin_60 (by decide) ?_
  refine bPut (T := TX0) (N := 13) (ci := 0) (ws' := [(h, .inr (0, [.int b0, .int 0, .int b1, .int b2, .int 0, .int 0, .int 0, .int b1, .int 1, .int 0, .int (1 + 0), .int 0, .int (bB false)])), (g, .inr (4, [.int b0, .int b1, .int b2]))]) X Y i_X0_begin_X0 tyX0 tyX0_ok nmX0 0 rfl rfl 12 (Nat.le_of_ble_eq_true rfl) f_X0_begin_45 rfl rfl rfl rfl (Nat.le_of_ble_eq_true rfl) rfl dX0_begin_61 (fun H locs Y => ?_)
  exact bEndV X Y hr hlk dX0_begin_64 rfl
