theorem i_X2_side_X2 : ∀ w ∈ wsX20, w ∈ wsX2_side := by decide +kernel
theorem f_X2_side_12 : Cond.fieldLink RX2 12 "SwingCranes$Pair" "left" "LSwingCranes$Crane;" ∈ wsX2_side := by decide +kernel
set_option maxHeartbeats 4000000 in
set_option maxRecDepth 100000 in
theorem c_side0 (l : Launch) (D : va_G) (cyC cyI : ClassId) (q : Nat) (ql : Nat) (qr : Nat) (pv : Int32) : CR l yX2_side wsX2_side { frames := 0, cells := 0, slots := 0, locals := 0 } D cyC cyI [.ref q, .int 0] [(q, .inr (2, [.ref ql, .ref qr, .int pv]))] ql [(q, .inr (2, [.ref ql, .ref qr, .int pv]))] := by
  refine CR.of (cc := cX2_side) (n := 2) (ret := (some (.object "SwingCranes$Crane"))) (by decide +kernel) rfl (Nat.le_of_ble_eq_true rfl) ?_
  intro p_ e_ s_ m_ bl_ me_ cd_ A_ ls X Y hr hlk hl
  have hx := X.1.1
  have hb := X.1.2.1
  have hl : lv_has ls 2 [(0, .ref q), (1, .int 0)] := hl
  refine lv_iload_n hx hb dX2_side_0 rfl (lv_at hl 1 rfl) ?_
  refine lv_if_ne (tgt := 11) hx hb dX2_side_1 (by decide) (fun c_ => absurd (by decide) c_) (fun _ => ?_)
  refine lv_aload_n hx hb dX2_side_4 rfl (lv_at hl 0 rfl) ?_
  refine bGet (v := .ref ql) (T := TX2) (N := 3) (ci := 2) X Y i_X2_side_X2 0 rfl rfl 0 (Nat.le_of_ble_eq_true rfl) f_X2_side_12 rfl rfl dX2_side_5 ?_
  refine lv_goto (tgt := 15) hx hb dX2_side_8 (by decide) ?_
  exact bEndR X Y hr hlk dX2_side_15 rfl rfl
theorem f_X2_side_18 : Cond.fieldLink RX2 18 "SwingCranes$Pair" "right" "LSwingCranes$Crane;" ∈ wsX2_side := by decide +kernel
set_option maxHeartbeats 4000000 in
set_option maxRecDepth 100000 in
theorem c_side1 (l : Launch) (D : va_G) (cyC cyI : ClassId) (q : Nat) (ql : Nat) (qr : Nat) (pv : Int32) : CR l yX2_side wsX2_side { frames := 0, cells := 0, slots := 0, locals := 0 } D cyC cyI [.ref q, .int 1] [(q, .inr (2, [.ref ql, .ref qr, .int pv]))] qr [(q, .inr (2, [.ref ql, .ref qr, .int pv]))] := by
  refine CR.of (cc := cX2_side) (n := 2) (ret := (some (.object "SwingCranes$Crane"))) (by decide +kernel) rfl (Nat.le_of_ble_eq_true rfl) ?_
  intro p_ e_ s_ m_ bl_ me_ cd_ A_ ls X Y hr hlk hl
  have hx := X.1.1
  have hb := X.1.2.1
  have hl : lv_has ls 2 [(0, .ref q), (1, .int 1)] := hl
  refine lv_iload_n hx hb dX2_side_0 rfl (lv_at hl 1 rfl) ?_
  refine lv_if_ne (tgt := 11) hx hb dX2_side_1 (by decide) (fun _ => ?_) (fun c_ => absurd c_ (by decide))
  refine lv_aload_n hx hb dX2_side_11 rfl (lv_at hl 0 rfl) ?_
  refine bGet (v := .ref qr) (T := TX2) (N := 3) (ci := 2) X Y i_X2_side_X2 0 rfl rfl 1 (Nat.le_of_ble_eq_true rfl) f_X2_side_18 rfl rfl dX2_side_12 ?_
  exact bEndR X Y hr hlk dX2_side_15 rfl rfl
theorem i_X2_isCoupled_X2 : ∀ w ∈ wsX20, w ∈ wsX2_isCoupled := by decide +kernel
theorem f_X2_isCoupled_21 : Cond.fieldLink RX2 21 "SwingCranes$Pair" "level" "I" ∈ wsX2_isCoupled := by decide +kernel
def s_isCoupled (pv : Int32) : Bool :=
  if pv < 0 then
    false
  else
    true
set_option maxHeartbeats 4000000 in
set_option maxRecDepth 100000 in
theorem c_isCoupled (l : Launch) (D : va_G) (cyC cyI : ClassId) (q : Nat) (pv : Int32) (ql : Nat) (pl0 : Int32) (pl1 : Int32) (pl2 : Int32) (pl3 : Int32) (pl4 : Int32) (pl5 : Int32) (pl6 : Int32) (pl7 : Int32) (pl8 : Int32) (pl9 : Int32) (pl10 : Int32) (pl11 : Int32) (plb : Bool) (qr : Nat) (pr0 : Int32) (pr1 : Int32) (pr2 : Int32) (pr3 : Int32) (pr4 : Int32) (pr5 : Int32) (pr6 : Int32) (pr7 : Int32) (pr8 : Int32) (pr9 : Int32) (pr10 : Int32) (pr11 : Int32) (prb : Bool) (o0 : Bool) (hu : s_isCoupled pv = o0) : CI l yX2_isCoupled wsX2_isCoupled { frames := 0, cells := 0, slots := 0, locals := 0 } D cyC cyI [.ref q] [(q, .inr (2, [.ref ql, .ref qr, .int pv])), (ql, .inr (0, [.int pl0, .int pl1, .int pl2, .int pl3, .int pl4, .int pl5, .int pl6, .int pl7, .int pl8, .int pl9, .int pl10, .int pl11, .int (bB plb)])), (qr, .inr (0, [.int pr0, .int pr1, .int pr2, .int pr3, .int pr4, .int pr5, .int pr6, .int pr7, .int pr8, .int pr9, .int pr10, .int pr11, .int (bB prb)]))] (bB o0) [(q, .inr (2, [.ref ql, .ref qr, .int pv])), (ql, .inr (0, [.int pl0, .int pl1, .int pl2, .int pl3, .int pl4, .int pl5, .int pl6, .int pl7, .int pl8, .int pl9, .int pl10, .int pl11, .int (bB plb)])), (qr, .inr (0, [.int pr0, .int pr1, .int pr2, .int pr3, .int pr4, .int pr5, .int pr6, .int pr7, .int pr8, .int pr9, .int pr10, .int pr11, .int (bB prb)]))] := by
  refine CI.of (cc := cX2_isCoupled) (n := 1) (ret := (some .boolean)) (by decide +kernel) rfl (Nat.le_of_ble_eq_true rfl) ?_
  intro p_ e_ s_ m_ bl_ me_ cd_ A_ ls X Y hr hlk hl
  have hx := X.1.1
  have hb := X.1.2.1
  have hl : lv_has ls 1 [(0, .ref q)] := hl
  unfold s_isCoupled at hu
  refine lv_aload_n hx hb dX2_isCoupled_0 rfl (lv_at hl 0 rfl) ?_
  refine bGet (v := .int pv) (T := TX2) (N := 3) (ci := 2) X Y i_X2_isCoupled_X2 0 rfl rfl 2 (Nat.le_of_ble_eq_true rfl) f_X2_isCoupled_21 rfl rfl dX2_isCoupled_1 ?_
  refine lv_if_lt (tgt := 11) hx hb dX2_isCoupled_4 (by decide) (fun c_1 => ?_) (fun c_1 => ?_)
  · have c_1 : pv < 0 := c_1
    rw [if_pos c_1] at hu
    refine lv_iconst (v := 0) hx hb dX2_isCoupled_11 (by decide) ?_
    subst hu
    exact bEndZ X Y hr hlk dX2_isCoupled_12 rfl rfl rfl
  · have c_1 : ¬ (pv < 0) := c_1
    rw [if_neg c_1] at hu
    refine lv_iconst (v := 1) hx hb dX2_isCoupled_7 (by decide) ?_
    refine lv_goto (tgt := 12) hx hb dX2_isCoupled_8 (by decide) ?_
    subst hu
    exact bEndZ X Y hr hlk dX2_isCoupled_12 rfl rfl rfl
theorem hd_X2_isCoupled : bD1 yX2_isCoupled RX2 0 := by decide +kernel
def s_leftHeeds (pv : Int32) (c : Int32) : Bool :=
  if c = 0 then
    true
  else
    if (s_isCoupled pv) = true then
      true
    else
      false
set_option maxHeartbeats 4000000 in
set_option maxRecDepth 100000 in
theorem c_leftHeeds (l : Launch) (D : va_G) (cyC cyI : ClassId) (q : Nat) (pv : Int32) (ql : Nat) (pl0 : Int32) (pl1 : Int32) (pl2 : Int32) (pl3 : Int32) (pl4 : Int32) (pl5 : Int32) (pl6 : Int32) (pl7 : Int32) (pl8 : Int32) (pl9 : Int32) (pl10 : Int32) (pl11 : Int32) (plb : Bool) (qr : Nat) (pr0 : Int32) (pr1 : Int32) (pr2 : Int32) (pr3 : Int32) (pr4 : Int32) (pr5 : Int32) (pr6 : Int32) (pr7 : Int32) (pr8 : Int32) (pr9 : Int32) (pr10 : Int32) (pr11 : Int32) (prb : Bool) (c : Int32) (o0 : Bool) (hu : s_leftHeeds pv c = o0) : CI l yX2_leftHeeds wsX2_leftHeeds { frames := 1, cells := 0, slots := 0, locals := 20 } D cyC cyI [.ref q, .int c] [(q, .inr (2, [.ref ql, .ref qr, .int pv])), (ql, .inr (0, [.int pl0, .int pl1, .int pl2, .int pl3, .int pl4, .int pl5, .int pl6, .int pl7, .int pl8, .int pl9, .int pl10, .int pl11, .int (bB plb)])), (qr, .inr (0, [.int pr0, .int pr1, .int pr2, .int pr3, .int pr4, .int pr5, .int pr6, .int pr7, .int pr8, .int pr9, .int pr10, .int pr11, .int (bB prb)]))] (bB o0) [(q, .inr (2, [.ref ql, .ref qr, .int pv])), (ql, .inr (0, [.int pl0, .int pl1, .int pl2, .int pl3, .int pl4, .int pl5, .int pl6, .int pl7, .int pl8, .int pl9, .int pl10, .int pl11, .int (bB plb)])), (qr, .inr (0, [.int pr0, .int pr1, .int pr2, .int pr3, .int pr4, .int pr5, .int pr6, .int pr7, .int pr8, .int pr9, .int pr10, .int pr11, .int (bB prb)]))] := by
  refine CI.of (cc := cX2_leftHeeds) (n := 2) (ret := (some .boolean)) (by decide +kernel) rfl (Nat.le_of_ble_eq_true rfl) ?_
  intro p_ e_ s_ m_ bl_ me_ cd_ A_ ls X Y hr hlk hl
  have hx := X.1.1
  have hb := X.1.2.1
  have hl : lv_has ls 2 [(0, .ref q), (1, .int c)] := hl
  unfold s_leftHeeds at hu
  refine lv_iload_n hx hb dX2_leftHeeds_0 rfl (lv_at hl 1 rfl) ?_
  refine lv_if_eq (tgt := 11) hx hb dX2_leftHeeds_1 (by decide) (fun c_1 => ?_) (fun c_1 => ?_)
  · have c_1 : c = 0 := c_1
    rw [if_pos c_1] at hu
    refine lv_iconst (v := 1) hx hb dX2_leftHeeds_11 (by decide) ?_
    refine lv_goto (tgt := 16) hx hb dX2_leftHeeds_12 (by decide) ?_
    subst hu
    exact bEndZ X Y hr hlk dX2_leftHeeds_16 rfl rfl rfl
  · have c_1 : ¬ (c = 0) := c_1
    rw [if_neg c_1] at hu
    refine lv_aload_n hx hb dX2_leftHeeds_4 rfl (lv_at hl 0 rfl) ?_
    refine bVI0 (As := []) (rest := []) (wc := [(q, .inr (2, [.ref ql, .ref qr, .int pv])), (ql, .inr (0, [.int pl0, .int pl1, .int pl2, .int pl3, .int pl4, .int pl5, .int pl6, .int pl7, .int pl8, .int pl9, .int pl10, .int pl11, .int (bB plb)])), (qr, .inr (0, [.int pr0, .int pr1, .int pr2, .int pr3, .int pr4, .int pr5, .int pr6, .int pr7, .int pr8, .int pr9, .int pr10, .int pr11, .int (bB prb)]))]) (ci := 2) (q0 := 0) X Y (c_isCoupled l D cyC cyI q pv ql pl0 pl1 pl2 pl3 pl4 pl5 pl6 pl7 pl8 pl9 pl10 pl11 plb qr pr0 pr1 pr2 pr3 pr4 pr5 pr6 pr7 pr8 pr9 pr10 pr11 prb (s_isCoupled pv) rfl) gX2_leftHeeds_X2_isCoupled rfl ⟨rfl, rfl⟩ hd_X2_isCoupled ⟨(Nat.le_of_ble_eq_true rfl), (Nat.le_of_ble_eq_true rfl)⟩ rfl rfl rfl [0, 1, 2] rfl rfl rfl rfl hl.1 (Nat.le_of_ble_eq_true rfl) ⟨Nat.zero_le _, Nat.zero_le _⟩ dX2_leftHeeds_5 (fun H locs Y => ?_)
    refine lv_if_eq (tgt := 15) hx hb dX2_leftHeeds_8 (by decide) (fun c_2 => ?_) (fun c_2 => ?_)
    · have c_2 := bB_f c_2
      rw [if_neg c_2] at hu
      refine lv_iconst (v := 0) hx hb dX2_leftHeeds_15 (by decide) ?_
      subst hu
      exact bEndZ X Y hr hlk dX2_leftHeeds_16 rfl rfl rfl
    · have c_2 := bB_t c_2
      rw [if_pos c_2] at hu
      refine lv_iconst (v := 1) hx hb dX2_leftHeeds_11 (by decide) ?_
      refine lv_goto (tgt := 16) hx hb dX2_leftHeeds_12 (by decide) ?_
      subst hu
      exact bEndZ X Y hr hlk dX2_leftHeeds_16 rfl rfl rfl
def s_rightHeeds (pv : Int32) (c : Int32) : Bool :=
  if c = 1 then
    true
  else
    if (s_isCoupled pv) = true then
      true
    else
      false
set_option maxHeartbeats 4000000 in
set_option maxRecDepth 100000 in
theorem c_rightHeeds (l : Launch) (D : va_G) (cyC cyI : ClassId) (q : Nat) (pv : Int32) (ql : Nat) (pl0 : Int32) (pl1 : Int32) (pl2 : Int32) (pl3 : Int32) (pl4 : Int32) (pl5 : Int32) (pl6 : Int32) (pl7 : Int32) (pl8 : Int32) (pl9 : Int32) (pl10 : Int32) (pl11 : Int32) (plb : Bool) (qr : Nat) (pr0 : Int32) (pr1 : Int32) (pr2 : Int32) (pr3 : Int32) (pr4 : Int32) (pr5 : Int32) (pr6 : Int32) (pr7 : Int32) (pr8 : Int32) (pr9 : Int32) (pr10 : Int32) (pr11 : Int32) (prb : Bool) (c : Int32) (o0 : Bool) (hu : s_rightHeeds pv c = o0) : CI l yX2_rightHeeds wsX2_rightHeeds { frames := 1, cells := 0, slots := 0, locals := 20 } D cyC cyI [.ref q, .int c] [(q, .inr (2, [.ref ql, .ref qr, .int pv])), (ql, .inr (0, [.int pl0, .int pl1, .int pl2, .int pl3, .int pl4, .int pl5, .int pl6, .int pl7, .int pl8, .int pl9, .int pl10, .int pl11, .int (bB plb)])), (qr, .inr (0, [.int pr0, .int pr1, .int pr2, .int pr3, .int pr4, .int pr5, .int pr6, .int pr7, .int pr8, .int pr9, .int pr10, .int pr11, .int (bB prb)]))] (bB o0) [(q, .inr (2, [.ref ql, .ref qr, .int pv])), (ql, .inr (0, [.int pl0, .int pl1, .int pl2, .int pl3, .int pl4, .int pl5, .int pl6, .int pl7, .int pl8, .int pl9, .int pl10, .int pl11, .int (bB plb)])), (qr, .inr (0, [.int pr0, .int pr1, .int pr2, .int pr3, .int pr4, .int pr5, .int pr6, .int pr7, .int pr8, .int pr9, .int pr10, .int pr11, .int (bB prb)]))] := by
  refine CI.of (cc := cX2_rightHeeds) (n := 2) (ret := (some .boolean)) (by decide +kernel) rfl (Nat.le_of_ble_eq_true rfl) ?_
  intro p_ e_ s_ m_ bl_ me_ cd_ A_ ls X Y hr hlk hl
  have hx := X.1.1
  have hb := X.1.2.1
  have hl : lv_has ls 2 [(0, .ref q), (1, .int c)] := hl
  unfold s_rightHeeds at hu
  refine lv_iload_n hx hb dX2_rightHeeds_0 rfl (lv_at hl 1 rfl) ?_
  refine lv_iconst (v := 1) hx hb dX2_rightHeeds_1 (by decide) ?_
  refine lv_icmp_eq (tgt := 12) hx hb dX2_rightHeeds_2 (by decide) (fun c_1 => ?_) (fun c_1 => ?_)
  · have c_1 : c = 1 := c_1
    rw [if_pos c_1] at hu
    refine lv_iconst (v := 1) hx hb dX2_rightHeeds_12 (by decide) ?_
    refine lv_goto (tgt := 17) hx hb dX2_rightHeeds_13 (by decide) ?_
    subst hu
    exact bEndZ X Y hr hlk dX2_rightHeeds_17 rfl rfl rfl
  · have c_1 : ¬ (c = 1) := c_1
    rw [if_neg c_1] at hu
    refine lv_aload_n hx hb dX2_rightHeeds_5 rfl (lv_at hl 0 rfl) ?_
    refine bVI0 (As := []) (rest := []) (wc := [(q, .inr (2, [.ref ql, .ref qr, .int pv])), (ql, .inr (0, [.int pl0, .int pl1, .int pl2, .int pl3, .int pl4, .int pl5, .int pl6, .int pl7, .int pl8, .int pl9, .int pl10, .int pl11, .int (bB plb)])), (qr, .inr (0, [.int pr0, .int pr1, .int pr2, .int pr3, .int pr4, .int pr5, .int pr6, .int pr7, .int pr8, .int pr9, .int pr10, .int pr11, .int (bB prb)]))]) (ci := 2) (q0 := 0) X Y (c_isCoupled l D cyC cyI q pv ql pl0 pl1 pl2 pl3 pl4 pl5 pl6 pl7 pl8 pl9 pl10 pl11 plb qr pr0 pr1 pr2 pr3 pr4 pr5 pr6 pr7 pr8 pr9 pr10 pr11 prb (s_isCoupled pv) rfl) gX2_rightHeeds_X2_isCoupled rfl ⟨rfl, rfl⟩ hd_X2_isCoupled ⟨(Nat.le_of_ble_eq_true rfl), (Nat.le_of_ble_eq_true rfl)⟩ rfl rfl rfl [0, 1, 2] rfl rfl rfl rfl hl.1 (Nat.le_of_ble_eq_true rfl) ⟨Nat.zero_le _, Nat.zero_le _⟩ dX2_rightHeeds_6 (fun H locs Y => ?_)
    refine lv_if_eq (tgt := 16) hx hb dX2_rightHeeds_9 (by decide) (fun c_2 => ?_) (fun c_2 => ?_)
    · have c_2 := bB_f c_2
      rw [if_neg c_2] at hu
      refine lv_iconst (v := 0) hx hb dX2_rightHeeds_16 (by decide) ?_
      subst hu
      exact bEndZ X Y hr hlk dX2_rightHeeds_17 rfl rfl rfl
    · have c_2 := bB_t c_2
      rw [if_pos c_2] at hu
      refine lv_iconst (v := 1) hx hb dX2_rightHeeds_12 (by decide) ?_
      refine lv_goto (tgt := 17) hx hb dX2_rightHeeds_13 (by decide) ?_
      subst hu
      exact bEndZ X Y hr hlk dX2_rightHeeds_17 rfl rfl rfl
def s_heeding (pv : Int32) : Int32 :=
  if (s_isCoupled pv) = true then
    2
  else
    1
set_option maxHeartbeats 4000000 in
set_option maxRecDepth 100000 in
theorem c_heeding (l : Launch) (D : va_G) (cyC cyI : ClassId) (q : Nat) (pv : Int32) (ql : Nat) (pl0 : Int32) (pl1 : Int32) (pl2 : Int32) (pl3 : Int32) (pl4 : Int32) (pl5 : Int32) (pl6 : Int32) (pl7 : Int32) (pl8 : Int32) (pl9 : Int32) (pl10 : Int32) (pl11 : Int32) (plb : Bool) (qr : Nat) (pr0 : Int32) (pr1 : Int32) (pr2 : Int32) (pr3 : Int32) (pr4 : Int32) (pr5 : Int32) (pr6 : Int32) (pr7 : Int32) (pr8 : Int32) (pr9 : Int32) (pr10 : Int32) (pr11 : Int32) (prb : Bool) (o0 : Int32) (hu : s_heeding pv = o0) : CI l yX2_heeding wsX2_heeding { frames := 1, cells := 0, slots := 0, locals := 20 } D cyC cyI [.ref q] [(q, .inr (2, [.ref ql, .ref qr, .int pv])), (ql, .inr (0, [.int pl0, .int pl1, .int pl2, .int pl3, .int pl4, .int pl5, .int pl6, .int pl7, .int pl8, .int pl9, .int pl10, .int pl11, .int (bB plb)])), (qr, .inr (0, [.int pr0, .int pr1, .int pr2, .int pr3, .int pr4, .int pr5, .int pr6, .int pr7, .int pr8, .int pr9, .int pr10, .int pr11, .int (bB prb)]))] o0 [(q, .inr (2, [.ref ql, .ref qr, .int pv])), (ql, .inr (0, [.int pl0, .int pl1, .int pl2, .int pl3, .int pl4, .int pl5, .int pl6, .int pl7, .int pl8, .int pl9, .int pl10, .int pl11, .int (bB plb)])), (qr, .inr (0, [.int pr0, .int pr1, .int pr2, .int pr3, .int pr4, .int pr5, .int pr6, .int pr7, .int pr8, .int pr9, .int pr10, .int pr11, .int (bB prb)]))] := by
  refine CI.of (cc := cX2_heeding) (n := 1) (ret := (some .int)) (by decide +kernel) rfl (Nat.le_of_ble_eq_true rfl) ?_
  intro p_ e_ s_ m_ bl_ me_ cd_ A_ ls X Y hr hlk hl
  have hx := X.1.1
  have hb := X.1.2.1
  have hl : lv_has ls 1 [(0, .ref q)] := hl
  unfold s_heeding at hu
  refine lv_aload_n hx hb dX2_heeding_0 rfl (lv_at hl 0 rfl) ?_
  refine bVI0 (As := []) (rest := []) (wc := [(q, .inr (2, [.ref ql, .ref qr, .int pv])), (ql, .inr (0, [.int pl0, .int pl1, .int pl2, .int pl3, .int pl4, .int pl5, .int pl6, .int pl7, .int pl8, .int pl9, .int pl10, .int pl11, .int (bB plb)])), (qr, .inr (0, [.int pr0, .int pr1, .int pr2, .int pr3, .int pr4, .int pr5, .int pr6, .int pr7, .int pr8, .int pr9, .int pr10, .int pr11, .int (bB prb)]))]) (ci := 2) (q0 := 0) X Y (c_isCoupled l D cyC cyI q pv ql pl0 pl1 pl2 pl3 pl4 pl5 pl6 pl7 pl8 pl9 pl10 pl11 plb qr pr0 pr1 pr2 pr3 pr4 pr5 pr6 pr7 pr8 pr9 pr10 pr11 prb (s_isCoupled pv) rfl) gX2_heeding_X2_isCoupled rfl ⟨rfl, rfl⟩ hd_X2_isCoupled ⟨(Nat.le_of_ble_eq_true rfl), (Nat.le_of_ble_eq_true rfl)⟩ rfl rfl rfl [0, 1, 2] rfl rfl rfl rfl hl.1 (Nat.le_of_ble_eq_true rfl) ⟨Nat.zero_le _, Nat.zero_le _⟩ dX2_heeding_1 (fun H locs Y => ?_)
  refine lv_if_eq (tgt := 11) hx hb dX2_heeding_4 (by decide) (fun c_1 => ?_) (fun c_1 => ?_)
  · have c_1 := bB_f c_1
    rw [if_neg c_1] at hu
    refine lv_iconst (v := 1) hx hb dX2_heeding_11 (by decide) ?_
    subst hu
    exact bEndI X Y hr hlk dX2_heeding_12 rfl rfl
  · have c_1 := bB_t c_1
    rw [if_pos c_1] at hu
    refine lv_iconst (v := 2) hx hb dX2_heeding_7 (by decide) ?_
    refine lv_goto (tgt := 12) hx hb dX2_heeding_8 (by decide) ?_
    subst hu
    exact bEndI X Y hr hlk dX2_heeding_12 rfl rfl
theorem i_X2_freeBetween_X2 : ∀ w ∈ wsX20, w ∈ wsX2_freeBetween := by decide +kernel
theorem f_X2_freeBetween_18 : Cond.fieldLink RX2 18 "SwingCranes$Pair" "right" "LSwingCranes$Crane;" ∈ wsX2_freeBetween := by decide +kernel
theorem i_X2_freeBetween_X0 : ∀ w ∈ wsX00, w ∈ wsX2_freeBetween := by decide +kernel
theorem f_X2_freeBetween_40 : Cond.fieldLink RX2 40 "SwingCranes$Crane" "place" "I" ∈ wsX2_freeBetween := by decide +kernel
theorem f_X2_freeBetween_12 : Cond.fieldLink RX2 12 "SwingCranes$Pair" "left" "LSwingCranes$Crane;" ∈ wsX2_freeBetween := by decide +kernel
theorem i_X2_freeBetween_X1 : ∀ w ∈ wsX10, w ∈ wsX2_freeBetween := by decide +kernel
theorem f_X2_freeBetween_43 : Cond.fieldLink RX2 43 "SwingCranes$Layout" "gap" "I" ∈ wsX2_freeBetween := by decide +kernel
def s_freeBetween (pl0 : Int32) (pr0 : Int32) (r1 : Int32) : Int32 :=
  (pr0 - pl0) - r1
set_option maxHeartbeats 4000000 in
set_option maxRecDepth 100000 in
theorem c_freeBetween (l : Launch) (D : va_G) (cyC cyI : ClassId) (q : Nat) (pv : Int32) (ql : Nat) (pl0 : Int32) (pl1 : Int32) (pl2 : Int32) (pl3 : Int32) (pl4 : Int32) (pl5 : Int32) (pl6 : Int32) (pl7 : Int32) (pl8 : Int32) (pl9 : Int32) (pl10 : Int32) (pl11 : Int32) (plb : Bool) (qr : Nat) (pr0 : Int32) (pr1 : Int32) (pr2 : Int32) (pr3 : Int32) (pr4 : Int32) (pr5 : Int32) (pr6 : Int32) (pr7 : Int32) (pr8 : Int32) (pr9 : Int32) (pr10 : Int32) (pr11 : Int32) (prb : Bool) (g : Nat) (gl : Nat) (gr : Nat) (r0 : Int32) (r1 : Int32) (r2 : Int32) (r3 : Int32) (r4 : Int32) (o0 : Int32) (hu : s_freeBetween pl0 pr0 r1 = o0) : CI l yX2_freeBetween wsX2_freeBetween { frames := 0, cells := 0, slots := 0, locals := 0 } D cyC cyI [.ref q, .ref g] [(q, .inr (2, [.ref ql, .ref qr, .int pv])), (ql, .inr (0, [.int pl0, .int pl1, .int pl2, .int pl3, .int pl4, .int pl5, .int pl6, .int pl7, .int pl8, .int pl9, .int pl10, .int pl11, .int (bB plb)])), (qr, .inr (0, [.int pr0, .int pr1, .int pr2, .int pr3, .int pr4, .int pr5, .int pr6, .int pr7, .int pr8, .int pr9, .int pr10, .int pr11, .int (bB prb)])), (g, .inr (1, [.int r0, .int r1, .int r2, .int r3, .int r4, .ref gl, .ref gr]))] o0 [(q, .inr (2, [.ref ql, .ref qr, .int pv])), (ql, .inr (0, [.int pl0, .int pl1, .int pl2, .int pl3, .int pl4, .int pl5, .int pl6, .int pl7, .int pl8, .int pl9, .int pl10, .int pl11, .int (bB plb)])), (qr, .inr (0, [.int pr0, .int pr1, .int pr2, .int pr3, .int pr4, .int pr5, .int pr6, .int pr7, .int pr8, .int pr9, .int pr10, .int pr11, .int (bB prb)])), (g, .inr (1, [.int r0, .int r1, .int r2, .int r3, .int r4, .ref gl, .ref gr]))] := by
  refine CI.of (cc := cX2_freeBetween) (n := 2) (ret := (some .int)) (by decide +kernel) rfl (Nat.le_of_ble_eq_true rfl) ?_
  intro p_ e_ s_ m_ bl_ me_ cd_ A_ ls X Y hr hlk hl
  have hx := X.1.1
  have hb := X.1.2.1
  have hl : lv_has ls 2 [(0, .ref q), (1, .ref g)] := hl
  unfold s_freeBetween at hu
  refine lv_aload_n hx hb dX2_freeBetween_0 rfl (lv_at hl 0 rfl) ?_
  refine bGet (v := .ref qr) (T := TX2) (N := 3) (ci := 2) X Y i_X2_freeBetween_X2 0 rfl rfl 1 (Nat.le_of_ble_eq_true rfl) f_X2_freeBetween_18 rfl rfl dX2_freeBetween_1 ?_
  refine bGet (v := .int pr0) (T := TX0) (N := 13) (ci := 0) X Y i_X2_freeBetween_X0 2 rfl rfl 0 (Nat.le_of_ble_eq_true rfl) f_X2_freeBetween_40 rfl rfl dX2_freeBetween_4 ?_
  refine lv_aload_n hx hb dX2_freeBetween_7 rfl (lv_at hl 0 rfl) ?_
  refine bGet (v := .ref ql) (T := TX2) (N := 3) (ci := 2) X Y i_X2_freeBetween_X2 0 rfl rfl 0 (Nat.le_of_ble_eq_true rfl) f_X2_freeBetween_12 rfl rfl dX2_freeBetween_8 ?_
  refine bGet (v := .int pl0) (T := TX0) (N := 13) (ci := 0) X Y i_X2_freeBetween_X0 1 rfl rfl 0 (Nat.le_of_ble_eq_true rfl) f_X2_freeBetween_40 rfl rfl dX2_freeBetween_11 ?_
  refine bSub (v := pr0 - pl0) X dX2_freeBetween_14 rfl ?_
  refine lv_aload_n hx hb dX2_freeBetween_15 rfl (lv_at hl 1 rfl) ?_
  refine bGet (v := .int r1) (T := TX1) (N := 7) (ci := 1) X Y i_X2_freeBetween_X1 3 rfl rfl 1 (Nat.le_of_ble_eq_true rfl) f_X2_freeBetween_43 rfl rfl dX2_freeBetween_16 ?_
  refine bSub (v := (pr0 - pl0) - r1) X dX2_freeBetween_19 rfl ?_
  subst hu
  exact bEndI X Y hr hlk dX2_freeBetween_20 rfl rfl
theorem i_X0_planByHalves_X0 : ∀ w ∈ wsX00, w ∈ wsX0_planByHalves := by decide +kernel
theorem f_X0_planByHalves_35 : Cond.fieldLink RX0 35 "SwingCranes$Crane" "want" "I" ∈ wsX0_planByHalves := by decide +kernel
theorem f_X0_planByHalves_24 : Cond.fieldLink RX0 24 "SwingCranes$Crane" "rope" "I" ∈ wsX0_planByHalves := by decide +kernel
theorem hd_X7_halfSwing : bD1 yX7_halfSwing RX7 1 := by decide +kernel
theorem ni_X0_planByHalves_X7 : Cond.initialized RX7 ∈ wsX0_planByHalves := by decide +kernel
theorem ns_X0_planByHalves_X7_halfSwing : Cond.static yX7_halfSwing ∈ wsX0_planByHalves := by decide +kernel
def s_planByHalves (a2 : Int32) (pa : Int32) : Int32 × Unit :=
  if 0 ≤ pa then
    (1 + pa, ())
  else
    (1 + (nI (s_halfSwing a2)), ())
set_option maxHeartbeats 4000000 in
set_option maxRecDepth 100000 in
theorem c_planByHalves (l : Launch) (D : va_G) (cyC cyI : ClassId) (h : Nat) (a0 : Int32) (a1 : Int32) (a2 : Int32) (a3 : Int32) (a4 : Int32) (a5 : Int32) (a6 : Int32) (a7 : Int32) (a8 : Int32) (a9 : Int32) (a10 : Int32) (a11 : Int32) (ab : Bool) (w : Int32) (pa : Int32) (o0 : Int32) (hu : s_planByHalves a2 pa = (o0, ())) : CV l yX0_planByHalves wsX0_planByHalves { frames := 1, cells := 0, slots := 0, locals := 23 } D cyC cyI [.ref h, .int w, .int pa] [(h, .inr (0, [.int a0, .int a1, .int a2, .int a3, .int a4, .int a5, .int a6, .int a7, .int a8, .int a9, .int a10, .int a11, .int (bB ab)]))] [(h, .inr (0, [.int a0, .int a1, .int a2, .int a3, .int a4, .int a5, .int a6, .int a7, .int 1, .int ((w - a6) / 2), .int o0, .int ((w - a6) - ((w - a6) / 2)), .int (bB ab)]))] := by
  refine CV.of (cc := cX0_planByHalves) (n := 5) (ret := none) (by decide +kernel) rfl (Nat.le_of_ble_eq_true rfl) ?_
  intro p_ e_ s_ m_ bl_ me_ cd_ A_ ls X Y hr hlk hl
  have hx := X.1.1
  have hb := X.1.2.1
  have hl : lv_has ls 5 [(0, .ref h), (1, .int w), (2, .int pa)] := hl
  unfold s_planByHalves at hu
  refine lv_iload_n hx hb dX0_planByHalves_0 rfl (lv_at hl 1 rfl) ?_
  refine lv_aload_n hx hb dX0_planByHalves_1 rfl (lv_at hl 0 rfl) ?_
  refine bGet (v := .int a6) (T := TX0) (N := 13) (ci := 0) X Y i_X0_planByHalves_X0 0 rfl rfl 6 (Nat.le_of_ble_eq_true rfl) f_X0_planByHalves_35 rfl rfl dX0_planByHalves_2 ?_
  refine bSub (v := w - a6) X dX0_planByHalves_5 rfl ?_
  refine lv_istore_n (lv' := [(3, .int (w - a6)), (0, .ref h), (1, .int w), (2, .int pa)]) hx hb dX0_planByHalves_6 rfl hl (by decide) rfl (fun ls hl => ?_)
  refine lv_iload_n hx hb dX0_planByHalves_7 rfl (lv_at hl 0 rfl) ?_
  refine lv_iconst (v := 2) hx hb dX0_planByHalves_8 (by decide) ?_
  refine bDiv (v := (w - a6) / 2) X dX0_planByHalves_9 (by decide) rfl ?_
  refine lv_istore (lv' := [(4, .int ((w - a6) / 2)), (3, .int (w - a6)), (0, .ref h), (1, .int w), (2, .int pa)]) hx hb dX0_planByHalves_10 hl (by decide) rfl (fun ls hl => ?_)
  refine lv_aload_n hx hb dX0_planByHalves_12 rfl (lv_at hl 2 rfl) ?_
  refine lv_iload hx hb dX0_planByHalves_13 (lv_at hl 0 rfl) ?_
  refine lv_iload_n hx hb dX0_planByHalves_15 rfl (lv_at hl 1 rfl) ?_
  refine lv_iload hx hb dX0_planByHalves_16 (lv_at hl 0 rfl) ?_
  refine bSub (v := (w - a6) - ((w - a6) / 2)) X dX0_planByHalves_18 rfl ?_
  refine lv_iload_n hx hb dX0_planByHalves_19 rfl (lv_at hl 4 rfl) ?_
  refine lv_if_ge (tgt := 33) hx hb dX0_planByHalves_20 (by decide) (fun c_1 => ?_) (fun c_1 => ?_)
  · have c_1 : 0 ≤ pa := c_1
    rw [if_pos c_1] at hu
    refine lv_iload_n hx hb dX0_planByHalves_33 rfl (lv_at hl 4 rfl) ?_
    refine bVV (As := [.int ((w - a6) / 2), .int ((w - a6) - ((w - a6) / 2)), .int pa]) (rest := []) (wc := [(h, .inr (0, [.int a0, .int a1, .int a2, .int a3, .int a4, .int a5, .int a6, .int a7, .int a8, .int a9, .int a10, .int a11, .int (bB ab)]))]) (w1 := [(h, .inr (0, [.int a0, .int a1, .int a2, .int a3, .int a4, .int a5, .int a6, .int a7, .int 1, .int ((w - a6) / 2), .int (1 + pa), .int ((w - a6) - ((w - a6) / 2)), .int (bB ab)]))]) (ws' := [(h, .inr (0, [.int a0, .int a1, .int a2, .int a3, .int a4, .int a5, .int a6, .int a7, .int 1, .int ((w - a6) / 2), .int (1 + pa), .int ((w - a6) - ((w - a6) / 2)), .int (bB ab)]))]) (ad := [h]) (wr := []) (nn := 1) (ci := 0) (q0 := 0) X Y (c_setSteps l D cyC cyI h a0 a1 a2 a3 a4 a5 a6 a7 a8 a9 a10 a11 ab ((w - a6) / 2) ((w - a6) - ((w - a6) / 2)) pa) gX0_planByHalves_X0_setSteps rfl ⟨rfl, rfl⟩ hd_X0_setSteps ⟨(Nat.le_of_ble_eq_true rfl), (Nat.le_of_ble_eq_true rfl)⟩ rfl rfl rfl [0] [] rfl rfl rfl rfl rfl rfl rfl rfl (by decide) rfl rfl hl.1 (Nat.le_of_ble_eq_true rfl) ⟨Nat.zero_le _, Nat.zero_le _⟩ dX0_planByHalves_34 (fun H locs Y => ?_)
    have h9 := (Prod.mk.inj hu).1
    subst h9
    exact bEndV X Y hr hlk dX0_planByHalves_37 rfl
  · have c_1 : ¬ (0 ≤ pa) := c_1
    rw [if_neg c_1] at hu
    refine lv_aload_n hx hb dX0_planByHalves_23 rfl (lv_at hl 2 rfl) ?_
    refine bGet (v := .int a2) (T := TX0) (N := 13) (ci := 0) X Y i_X0_planByHalves_X0 0 rfl rfl 2 (Nat.le_of_ble_eq_true rfl) f_X0_planByHalves_24 rfl rfl dX0_planByHalves_24 ?_
    refine bNI (host := RX7) (As := [.int a2]) (rest := [.int ((w - a6) - ((w - a6) / 2)), .int ((w - a6) / 2), .ref h]) X Y (c_halfSwing l D cyC cyI a2 (s_halfSwing a2) rfl) gX0_planByHalves_X7_halfSwing_n61 rfl ⟨rfl, rfl⟩ hd_X7_halfSwing.2 ⟨(Nat.le_of_ble_eq_true rfl), (Nat.le_of_ble_eq_true rfl)⟩ 4 rfl ni_X0_planByHalves_X7 ns_X0_planByHalves_X7_halfSwing rfl rfl hl.1 (Nat.le_of_ble_eq_true rfl) ⟨Nat.zero_le _, Nat.zero_le _⟩ dX0_planByHalves_27 (fun H locs Y => ?_)
    refine lv_goto (tgt := 34) hx hb dX0_planByHalves_30 (by decide) ?_
    refine bVV (As := [.int ((w - a6) / 2), .int ((w - a6) - ((w - a6) / 2)), .int (nI (s_halfSwing a2))]) (rest := []) (wc := [(h, .inr (0, [.int a0, .int a1, .int a2, .int a3, .int a4, .int a5, .int a6, .int a7, .int a8, .int a9, .int a10, .int a11, .int (bB ab)]))]) (w1 := [(h, .inr (0, [.int a0, .int a1, .int a2, .int a3, .int a4, .int a5, .int a6, .int a7, .int 1, .int ((w - a6) / 2), .int (1 + (nI (s_halfSwing a2))), .int ((w - a6) - ((w - a6) / 2)), .int (bB ab)]))]) (ws' := [(h, .inr (0, [.int a0, .int a1, .int a2, .int a3, .int a4, .int a5, .int a6, .int a7, .int 1, .int ((w - a6) / 2), .int (1 + (nI (s_halfSwing a2))), .int ((w - a6) - ((w - a6) / 2)), .int (bB ab)]))]) (ad := [h]) (wr := []) (nn := 1) (ci := 0) (q0 := 0) X Y (c_setSteps l D cyC cyI h a0 a1 a2 a3 a4 a5 a6 a7 a8 a9 a10 a11 ab ((w - a6) / 2) ((w - a6) - ((w - a6) / 2)) (nI (s_halfSwing a2))) gX0_planByHalves_X0_setSteps rfl ⟨rfl, rfl⟩ hd_X0_setSteps ⟨(Nat.le_of_ble_eq_true rfl), (Nat.le_of_ble_eq_true rfl)⟩ rfl rfl rfl [0] [] rfl rfl rfl rfl rfl rfl rfl rfl (by decide) rfl rfl hl.1 (Nat.le_of_ble_eq_true rfl) ⟨Nat.zero_le _, Nat.zero_le _⟩ dX0_planByHalves_34 (fun H locs Y => ?_)
    have h9 := (Prod.mk.inj hu).1
    subst h9
    exact bEndV X Y hr hlk dX0_planByHalves_37 rfl
theorem hd_X2_leftHeeds : bD1 yX2_leftHeeds RX2 1 := by decide +kernel
theorem hd_X2_rightHeeds : bD1 yX2_rightHeeds RX2 1 := by decide +kernel
theorem hd_X2_heeding : bD1 yX2_heeding RX2 0 := by decide +kernel
theorem i_X2_tellAtOnce_X2 : ∀ w ∈ wsX20, w ∈ wsX2_tellAtOnce := by decide +kernel
theorem f_X2_tellAtOnce_18 : Cond.fieldLink RX2 18 "SwingCranes$Pair" "right" "LSwingCranes$Crane;" ∈ wsX2_tellAtOnce := by decide +kernel
theorem hd_X0_planAtOnce : bD1 yX0_planAtOnce RX0 1 := by decide +kernel
theorem f_X2_tellAtOnce_12 : Cond.fieldLink RX2 12 "SwingCranes$Pair" "left" "LSwingCranes$Crane;" ∈ wsX2_tellAtOnce := by decide +kernel
def s_tellAtOnce (pv : Int32) (pl6 : Int32) (pl8 : Int32) (pl9 : Int32) (pl10 : Int32) (pl11 : Int32) (pr6 : Int32) (pr8 : Int32) (pr9 : Int32) (pr10 : Int32) (pr11 : Int32) (c : Int32) (w : Int32) : Int32 × Int32 × Int32 × Int32 × Int32 × Int32 × Int32 × Int32 × Int32 :=
  if (s_leftHeeds pv c) = true then
    if (s_rightHeeds pv c) = true then
      ((s_heeding pv), 1, w - pl6, 1 + 0, 0, 1, w - pr6, 1 + 0, 0)
    else
      ((s_heeding pv), 1, w - pl6, 1 + 0, 0, pr8, pr9, pr10, pr11)
  else
    if (s_rightHeeds pv c) = true then
      ((s_heeding pv), pl8, pl9, pl10, pl11, 1, w - pr6, 1 + 0, 0)
    else
      ((s_heeding pv), pl8, pl9, pl10, pl11, pr8, pr9, pr10, pr11)
set_option maxHeartbeats 4000000 in
set_option maxRecDepth 100000 in
theorem c_tellAtOnce (l : Launch) (D : va_G) (cyC cyI : ClassId) (q : Nat) (pv : Int32) (ql : Nat) (pl0 : Int32) (pl1 : Int32) (pl2 : Int32) (pl3 : Int32) (pl4 : Int32) (pl5 : Int32) (pl6 : Int32) (pl7 : Int32) (pl8 : Int32) (pl9 : Int32) (pl10 : Int32) (pl11 : Int32) (plb : Bool) (qr : Nat) (pr0 : Int32) (pr1 : Int32) (pr2 : Int32) (pr3 : Int32) (pr4 : Int32) (pr5 : Int32) (pr6 : Int32) (pr7 : Int32) (pr8 : Int32) (pr9 : Int32) (pr10 : Int32) (pr11 : Int32) (prb : Bool) (c : Int32) (w : Int32) (o0 : Int32) (o1 : Int32) (o2 : Int32) (o3 : Int32) (o4 : Int32) (o5 : Int32) (o6 : Int32) (o7 : Int32) (o8 : Int32) (hu : s_tellAtOnce pv pl6 pl8 pl9 pl10 pl11 pr6 pr8 pr9 pr10 pr11 c w = (o0, o1, o2, o3, o4, o5, o6, o7, o8)) : CI l yX2_tellAtOnce wsX2_tellAtOnce { frames := 2, cells := 0, slots := 0, locals := 44 } D cyC cyI [.ref q, .int c, .int w] [(q, .inr (2, [.ref ql, .ref qr, .int pv])), (ql, .inr (0, [.int pl0, .int pl1, .int pl2, .int pl3, .int pl4, .int pl5, .int pl6, .int pl7, .int pl8, .int pl9, .int pl10, .int pl11, .int (bB plb)])), (qr, .inr (0, [.int pr0, .int pr1, .int pr2, .int pr3, .int pr4, .int pr5, .int pr6, .int pr7, .int pr8, .int pr9, .int pr10, .int pr11, .int (bB prb)]))] o0 [(q, .inr (2, [.ref ql, .ref qr, .int pv])), (ql, .inr (0, [.int pl0, .int pl1, .int pl2, .int pl3, .int pl4, .int pl5, .int pl6, .int pl7, .int o1, .int o2, .int o3, .int o4, .int (bB plb)])), (qr, .inr (0, [.int pr0, .int pr1, .int pr2, .int pr3, .int pr4, .int pr5, .int pr6, .int pr7, .int o5, .int o6, .int o7, .int o8, .int (bB prb)]))] := by
  refine CI.of (cc := cX2_tellAtOnce) (n := 3) (ret := (some .int)) (by decide +kernel) rfl (Nat.le_of_ble_eq_true rfl) ?_
  intro p_ e_ s_ m_ bl_ me_ cd_ A_ ls X Y hr hlk hl
  have hx := X.1.1
  have hb := X.1.2.1
  have hl : lv_has ls 3 [(0, .ref q), (1, .int c), (2, .int w)] := hl
  unfold s_tellAtOnce at hu
  refine lv_aload_n hx hb dX2_tellAtOnce_0 rfl (lv_at hl 0 rfl) ?_
  refine lv_iload_n hx hb dX2_tellAtOnce_1 rfl (lv_at hl 1 rfl) ?_
  refine bVI0 (As := [.int c]) (rest := []) (wc := [(q, .inr (2, [.ref ql, .ref qr, .int pv])), (ql, .inr (0, [.int pl0, .int pl1, .int pl2, .int pl3, .int pl4, .int pl5, .int pl6, .int pl7, .int pl8, .int pl9, .int pl10, .int pl11, .int (bB plb)])), (qr, .inr (0, [.int pr0, .int pr1, .int pr2, .int pr3, .int pr4, .int pr5, .int pr6, .int pr7, .int pr8, .int pr9, .int pr10, .int pr11, .int (bB prb)]))]) (ci := 2) (q0 := 0) X Y (c_leftHeeds l D cyC cyI q pv ql pl0 pl1 pl2 pl3 pl4 pl5 pl6 pl7 pl8 pl9 pl10 pl11 plb qr pr0 pr1 pr2 pr3 pr4 pr5 pr6 pr7 pr8 pr9 pr10 pr11 prb c (s_leftHeeds pv c) rfl) gX2_tellAtOnce_X2_leftHeeds rfl ⟨rfl, rfl⟩ hd_X2_leftHeeds ⟨(Nat.le_of_ble_eq_true rfl), (Nat.le_of_ble_eq_true rfl)⟩ rfl rfl rfl [0, 1, 2] rfl rfl rfl rfl hl.1 (Nat.le_of_ble_eq_true rfl) ⟨Nat.zero_le _, Nat.zero_le _⟩ dX2_tellAtOnce_2 (fun H locs Y => ?_)
  refine lv_if_eq (tgt := 16) hx hb dX2_tellAtOnce_5 (by decide) (fun c_1 => ?_) (fun c_1 => ?_)
  · have c_1 := bB_f c_1
    rw [if_neg c_1] at hu
    refine lv_aload_n hx hb dX2_tellAtOnce_16 rfl (lv_at hl 0 rfl) ?_
    refine lv_iload_n hx hb dX2_tellAtOnce_17 rfl (lv_at hl 1 rfl) ?_
    refine bVI0 (As := [.int c]) (rest := []) (wc := [(q, .inr (2, [.ref ql, .ref qr, .int pv])), (ql, .inr (0, [.int pl0, .int pl1, .int pl2, .int pl3, .int pl4, .int pl5, .int pl6, .int pl7, .int pl8, .int pl9, .int pl10, .int pl11, .int (bB plb)])), (qr, .inr (0, [.int pr0, .int pr1, .int pr2, .int pr3, .int pr4, .int pr5, .int pr6, .int pr7, .int pr8, .int pr9, .int pr10, .int pr11, .int (bB prb)]))]) (ci := 2) (q0 := 0) X Y (c_rightHeeds l D cyC cyI q pv ql pl0 pl1 pl2 pl3 pl4 pl5 pl6 pl7 pl8 pl9 pl10 pl11 plb qr pr0 pr1 pr2 pr3 pr4 pr5 pr6 pr7 pr8 pr9 pr10 pr11 prb c (s_rightHeeds pv c) rfl) gX2_tellAtOnce_X2_rightHeeds rfl ⟨rfl, rfl⟩ hd_X2_rightHeeds ⟨(Nat.le_of_ble_eq_true rfl), (Nat.le_of_ble_eq_true rfl)⟩ rfl rfl rfl [0, 1, 2] rfl rfl rfl rfl hl.1 (Nat.le_of_ble_eq_true rfl) ⟨Nat.zero_le _, Nat.zero_le _⟩ dX2_tellAtOnce_18 (fun H locs Y => ?_)
    refine lv_if_eq (tgt := 32) hx hb dX2_tellAtOnce_21 (by decide) (fun c_2 => ?_) (fun c_2 => ?_)
    · have c_2 := bB_f c_2
      rw [if_neg c_2] at hu
      refine lv_aload_n hx hb dX2_tellAtOnce_32 rfl (lv_at hl 0 rfl) ?_
      refine bVI0 (As := []) (rest := []) (wc := [(q, .inr (2, [.ref ql, .ref qr, .int pv])), (ql, .inr (0, [.int pl0, .int pl1, .int pl2, .int pl3, .int pl4, .int pl5, .int pl6, .int pl7, .int pl8, .int pl9, .int pl10, .int pl11, .int (bB plb)])), (qr, .inr (0, [.int pr0, .int pr1, .int pr2, .int pr3, .int pr4, .int pr5, .int pr6, .int pr7, .int pr8, .int pr9, .int pr10, .int pr11, .int (bB prb)]))]) (ci := 2) (q0 := 0) X Y (c_heeding l D cyC cyI q pv ql pl0 pl1 pl2 pl3 pl4 pl5 pl6 pl7 pl8 pl9 pl10 pl11 plb qr pr0 pr1 pr2 pr3 pr4 pr5 pr6 pr7 pr8 pr9 pr10 pr11 prb (s_heeding pv) rfl) gX2_tellAtOnce_X2_heeding rfl ⟨rfl, rfl⟩ hd_X2_heeding ⟨(Nat.le_of_ble_eq_true rfl), (Nat.le_of_ble_eq_true rfl)⟩ rfl rfl rfl [0, 1, 2] rfl rfl rfl rfl hl.1 (Nat.le_of_ble_eq_true rfl) ⟨Nat.zero_le _, Nat.zero_le _⟩ dX2_tellAtOnce_33 (fun H locs Y => ?_)
      have h9 := (Prod.mk.inj hu).1; replace hu := (Prod.mk.inj hu).2; subst h9
      have h9 := (Prod.mk.inj hu).1; replace hu := (Prod.mk.inj hu).2; subst h9
      have h9 := (Prod.mk.inj hu).1; replace hu := (Prod.mk.inj hu).2; subst h9
      have h9 := (Prod.mk.inj hu).1; replace hu := (Prod.mk.inj hu).2; subst h9
      have h9 := (Prod.mk.inj hu).1; replace hu := (Prod.mk.inj hu).2; subst h9
      have h9 := (Prod.mk.inj hu).1; replace hu := (Prod.mk.inj hu).2; subst h9
      have h9 := (Prod.mk.inj hu).1; replace hu := (Prod.mk.inj hu).2; subst h9
      have h9 := (Prod.mk.inj hu).1; replace hu := (Prod.mk.inj hu).2; subst h9
      subst hu
      exact bEndI X Y hr hlk dX2_tellAtOnce_36 rfl rfl
    · have c_2 := bB_t c_2
      rw [if_pos c_2] at hu
      refine lv_aload_n hx hb dX2_tellAtOnce_24 rfl (lv_at hl 0 rfl) ?_
      refine bGet (v := .ref qr) (T := TX2) (N := 3) (ci := 2) X Y i_X2_tellAtOnce_X2 0 rfl rfl 1 (Nat.le_of_ble_eq_true rfl) f_X2_tellAtOnce_18 rfl rfl dX2_tellAtOnce_25 ?_
      refine lv_iload_n hx hb dX2_tellAtOnce_28 rfl (lv_at hl 2 rfl) ?_
      refine bVV (As := [.int w]) (rest := []) (wc := [(qr, .inr (0, [.int pr0, .int pr1, .int pr2, .int pr3, .int pr4, .int pr5, .int pr6, .int pr7, .int pr8, .int pr9, .int pr10, .int pr11, .int (bB prb)]))]) (w1 := [(qr, .inr (0, [.int pr0, .int pr1, .int pr2, .int pr3, .int pr4, .int pr5, .int pr6, .int pr7, .int 1, .int (w - pr6), .int (1 + 0), .int 0, .int (bB prb)]))]) (ws' := [(q, .inr (2, [.ref ql, .ref qr, .int pv])), (ql, .inr (0, [.int pl0, .int pl1, .int pl2, .int pl3, .int pl4, .int pl5, .int pl6, .int pl7, .int pl8, .int pl9, .int pl10, .int pl11, .int (bB plb)])), (qr, .inr (0, [.int pr0, .int pr1, .int pr2, .int pr3, .int pr4, .int pr5, .int pr6, .int pr7, .int 1, .int (w - pr6), .int (1 + 0), .int 0, .int (bB prb)]))]) (ad := [qr]) (wr := [(q, .inr (2, [.ref ql, .ref qr, .int pv])), (ql, .inr (0, [.int pl0, .int pl1, .int pl2, .int pl3, .int pl4, .int pl5, .int pl6, .int pl7, .int pl8, .int pl9, .int pl10, .int pl11, .int (bB plb)]))]) (nn := 3) (ci := 0) (q0 := 2) X Y (c_planAtOnce l D cyC cyI qr pr0 pr1 pr2 pr3 pr4 pr5 pr6 pr7 pr8 pr9 pr10 pr11 prb w) gX2_tellAtOnce_X0_planAtOnce rfl ⟨rfl, rfl⟩ hd_X0_planAtOnce ⟨(Nat.le_of_ble_eq_true rfl), (Nat.le_of_ble_eq_true rfl)⟩ rfl rfl rfl [2] [0, 1] rfl rfl rfl rfl rfl rfl rfl rfl (by decide) rfl rfl hl.1 (Nat.le_of_ble_eq_true rfl) ⟨Nat.zero_le _, Nat.zero_le _⟩ dX2_tellAtOnce_29 (fun H locs Y => ?_)
      refine lv_aload_n hx hb dX2_tellAtOnce_32 rfl (lv_at hl 0 rfl) ?_
      refine bVI0 (As := []) (rest := []) (wc := [(q, .inr (2, [.ref ql, .ref qr, .int pv])), (ql, .inr (0, [.int pl0, .int pl1, .int pl2, .int pl3, .int pl4, .int pl5, .int pl6, .int pl7, .int pl8, .int pl9, .int pl10, .int pl11, .int (bB plb)])), (qr, .inr (0, [.int pr0, .int pr1, .int pr2, .int pr3, .int pr4, .int pr5, .int pr6, .int pr7, .int 1, .int (w - pr6), .int (1 + 0), .int 0, .int (bB prb)]))]) (ci := 2) (q0 := 0) X Y (c_heeding l D cyC cyI q pv ql pl0 pl1 pl2 pl3 pl4 pl5 pl6 pl7 pl8 pl9 pl10 pl11 plb qr pr0 pr1 pr2 pr3 pr4 pr5 pr6 pr7 1 (w - pr6) (1 + 0) 0 prb (s_heeding pv) rfl) gX2_tellAtOnce_X2_heeding rfl ⟨rfl, rfl⟩ hd_X2_heeding ⟨(Nat.le_of_ble_eq_true rfl), (Nat.le_of_ble_eq_true rfl)⟩ rfl rfl rfl [0, 1, 2] rfl rfl rfl rfl hl.1 (Nat.le_of_ble_eq_true rfl) ⟨Nat.zero_le _, Nat.zero_le _⟩ dX2_tellAtOnce_33 (fun H locs Y => ?_)
      have h9 := (Prod.mk.inj hu).1; replace hu := (Prod.mk.inj hu).2; subst h9
      have h9 := (Prod.mk.inj hu).1; replace hu := (Prod.mk.inj hu).2; subst h9
      have h9 := (Prod.mk.inj hu).1; replace hu := (Prod.mk.inj hu).2; subst h9
      have h9 := (Prod.mk.inj hu).1; replace hu := (Prod.mk.inj hu).2; subst h9
      have h9 := (Prod.mk.inj hu).1; replace hu := (Prod.mk.inj hu).2; subst h9
      have h9 := (Prod.mk.inj hu).1; replace hu := (Prod.mk.inj hu).2; subst h9
      have h9 := (Prod.mk.inj hu).1; replace hu := (Prod.mk.inj hu).2; subst h9
      have h9 := (Prod.mk.inj hu).1; replace hu := (Prod.mk.inj hu).2; subst h9
      subst hu
      exact bEndI X Y hr hlk dX2_tellAtOnce_36 rfl rfl
  · have c_1 := bB_t c_1
    rw [if_pos c_1] at hu
    refine lv_aload_n hx hb dX2_tellAtOnce_8 rfl (lv_at hl 0 rfl) ?_
    refine bGet (v := .ref ql) (T := TX2) (N := 3) (ci := 2) X Y i_X2_tellAtOnce_X2 0 rfl rfl 0 (Nat.le_of_ble_eq_true rfl) f_X2_tellAtOnce_12 rfl rfl dX2_tellAtOnce_9 ?_
    refine lv_iload_n hx hb dX2_tellAtOnce_12 rfl (lv_at hl 2 rfl) ?_
    refine bVV (As := [.int w]) (rest := []) (wc := [(ql, .inr (0, [.int pl0, .int pl1, .int pl2, .int pl3, .int pl4, .int pl5, .int pl6, .int pl7, .int pl8, .int pl9, .int pl10, .int pl11, .int (bB plb)]))]) (w1 := [(ql, .inr (0, [.int pl0, .int pl1, .int pl2, .int pl3, .int pl4, .int pl5, .int pl6, .int pl7, .int 1, .int (w - pl6), .int (1 + 0), .int 0, .int (bB plb)]))]) (ws' := [(q, .inr (2, [.ref ql, .ref qr, .int pv])), (ql, .inr (0, [.int pl0, .int pl1, .int pl2, .int pl3, .int pl4, .int pl5, .int pl6, .int pl7, .int 1, .int (w - pl6), .int (1 + 0), .int 0, .int (bB plb)])), (qr, .inr (0, [.int pr0, .int pr1, .int pr2, .int pr3, .int pr4, .int pr5, .int pr6, .int pr7, .int pr8, .int pr9, .int pr10, .int pr11, .int (bB prb)]))]) (ad := [ql]) (wr := [(q, .inr (2, [.ref ql, .ref qr, .int pv])), (qr, .inr (0, [.int pr0, .int pr1, .int pr2, .int pr3, .int pr4, .int pr5, .int pr6, .int pr7, .int pr8, .int pr9, .int pr10, .int pr11, .int (bB prb)]))]) (nn := 3) (ci := 0) (q0 := 1) X Y (c_planAtOnce l D cyC cyI ql pl0 pl1 pl2 pl3 pl4 pl5 pl6 pl7 pl8 pl9 pl10 pl11 plb w) gX2_tellAtOnce_X0_planAtOnce rfl ⟨rfl, rfl⟩ hd_X0_planAtOnce ⟨(Nat.le_of_ble_eq_true rfl), (Nat.le_of_ble_eq_true rfl)⟩ rfl rfl rfl [1] [0, 2] rfl rfl rfl rfl rfl rfl rfl rfl (by decide) rfl rfl hl.1 (Nat.le_of_ble_eq_true rfl) ⟨Nat.zero_le _, Nat.zero_le _⟩ dX2_tellAtOnce_13 (fun H locs Y => ?_)
    refine lv_aload_n hx hb dX2_tellAtOnce_16 rfl (lv_at hl 0 rfl) ?_
    refine lv_iload_n hx hb dX2_tellAtOnce_17 rfl (lv_at hl 1 rfl) ?_
    refine bVI0 (As := [.int c]) (rest := []) (wc := [(q, .inr (2, [.ref ql, .ref qr, .int pv])), (ql, .inr (0, [.int pl0, .int pl1, .int pl2, .int pl3, .int pl4, .int pl5, .int pl6, .int pl7, .int 1, .int (w - pl6), .int (1 + 0), .int 0, .int (bB plb)])), (qr, .inr (0, [.int pr0, .int pr1, .int pr2, .int pr3, .int pr4, .int pr5, .int pr6, .int pr7, .int pr8, .int pr9, .int pr10, .int pr11, .int (bB prb)]))]) (ci := 2) (q0 := 0) X Y (c_rightHeeds l D cyC cyI q pv ql pl0 pl1 pl2 pl3 pl4 pl5 pl6 pl7 1 (w - pl6) (1 + 0) 0 plb qr pr0 pr1 pr2 pr3 pr4 pr5 pr6 pr7 pr8 pr9 pr10 pr11 prb c (s_rightHeeds pv c) rfl) gX2_tellAtOnce_X2_rightHeeds rfl ⟨rfl, rfl⟩ hd_X2_rightHeeds ⟨(Nat.le_of_ble_eq_true rfl), (Nat.le_of_ble_eq_true rfl)⟩ rfl rfl rfl [0, 1, 2] rfl rfl rfl rfl hl.1 (Nat.le_of_ble_eq_true rfl) ⟨Nat.zero_le _, Nat.zero_le _⟩ dX2_tellAtOnce_18 (fun H locs Y => ?_)
    refine lv_if_eq (tgt := 32) hx hb dX2_tellAtOnce_21 (by decide) (fun c_3 => ?_) (fun c_3 => ?_)
    · have c_3 := bB_f c_3
      rw [if_neg c_3] at hu
      refine lv_aload_n hx hb dX2_tellAtOnce_32 rfl (lv_at hl 0 rfl) ?_
      refine bVI0 (As := []) (rest := []) (wc := [(q, .inr (2, [.ref ql, .ref qr, .int pv])), (ql, .inr (0, [.int pl0, .int pl1, .int pl2, .int pl3, .int pl4, .int pl5, .int pl6, .int pl7, .int 1, .int (w - pl6), .int (1 + 0), .int 0, .int (bB plb)])), (qr, .inr (0, [.int pr0, .int pr1, .int pr2, .int pr3, .int pr4, .int pr5, .int pr6, .int pr7, .int pr8, .int pr9, .int pr10, .int pr11, .int (bB prb)]))]) (ci := 2) (q0 := 0) X Y (c_heeding l D cyC cyI q pv ql pl0 pl1 pl2 pl3 pl4 pl5 pl6 pl7 1 (w - pl6) (1 + 0) 0 plb qr pr0 pr1 pr2 pr3 pr4 pr5 pr6 pr7 pr8 pr9 pr10 pr11 prb (s_heeding pv) rfl) gX2_tellAtOnce_X2_heeding rfl ⟨rfl, rfl⟩ hd_X2_heeding ⟨(Nat.le_of_ble_eq_true rfl), (Nat.le_of_ble_eq_true rfl)⟩ rfl rfl rfl [0, 1, 2] rfl rfl rfl rfl hl.1 (Nat.le_of_ble_eq_true rfl) ⟨Nat.zero_le _, Nat.zero_le _⟩ dX2_tellAtOnce_33 (fun H locs Y => ?_)
      have h9 := (Prod.mk.inj hu).1; replace hu := (Prod.mk.inj hu).2; subst h9
      have h9 := (Prod.mk.inj hu).1; replace hu := (Prod.mk.inj hu).2; subst h9
      have h9 := (Prod.mk.inj hu).1; replace hu := (Prod.mk.inj hu).2; subst h9
      have h9 := (Prod.mk.inj hu).1; replace hu := (Prod.mk.inj hu).2; subst h9
      have h9 := (Prod.mk.inj hu).1; replace hu := (Prod.mk.inj hu).2; subst h9
      have h9 := (Prod.mk.inj hu).1; replace hu := (Prod.mk.inj hu).2; subst h9
      have h9 := (Prod.mk.inj hu).1; replace hu := (Prod.mk.inj hu).2; subst h9
      have h9 := (Prod.mk.inj hu).1; replace hu := (Prod.mk.inj hu).2; subst h9
      subst hu
      exact bEndI X Y hr hlk dX2_tellAtOnce_36 rfl rfl
    · have c_3 := bB_t c_3
      rw [if_pos c_3] at hu
      refine lv_aload_n hx hb dX2_tellAtOnce_24 rfl (lv_at hl 0 rfl) ?_
      refine bGet (v := .ref qr) (T := TX2) (N := 3) (ci := 2) X Y i_X2_tellAtOnce_X2 0 rfl rfl 1 (Nat.le_of_ble_eq_true rfl) f_X2_tellAtOnce_18 rfl rfl dX2_tellAtOnce_25 ?_
      refine lv_iload_n hx hb dX2_tellAtOnce_28 rfl (lv_at hl 2 rfl) ?_
      refine bVV (As := [.int w]) (rest := []) (wc := [(qr, .inr (0, [.int pr0, .int pr1, .int pr2, .int pr3, .int pr4, .int pr5, .int pr6, .int pr7, .int pr8, .int pr9, .int pr10, .int pr11, .int (bB prb)]))]) (w1 := [(qr, .inr (0, [.int pr0, .int pr1, .int pr2, .int pr3, .int pr4, .int pr5, .int pr6, .int pr7, .int 1, .int (w - pr6), .int (1 + 0), .int 0, .int (bB prb)]))]) (ws' := [(q, .inr (2, [.ref ql, .ref qr, .int pv])), (ql, .inr (0, [.int pl0, .int pl1, .int pl2, .int pl3, .int pl4, .int pl5, .int pl6, .int pl7, .int 1, .int (w - pl6), .int (1 + 0), .int 0, .int (bB plb)])), (qr, .inr (0, [.int pr0, .int pr1, .int pr2, .int pr3, .int pr4, .int pr5, .int pr6, .int pr7, .int 1, .int (w - pr6), .int (1 + 0), .int 0, .int (bB prb)]))]) (ad := [qr]) (wr := [(q, .inr (2, [.ref ql, .ref qr, .int pv])), (ql, .inr (0, [.int pl0, .int pl1, .int pl2, .int pl3, .int pl4, .int pl5, .int pl6, .int pl7, .int 1, .int (w - pl6), .int (1 + 0), .int 0, .int (bB plb)]))]) (nn := 3) (ci := 0) (q0 := 2) X Y (c_planAtOnce l D cyC cyI qr pr0 pr1 pr2 pr3 pr4 pr5 pr6 pr7 pr8 pr9 pr10 pr11 prb w) gX2_tellAtOnce_X0_planAtOnce rfl ⟨rfl, rfl⟩ hd_X0_planAtOnce ⟨(Nat.le_of_ble_eq_true rfl), (Nat.le_of_ble_eq_true rfl)⟩ rfl rfl rfl [2] [0, 1] rfl rfl rfl rfl rfl rfl rfl rfl (by decide) rfl rfl hl.1 (Nat.le_of_ble_eq_true rfl) ⟨Nat.zero_le _, Nat.zero_le _⟩ dX2_tellAtOnce_29 (fun H locs Y => ?_)
      refine lv_aload_n hx hb dX2_tellAtOnce_32 rfl (lv_at hl 0 rfl) ?_
      refine bVI0 (As := []) (rest := []) (wc := [(q, .inr (2, [.ref ql, .ref qr, .int pv])), (ql, .inr (0, [.int pl0, .int pl1, .int pl2, .int pl3, .int pl4, .int pl5, .int pl6, .int pl7, .int 1, .int (w - pl6), .int (1 + 0), .int 0, .int (bB plb)])), (qr, .inr (0, [.int pr0, .int pr1, .int pr2, .int pr3, .int pr4, .int pr5, .int pr6, .int pr7, .int 1, .int (w - pr6), .int (1 + 0), .int 0, .int (bB prb)]))]) (ci := 2) (q0 := 0) X Y (c_heeding l D cyC cyI q pv ql pl0 pl1 pl2 pl3 pl4 pl5 pl6 pl7 1 (w - pl6) (1 + 0) 0 plb qr pr0 pr1 pr2 pr3 pr4 pr5 pr6 pr7 1 (w - pr6) (1 + 0) 0 prb (s_heeding pv) rfl) gX2_tellAtOnce_X2_heeding rfl ⟨rfl, rfl⟩ hd_X2_heeding ⟨(Nat.le_of_ble_eq_true rfl), (Nat.le_of_ble_eq_true rfl)⟩ rfl rfl rfl [0, 1, 2] rfl rfl rfl rfl hl.1 (Nat.le_of_ble_eq_true rfl) ⟨Nat.zero_le _, Nat.zero_le _⟩ dX2_tellAtOnce_33 (fun H locs Y => ?_)
      have h9 := (Prod.mk.inj hu).1; replace hu := (Prod.mk.inj hu).2; subst h9
      have h9 := (Prod.mk.inj hu).1; replace hu := (Prod.mk.inj hu).2; subst h9
      have h9 := (Prod.mk.inj hu).1; replace hu := (Prod.mk.inj hu).2; subst h9
      have h9 := (Prod.mk.inj hu).1; replace hu := (Prod.mk.inj hu).2; subst h9
      have h9 := (Prod.mk.inj hu).1; replace hu := (Prod.mk.inj hu).2; subst h9
      have h9 := (Prod.mk.inj hu).1; replace hu := (Prod.mk.inj hu).2; subst h9
      have h9 := (Prod.mk.inj hu).1; replace hu := (Prod.mk.inj hu).2; subst h9
      have h9 := (Prod.mk.inj hu).1; replace hu := (Prod.mk.inj hu).2; subst h9
      subst hu
      exact bEndI X Y hr hlk dX2_tellAtOnce_36 rfl rfl
theorem i_X2_tellByHalves_X2 : ∀ w ∈ wsX20, w ∈ wsX2_tellByHalves := by decide +kernel
theorem f_X2_tellByHalves_18 : Cond.fieldLink RX2 18 "SwingCranes$Pair" "right" "LSwingCranes$Crane;" ∈ wsX2_tellByHalves := by decide +kernel
theorem hd_X0_planByHalves : bD1 yX0_planByHalves RX0 2 := by decide +kernel
theorem f_X2_tellByHalves_12 : Cond.fieldLink RX2 12 "SwingCranes$Pair" "left" "LSwingCranes$Crane;" ∈ wsX2_tellByHalves := by decide +kernel
def s_tellByHalves (pv : Int32) (pl2 : Int32) (pl6 : Int32) (pl8 : Int32) (pl9 : Int32) (pl10 : Int32) (pl11 : Int32) (pr2 : Int32) (pr6 : Int32) (pr8 : Int32) (pr9 : Int32) (pr10 : Int32) (pr11 : Int32) (c : Int32) (w : Int32) (pa : Int32) : Int32 × Int32 × Int32 × Int32 × Int32 × Int32 × Int32 × Int32 × Int32 :=
  if (s_leftHeeds pv c) = true then
    match s_planByHalves pl2 pa with
    | (u_4_0, _) =>
      if (s_rightHeeds pv c) = true then
        match s_planByHalves pr2 pa with
        | (u_6_0, _) =>
          ((s_heeding pv), 1, (w - pl6) / 2, u_4_0, (w - pl6) - ((w - pl6) / 2), 1, (w - pr6) / 2, u_6_0, (w - pr6) - ((w - pr6) / 2))
      else
        ((s_heeding pv), 1, (w - pl6) / 2, u_4_0, (w - pl6) - ((w - pl6) / 2), pr8, pr9, pr10, pr11)
  else
    if (s_rightHeeds pv c) = true then
      match s_planByHalves pr2 pa with
      | (u_3_0, _) =>
        ((s_heeding pv), pl8, pl9, pl10, pl11, 1, (w - pr6) / 2, u_3_0, (w - pr6) - ((w - pr6) / 2))
    else
      ((s_heeding pv), pl8, pl9, pl10, pl11, pr8, pr9, pr10, pr11)
set_option maxHeartbeats 4000000 in
set_option maxRecDepth 100000 in
theorem c_tellByHalves (l : Launch) (D : va_G) (cyC cyI : ClassId) (q : Nat) (pv : Int32) (ql : Nat) (pl0 : Int32) (pl1 : Int32) (pl2 : Int32) (pl3 : Int32) (pl4 : Int32) (pl5 : Int32) (pl6 : Int32) (pl7 : Int32) (pl8 : Int32) (pl9 : Int32) (pl10 : Int32) (pl11 : Int32) (plb : Bool) (qr : Nat) (pr0 : Int32) (pr1 : Int32) (pr2 : Int32) (pr3 : Int32) (pr4 : Int32) (pr5 : Int32) (pr6 : Int32) (pr7 : Int32) (pr8 : Int32) (pr9 : Int32) (pr10 : Int32) (pr11 : Int32) (prb : Bool) (c : Int32) (w : Int32) (pa : Int32) (o0 : Int32) (o1 : Int32) (o2 : Int32) (o3 : Int32) (o4 : Int32) (o5 : Int32) (o6 : Int32) (o7 : Int32) (o8 : Int32) (hu : s_tellByHalves pv pl2 pl6 pl8 pl9 pl10 pl11 pr2 pr6 pr8 pr9 pr10 pr11 c w pa = (o0, o1, o2, o3, o4, o5, o6, o7, o8)) : CI l yX2_tellByHalves wsX2_tellByHalves { frames := 2, cells := 0, slots := 0, locals := 47 } D cyC cyI [.ref q, .int c, .int w, .int pa] [(q, .inr (2, [.ref ql, .ref qr, .int pv])), (ql, .inr (0, [.int pl0, .int pl1, .int pl2, .int pl3, .int pl4, .int pl5, .int pl6, .int pl7, .int pl8, .int pl9, .int pl10, .int pl11, .int (bB plb)])), (qr, .inr (0, [.int pr0, .int pr1, .int pr2, .int pr3, .int pr4, .int pr5, .int pr6, .int pr7, .int pr8, .int pr9, .int pr10, .int pr11, .int (bB prb)]))] o0 [(q, .inr (2, [.ref ql, .ref qr, .int pv])), (ql, .inr (0, [.int pl0, .int pl1, .int pl2, .int pl3, .int pl4, .int pl5, .int pl6, .int pl7, .int o1, .int o2, .int o3, .int o4, .int (bB plb)])), (qr, .inr (0, [.int pr0, .int pr1, .int pr2, .int pr3, .int pr4, .int pr5, .int pr6, .int pr7, .int o5, .int o6, .int o7, .int o8, .int (bB prb)]))] := by
  refine CI.of (cc := cX2_tellByHalves) (n := 4) (ret := (some .int)) (by decide +kernel) rfl (Nat.le_of_ble_eq_true rfl) ?_
  intro p_ e_ s_ m_ bl_ me_ cd_ A_ ls X Y hr hlk hl
  have hx := X.1.1
  have hb := X.1.2.1
  have hl : lv_has ls 4 [(0, .ref q), (1, .int c), (2, .int w), (3, .int pa)] := hl
  unfold s_tellByHalves at hu
  refine lv_aload_n hx hb dX2_tellByHalves_0 rfl (lv_at hl 0 rfl) ?_
  refine lv_iload_n hx hb dX2_tellByHalves_1 rfl (lv_at hl 1 rfl) ?_
  refine bVI0 (As := [.int c]) (rest := []) (wc := [(q, .inr (2, [.ref ql, .ref qr, .int pv])), (ql, .inr (0, [.int pl0, .int pl1, .int pl2, .int pl3, .int pl4, .int pl5, .int pl6, .int pl7, .int pl8, .int pl9, .int pl10, .int pl11, .int (bB plb)])), (qr, .inr (0, [.int pr0, .int pr1, .int pr2, .int pr3, .int pr4, .int pr5, .int pr6, .int pr7, .int pr8, .int pr9, .int pr10, .int pr11, .int (bB prb)]))]) (ci := 2) (q0 := 0) X Y (c_leftHeeds l D cyC cyI q pv ql pl0 pl1 pl2 pl3 pl4 pl5 pl6 pl7 pl8 pl9 pl10 pl11 plb qr pr0 pr1 pr2 pr3 pr4 pr5 pr6 pr7 pr8 pr9 pr10 pr11 prb c (s_leftHeeds pv c) rfl) gX2_tellByHalves_X2_leftHeeds rfl ⟨rfl, rfl⟩ hd_X2_leftHeeds ⟨(Nat.le_of_ble_eq_true rfl), (Nat.le_of_ble_eq_true rfl)⟩ rfl rfl rfl [0, 1, 2] rfl rfl rfl rfl hl.1 (Nat.le_of_ble_eq_true rfl) ⟨Nat.zero_le _, Nat.zero_le _⟩ dX2_tellByHalves_2 (fun H locs Y => ?_)
  refine lv_if_eq (tgt := 17) hx hb dX2_tellByHalves_5 (by decide) (fun c_1 => ?_) (fun c_1 => ?_)
  · have c_1 := bB_f c_1
    rw [if_neg c_1] at hu
    refine lv_aload_n hx hb dX2_tellByHalves_17 rfl (lv_at hl 0 rfl) ?_
    refine lv_iload_n hx hb dX2_tellByHalves_18 rfl (lv_at hl 1 rfl) ?_
    refine bVI0 (As := [.int c]) (rest := []) (wc := [(q, .inr (2, [.ref ql, .ref qr, .int pv])), (ql, .inr (0, [.int pl0, .int pl1, .int pl2, .int pl3, .int pl4, .int pl5, .int pl6, .int pl7, .int pl8, .int pl9, .int pl10, .int pl11, .int (bB plb)])), (qr, .inr (0, [.int pr0, .int pr1, .int pr2, .int pr3, .int pr4, .int pr5, .int pr6, .int pr7, .int pr8, .int pr9, .int pr10, .int pr11, .int (bB prb)]))]) (ci := 2) (q0 := 0) X Y (c_rightHeeds l D cyC cyI q pv ql pl0 pl1 pl2 pl3 pl4 pl5 pl6 pl7 pl8 pl9 pl10 pl11 plb qr pr0 pr1 pr2 pr3 pr4 pr5 pr6 pr7 pr8 pr9 pr10 pr11 prb c (s_rightHeeds pv c) rfl) gX2_tellByHalves_X2_rightHeeds rfl ⟨rfl, rfl⟩ hd_X2_rightHeeds ⟨(Nat.le_of_ble_eq_true rfl), (Nat.le_of_ble_eq_true rfl)⟩ rfl rfl rfl [0, 1, 2] rfl rfl rfl rfl hl.1 (Nat.le_of_ble_eq_true rfl) ⟨Nat.zero_le _, Nat.zero_le _⟩ dX2_tellByHalves_19 (fun H locs Y => ?_)
    refine lv_if_eq (tgt := 34) hx hb dX2_tellByHalves_22 (by decide) (fun c_2 => ?_) (fun c_2 => ?_)
    · have c_2 := bB_f c_2
      rw [if_neg c_2] at hu
      refine lv_aload_n hx hb dX2_tellByHalves_34 rfl (lv_at hl 0 rfl) ?_
      refine bVI0 (As := []) (rest := []) (wc := [(q, .inr (2, [.ref ql, .ref qr, .int pv])), (ql, .inr (0, [.int pl0, .int pl1, .int pl2, .int pl3, .int pl4, .int pl5, .int pl6, .int pl7, .int pl8, .int pl9, .int pl10, .int pl11, .int (bB plb)])), (qr, .inr (0, [.int pr0, .int pr1, .int pr2, .int pr3, .int pr4, .int pr5, .int pr6, .int pr7, .int pr8, .int pr9, .int pr10, .int pr11, .int (bB prb)]))]) (ci := 2) (q0 := 0) X Y (c_heeding l D cyC cyI q pv ql pl0 pl1 pl2 pl3 pl4 pl5 pl6 pl7 pl8 pl9 pl10 pl11 plb qr pr0 pr1 pr2 pr3 pr4 pr5 pr6 pr7 pr8 pr9 pr10 pr11 prb (s_heeding pv) rfl) gX2_tellByHalves_X2_heeding rfl ⟨rfl, rfl⟩ hd_X2_heeding ⟨(Nat.le_of_ble_eq_true rfl), (Nat.le_of_ble_eq_true rfl)⟩ rfl rfl rfl [0, 1, 2] rfl rfl rfl rfl hl.1 (Nat.le_of_ble_eq_true rfl) ⟨Nat.zero_le _, Nat.zero_le _⟩ dX2_tellByHalves_35 (fun H locs Y => ?_)
      have h9 := (Prod.mk.inj hu).1; replace hu := (Prod.mk.inj hu).2; subst h9
      have h9 := (Prod.mk.inj hu).1; replace hu := (Prod.mk.inj hu).2; subst h9
      have h9 := (Prod.mk.inj hu).1; replace hu := (Prod.mk.inj hu).2; subst h9
      have h9 := (Prod.mk.inj hu).1; replace hu := (Prod.mk.inj hu).2; subst h9
      have h9 := (Prod.mk.inj hu).1; replace hu := (Prod.mk.inj hu).2; subst h9
      have h9 := (Prod.mk.inj hu).1; replace hu := (Prod.mk.inj hu).2; subst h9
      have h9 := (Prod.mk.inj hu).1; replace hu := (Prod.mk.inj hu).2; subst h9
      have h9 := (Prod.mk.inj hu).1; replace hu := (Prod.mk.inj hu).2; subst h9
      subst hu
      exact bEndI X Y hr hlk dX2_tellByHalves_38 rfl rfl
    · have c_2 := bB_t c_2
      rw [if_pos c_2] at hu
      refine lv_aload_n hx hb dX2_tellByHalves_25 rfl (lv_at hl 0 rfl) ?_
      refine bGet (v := .ref qr) (T := TX2) (N := 3) (ci := 2) X Y i_X2_tellByHalves_X2 0 rfl rfl 1 (Nat.le_of_ble_eq_true rfl) f_X2_tellByHalves_18 rfl rfl dX2_tellByHalves_26 ?_
      refine lv_iload_n hx hb dX2_tellByHalves_29 rfl (lv_at hl 2 rfl) ?_
      refine lv_iload_n hx hb dX2_tellByHalves_30 rfl (lv_at hl 3 rfl) ?_
      obtain ⟨u_3_0, hr_3⟩ := bEx1 (s_planByHalves pr2 pa)
      rw [hr_3] at hu
      dsimp only at hu
      refine bVV (As := [.int w, .int pa]) (rest := []) (wc := [(qr, .inr (0, [.int pr0, .int pr1, .int pr2, .int pr3, .int pr4, .int pr5, .int pr6, .int pr7, .int pr8, .int pr9, .int pr10, .int pr11, .int (bB prb)]))]) (w1 := [(qr, .inr (0, [.int pr0, .int pr1, .int pr2, .int pr3, .int pr4, .int pr5, .int pr6, .int pr7, .int 1, .int ((w - pr6) / 2), .int u_3_0, .int ((w - pr6) - ((w - pr6) / 2)), .int (bB prb)]))]) (ws' := [(q, .inr (2, [.ref ql, .ref qr, .int pv])), (ql, .inr (0, [.int pl0, .int pl1, .int pl2, .int pl3, .int pl4, .int pl5, .int pl6, .int pl7, .int pl8, .int pl9, .int pl10, .int pl11, .int (bB plb)])), (qr, .inr (0, [.int pr0, .int pr1, .int pr2, .int pr3, .int pr4, .int pr5, .int pr6, .int pr7, .int 1, .int ((w - pr6) / 2), .int u_3_0, .int ((w - pr6) - ((w - pr6) / 2)), .int (bB prb)]))]) (ad := [qr]) (wr := [(q, .inr (2, [.ref ql, .ref qr, .int pv])), (ql, .inr (0, [.int pl0, .int pl1, .int pl2, .int pl3, .int pl4, .int pl5, .int pl6, .int pl7, .int pl8, .int pl9, .int pl10, .int pl11, .int (bB plb)]))]) (nn := 3) (ci := 0) (q0 := 2) X Y (c_planByHalves l D cyC cyI qr pr0 pr1 pr2 pr3 pr4 pr5 pr6 pr7 pr8 pr9 pr10 pr11 prb w pa u_3_0 hr_3) gX2_tellByHalves_X0_planByHalves rfl ⟨rfl, rfl⟩ hd_X0_planByHalves ⟨(Nat.le_of_ble_eq_true rfl), (Nat.le_of_ble_eq_true rfl)⟩ rfl rfl rfl [2] [0, 1] rfl rfl rfl rfl rfl rfl rfl rfl (by decide) rfl rfl hl.1 (Nat.le_of_ble_eq_true rfl) ⟨Nat.zero_le _, Nat.zero_le _⟩ dX2_tellByHalves_31 (fun H locs Y => ?_)
      refine lv_aload_n hx hb dX2_tellByHalves_34 rfl (lv_at hl 0 rfl) ?_
      refine bVI0 (As := []) (rest := []) (wc := [(q, .inr (2, [.ref ql, .ref qr, .int pv])), (ql, .inr (0, [.int pl0, .int pl1, .int pl2, .int pl3, .int pl4, .int pl5, .int pl6, .int pl7, .int pl8, .int pl9, .int pl10, .int pl11, .int (bB plb)])), (qr, .inr (0, [.int pr0, .int pr1, .int pr2, .int pr3, .int pr4, .int pr5, .int pr6, .int pr7, .int 1, .int ((w - pr6) / 2), .int u_3_0, .int ((w - pr6) - ((w - pr6) / 2)), .int (bB prb)]))]) (ci := 2) (q0 := 0) X Y (c_heeding l D cyC cyI q pv ql pl0 pl1 pl2 pl3 pl4 pl5 pl6 pl7 pl8 pl9 pl10 pl11 plb qr pr0 pr1 pr2 pr3 pr4 pr5 pr6 pr7 1 ((w - pr6) / 2) u_3_0 ((w - pr6) - ((w - pr6) / 2)) prb (s_heeding pv) rfl) gX2_tellByHalves_X2_heeding rfl ⟨rfl, rfl⟩ hd_X2_heeding ⟨(Nat.le_of_ble_eq_true rfl), (Nat.le_of_ble_eq_true rfl)⟩ rfl rfl rfl [0, 1, 2] rfl rfl rfl rfl hl.1 (Nat.le_of_ble_eq_true rfl) ⟨Nat.zero_le _, Nat.zero_le _⟩ dX2_tellByHalves_35 (fun H locs Y => ?_)
      have h9 := (Prod.mk.inj hu).1; replace hu := (Prod.mk.inj hu).2; subst h9
      have h9 := (Prod.mk.inj hu).1; replace hu := (Prod.mk.inj hu).2; subst h9
      have h9 := (Prod.mk.inj hu).1; replace hu := (Prod.mk.inj hu).2; subst h9
      have h9 := (Prod.mk.inj hu).1; replace hu := (Prod.mk.inj hu).2; subst h9
      have h9 := (Prod.mk.inj hu).1; replace hu := (Prod.mk.inj hu).2; subst h9
      have h9 := (Prod.mk.inj hu).1; replace hu := (Prod.mk.inj hu).2; subst h9
      have h9 := (Prod.mk.inj hu).1; replace hu := (Prod.mk.inj hu).2; subst h9
      have h9 := (Prod.mk.inj hu).1; replace hu := (Prod.mk.inj hu).2; subst h9
      subst hu
      exact bEndI X Y hr hlk dX2_tellByHalves_38 rfl rfl
  · have c_1 := bB_t c_1
    rw [if_pos c_1] at hu
    refine lv_aload_n hx hb dX2_tellByHalves_8 rfl (lv_at hl 0 rfl) ?_
    refine bGet (v := .ref ql) (T := TX2) (N := 3) (ci := 2) X Y i_X2_tellByHalves_X2 0 rfl rfl 0 (Nat.le_of_ble_eq_true rfl) f_X2_tellByHalves_12 rfl rfl dX2_tellByHalves_9 ?_
    refine lv_iload_n hx hb dX2_tellByHalves_12 rfl (lv_at hl 2 rfl) ?_
    refine lv_iload_n hx hb dX2_tellByHalves_13 rfl (lv_at hl 3 rfl) ?_
    obtain ⟨u_4_0, hr_4⟩ := bEx1 (s_planByHalves pl2 pa)
    rw [hr_4] at hu
    dsimp only at hu
    refine bVV (As := [.int w, .int pa]) (rest := []) (wc := [(ql, .inr (0, [.int pl0, .int pl1, .int pl2, .int pl3, .int pl4, .int pl5, .int pl6, .int pl7, .int pl8, .int pl9, .int pl10, .int pl11, .int (bB plb)]))]) (w1 := [(ql, .inr (0, [.int pl0, .int pl1, .int pl2, .int pl3, .int pl4, .int pl5, .int pl6, .int pl7, .int 1, .int ((w - pl6) / 2), .int u_4_0, .int ((w - pl6) - ((w - pl6) / 2)), .int (bB plb)]))]) (ws' := [(q, .inr (2, [.ref ql, .ref qr, .int pv])), (ql, .inr (0, [.int pl0, .int pl1, .int pl2, .int pl3, .int pl4, .int pl5, .int pl6, .int pl7, .int 1, .int ((w - pl6) / 2), .int u_4_0, .int ((w - pl6) - ((w - pl6) / 2)), .int (bB plb)])), (qr, .inr (0, [.int pr0, .int pr1, .int pr2, .int pr3, .int pr4, .int pr5, .int pr6, .int pr7, .int pr8, .int pr9, .int pr10, .int pr11, .int (bB prb)]))]) (ad := [ql]) (wr := [(q, .inr (2, [.ref ql, .ref qr, .int pv])), (qr, .inr (0, [.int pr0, .int pr1, .int pr2, .int pr3, .int pr4, .int pr5, .int pr6, .int pr7, .int pr8, .int pr9, .int pr10, .int pr11, .int (bB prb)]))]) (nn := 3) (ci := 0) (q0 := 1) X Y (c_planByHalves l D cyC cyI ql pl0 pl1 pl2 pl3 pl4 pl5 pl6 pl7 pl8 pl9 pl10 pl11 plb w pa u_4_0 hr_4) gX2_tellByHalves_X0_planByHalves rfl ⟨rfl, rfl⟩ hd_X0_planByHalves ⟨(Nat.le_of_ble_eq_true rfl), (Nat.le_of_ble_eq_true rfl)⟩ rfl rfl rfl [1] [0, 2] rfl rfl rfl rfl rfl rfl rfl rfl (by decide) rfl rfl hl.1 (Nat.le_of_ble_eq_true rfl) ⟨Nat.zero_le _, Nat.zero_le _⟩ dX2_tellByHalves_14 (fun H locs Y => ?_)
    refine lv_aload_n hx hb dX2_tellByHalves_17 rfl (lv_at hl 0 rfl) ?_
    refine lv_iload_n hx hb dX2_tellByHalves_18 rfl (lv_at hl 1 rfl) ?_
    refine bVI0 (As := [.int c]) (rest := []) (wc := [(q, .inr (2, [.ref ql, .ref qr, .int pv])), (ql, .inr (0, [.int pl0, .int pl1, .int pl2, .int pl3, .int pl4, .int pl5, .int pl6, .int pl7, .int 1, .int ((w - pl6) / 2), .int u_4_0, .int ((w - pl6) - ((w - pl6) / 2)), .int (bB plb)])), (qr, .inr (0, [.int pr0, .int pr1, .int pr2, .int pr3, .int pr4, .int pr5, .int pr6, .int pr7, .int pr8, .int pr9, .int pr10, .int pr11, .int (bB prb)]))]) (ci := 2) (q0 := 0) X Y (c_rightHeeds l D cyC cyI q pv ql pl0 pl1 pl2 pl3 pl4 pl5 pl6 pl7 1 ((w - pl6) / 2) u_4_0 ((w - pl6) - ((w - pl6) / 2)) plb qr pr0 pr1 pr2 pr3 pr4 pr5 pr6 pr7 pr8 pr9 pr10 pr11 prb c (s_rightHeeds pv c) rfl) gX2_tellByHalves_X2_rightHeeds rfl ⟨rfl, rfl⟩ hd_X2_rightHeeds ⟨(Nat.le_of_ble_eq_true rfl), (Nat.le_of_ble_eq_true rfl)⟩ rfl rfl rfl [0, 1, 2] rfl rfl rfl rfl hl.1 (Nat.le_of_ble_eq_true rfl) ⟨Nat.zero_le _, Nat.zero_le _⟩ dX2_tellByHalves_19 (fun H locs Y => ?_)
    refine lv_if_eq (tgt := 34) hx hb dX2_tellByHalves_22 (by decide) (fun c_5 => ?_) (fun c_5 => ?_)
    · have c_5 := bB_f c_5
      rw [if_neg c_5] at hu
      refine lv_aload_n hx hb dX2_tellByHalves_34 rfl (lv_at hl 0 rfl) ?_
      refine bVI0 (As := []) (rest := []) (wc := [(q, .inr (2, [.ref ql, .ref qr, .int pv])), (ql, .inr (0, [.int pl0, .int pl1, .int pl2, .int pl3, .int pl4, .int pl5, .int pl6, .int pl7, .int 1, .int ((w - pl6) / 2), .int u_4_0, .int ((w - pl6) - ((w - pl6) / 2)), .int (bB plb)])), (qr, .inr (0, [.int pr0, .int pr1, .int pr2, .int pr3, .int pr4, .int pr5, .int pr6, .int pr7, .int pr8, .int pr9, .int pr10, .int pr11, .int (bB prb)]))]) (ci := 2) (q0 := 0) X Y (c_heeding l D cyC cyI q pv ql pl0 pl1 pl2 pl3 pl4 pl5 pl6 pl7 1 ((w - pl6) / 2) u_4_0 ((w - pl6) - ((w - pl6) / 2)) plb qr pr0 pr1 pr2 pr3 pr4 pr5 pr6 pr7 pr8 pr9 pr10 pr11 prb (s_heeding pv) rfl) gX2_tellByHalves_X2_heeding rfl ⟨rfl, rfl⟩ hd_X2_heeding ⟨(Nat.le_of_ble_eq_true rfl), (Nat.le_of_ble_eq_true rfl)⟩ rfl rfl rfl [0, 1, 2] rfl rfl rfl rfl hl.1 (Nat.le_of_ble_eq_true rfl) ⟨Nat.zero_le _, Nat.zero_le _⟩ dX2_tellByHalves_35 (fun H locs Y => ?_)
      have h9 := (Prod.mk.inj hu).1; replace hu := (Prod.mk.inj hu).2; subst h9
      have h9 := (Prod.mk.inj hu).1; replace hu := (Prod.mk.inj hu).2; subst h9
      have h9 := (Prod.mk.inj hu).1; replace hu := (Prod.mk.inj hu).2; subst h9
      have h9 := (Prod.mk.inj hu).1; replace hu := (Prod.mk.inj hu).2; subst h9
      have h9 := (Prod.mk.inj hu).1; replace hu := (Prod.mk.inj hu).2; subst h9
      have h9 := (Prod.mk.inj hu).1; replace hu := (Prod.mk.inj hu).2; subst h9
      have h9 := (Prod.mk.inj hu).1; replace hu := (Prod.mk.inj hu).2; subst h9
      have h9 := (Prod.mk.inj hu).1; replace hu := (Prod.mk.inj hu).2; subst h9
      subst hu
      exact bEndI X Y hr hlk dX2_tellByHalves_38 rfl rfl
    · have c_5 := bB_t c_5
      rw [if_pos c_5] at hu
      refine lv_aload_n hx hb dX2_tellByHalves_25 rfl (lv_at hl 0 rfl) ?_
      refine bGet (v := .ref qr) (T := TX2) (N := 3) (ci := 2) X Y i_X2_tellByHalves_X2 0 rfl rfl 1 (Nat.le_of_ble_eq_true rfl) f_X2_tellByHalves_18 rfl rfl dX2_tellByHalves_26 ?_
      refine lv_iload_n hx hb dX2_tellByHalves_29 rfl (lv_at hl 2 rfl) ?_
      refine lv_iload_n hx hb dX2_tellByHalves_30 rfl (lv_at hl 3 rfl) ?_
      obtain ⟨u_6_0, hr_6⟩ := bEx1 (s_planByHalves pr2 pa)
      rw [hr_6] at hu
      dsimp only at hu
      refine bVV (As := [.int w, .int pa]) (rest := []) (wc := [(qr, .inr (0, [.int pr0, .int pr1, .int pr2, .int pr3, .int pr4, .int pr5, .int pr6, .int pr7, .int pr8, .int pr9, .int pr10, .int pr11, .int (bB prb)]))]) (w1 := [(qr, .inr (0, [.int pr0, .int pr1, .int pr2, .int pr3, .int pr4, .int pr5, .int pr6, .int pr7, .int 1, .int ((w - pr6) / 2), .int u_6_0, .int ((w - pr6) - ((w - pr6) / 2)), .int (bB prb)]))]) (ws' := [(q, .inr (2, [.ref ql, .ref qr, .int pv])), (ql, .inr (0, [.int pl0, .int pl1, .int pl2, .int pl3, .int pl4, .int pl5, .int pl6, .int pl7, .int 1, .int ((w - pl6) / 2), .int u_4_0, .int ((w - pl6) - ((w - pl6) / 2)), .int (bB plb)])), (qr, .inr (0, [.int pr0, .int pr1, .int pr2, .int pr3, .int pr4, .int pr5, .int pr6, .int pr7, .int 1, .int ((w - pr6) / 2), .int u_6_0, .int ((w - pr6) - ((w - pr6) / 2)), .int (bB prb)]))]) (ad := [qr]) (wr := [(q, .inr (2, [.ref ql, .ref qr, .int pv])), (ql, .inr (0, [.int pl0, .int pl1, .int pl2, .int pl3, .int pl4, .int pl5, .int pl6, .int pl7, .int 1, .int ((w - pl6) / 2), .int u_4_0, .int ((w - pl6) - ((w - pl6) / 2)), .int (bB plb)]))]) (nn := 3) (ci := 0) (q0 := 2) X Y (c_planByHalves l D cyC cyI qr pr0 pr1 pr2 pr3 pr4 pr5 pr6 pr7 pr8 pr9 pr10 pr11 prb w pa u_6_0 hr_6) gX2_tellByHalves_X0_planByHalves rfl ⟨rfl, rfl⟩ hd_X0_planByHalves ⟨(Nat.le_of_ble_eq_true rfl), (Nat.le_of_ble_eq_true rfl)⟩ rfl rfl rfl [2] [0, 1] rfl rfl rfl rfl rfl rfl rfl rfl (by decide) rfl rfl hl.1 (Nat.le_of_ble_eq_true rfl) ⟨Nat.zero_le _, Nat.zero_le _⟩ dX2_tellByHalves_31 (fun H locs Y => ?_)
      refine lv_aload_n hx hb dX2_tellByHalves_34 rfl (lv_at hl 0 rfl) ?_
      refine bVI0 (As := []) (rest := []) (wc := [(q, .inr (2, [.ref ql, .ref qr, .int pv])), (ql, .inr (0, [.int pl0, .int pl1, .int pl2, .int pl3, .int pl4, .int pl5, .int pl6, .int pl7, .int 1, .int ((w - pl6) / 2), .int u_4_0, .int ((w - pl6) - ((w - pl6) / 2)), .int (bB plb)])), (qr, .inr (0, [.int pr0, .int pr1, .int pr2, .int pr3, .int pr4, .int pr5, .int pr6, .int pr7, .int 1, .int ((w - pr6) / 2), .int u_6_0, .int ((w - pr6) - ((w - pr6) / 2)), .int (bB prb)]))]) (ci := 2) (q0 := 0) X Y (c_heeding l D cyC cyI q pv ql pl0 pl1 pl2 pl3 pl4 pl5 pl6 pl7 1 ((w - pl6) / 2) u_4_0 ((w - pl6) - ((w - pl6) / 2)) plb qr pr0 pr1 pr2 pr3 pr4 pr5 pr6 pr7 1 ((w - pr6) / 2) u_6_0 ((w - pr6) - ((w - pr6) / 2)) prb (s_heeding pv) rfl) gX2_tellByHalves_X2_heeding rfl ⟨rfl, rfl⟩ hd_X2_heeding ⟨(Nat.le_of_ble_eq_true rfl), (Nat.le_of_ble_eq_true rfl)⟩ rfl rfl rfl [0, 1, 2] rfl rfl rfl rfl hl.1 (Nat.le_of_ble_eq_true rfl) ⟨Nat.zero_le _, Nat.zero_le _⟩ dX2_tellByHalves_35 (fun H locs Y => ?_)
      have h9 := (Prod.mk.inj hu).1; replace hu := (Prod.mk.inj hu).2; subst h9
      have h9 := (Prod.mk.inj hu).1; replace hu := (Prod.mk.inj hu).2; subst h9
      have h9 := (Prod.mk.inj hu).1; replace hu := (Prod.mk.inj hu).2; subst h9
      have h9 := (Prod.mk.inj hu).1; replace hu := (Prod.mk.inj hu).2; subst h9
      have h9 := (Prod.mk.inj hu).1; replace hu := (Prod.mk.inj hu).2; subst h9
      have h9 := (Prod.mk.inj hu).1; replace hu := (Prod.mk.inj hu).2; subst h9
      have h9 := (Prod.mk.inj hu).1; replace hu := (Prod.mk.inj hu).2; subst h9
      have h9 := (Prod.mk.inj hu).1; replace hu := (Prod.mk.inj hu).2; subst h9
      subst hu
      exact bEndI X Y hr hlk dX2_tellByHalves_38 rfl rfl
theorem i_X2_aimsAt_X2 : ∀ w ∈ wsX20, w ∈ wsX2_aimsAt := by decide +kernel
theorem f_X2_aimsAt_18 : Cond.fieldLink RX2 18 "SwingCranes$Pair" "right" "LSwingCranes$Crane;" ∈ wsX2_aimsAt := by decide +kernel
theorem i_X2_aimsAt_X0 : ∀ w ∈ wsX00, w ∈ wsX2_aimsAt := by decide +kernel
theorem f_X2_aimsAt_69 : Cond.fieldLink RX2 69 "SwingCranes$Crane" "target" "I" ∈ wsX2_aimsAt := by decide +kernel
theorem f_X2_aimsAt_12 : Cond.fieldLink RX2 12 "SwingCranes$Pair" "left" "LSwingCranes$Crane;" ∈ wsX2_aimsAt := by decide +kernel
def s_aimsAt (pv : Int32) (pl7 : Int32) (pr7 : Int32) (c : Int32) (rp : Int32) : Bool :=
  if (s_leftHeeds pv c) = true then
    if pl7 = rp then
      if (s_rightHeeds pv c) = true then
        if pr7 = rp then
          true
        else
          false
      else
        true
    else
      false
  else
    if (s_rightHeeds pv c) = true then
      if pr7 = rp then
        true
      else
        false
    else
      true
set_option maxHeartbeats 4000000 in
set_option maxRecDepth 100000 in
theorem c_aimsAt (l : Launch) (D : va_G) (cyC cyI : ClassId) (q : Nat) (pv : Int32) (ql : Nat) (pl0 : Int32) (pl1 : Int32) (pl2 : Int32) (pl3 : Int32) (pl4 : Int32) (pl5 : Int32) (pl6 : Int32) (pl7 : Int32) (pl8 : Int32) (pl9 : Int32) (pl10 : Int32) (pl11 : Int32) (plb : Bool) (qr : Nat) (pr0 : Int32) (pr1 : Int32) (pr2 : Int32) (pr3 : Int32) (pr4 : Int32) (pr5 : Int32) (pr6 : Int32) (pr7 : Int32) (pr8 : Int32) (pr9 : Int32) (pr10 : Int32) (pr11 : Int32) (prb : Bool) (c : Int32) (rp : Int32) (o0 : Bool) (hu : s_aimsAt pv pl7 pr7 c rp = o0) : CI l yX2_aimsAt wsX2_aimsAt { frames := 2, cells := 0, slots := 0, locals := 41 } D cyC cyI [.ref q, .int c, .int rp] [(q, .inr (2, [.ref ql, .ref qr, .int pv])), (ql, .inr (0, [.int pl0, .int pl1, .int pl2, .int pl3, .int pl4, .int pl5, .int pl6, .int pl7, .int pl8, .int pl9, .int pl10, .int pl11, .int (bB plb)])), (qr, .inr (0, [.int pr0, .int pr1, .int pr2, .int pr3, .int pr4, .int pr5, .int pr6, .int pr7, .int pr8, .int pr9, .int pr10, .int pr11, .int (bB prb)]))] (bB o0) [(q, .inr (2, [.ref ql, .ref qr, .int pv])), (ql, .inr (0, [.int pl0, .int pl1, .int pl2, .int pl3, .int pl4, .int pl5, .int pl6, .int pl7, .int pl8, .int pl9, .int pl10, .int pl11, .int (bB plb)])), (qr, .inr (0, [.int pr0, .int pr1, .int pr2, .int pr3, .int pr4, .int pr5, .int pr6, .int pr7, .int pr8, .int pr9, .int pr10, .int pr11, .int (bB prb)]))] := by
  refine CI.of (cc := cX2_aimsAt) (n := 3) (ret := (some .boolean)) (by decide +kernel) rfl (Nat.le_of_ble_eq_true rfl) ?_
  intro p_ e_ s_ m_ bl_ me_ cd_ A_ ls X Y hr hlk hl
  have hx := X.1.1
  have hb := X.1.2.1
  have hl : lv_has ls 3 [(0, .ref q), (1, .int c), (2, .int rp)] := hl
  unfold s_aimsAt at hu
  refine lv_aload_n hx hb dX2_aimsAt_0 rfl (lv_at hl 0 rfl) ?_
  refine lv_iload_n hx hb dX2_aimsAt_1 rfl (lv_at hl 1 rfl) ?_
  refine bVI0 (As := [.int c]) (rest := []) (wc := [(q, .inr (2, [.ref ql, .ref qr, .int pv])), (ql, .inr (0, [.int pl0, .int pl1, .int pl2, .int pl3, .int pl4, .int pl5, .int pl6, .int pl7, .int pl8, .int pl9, .int pl10, .int pl11, .int (bB plb)])), (qr, .inr (0, [.int pr0, .int pr1, .int pr2, .int pr3, .int pr4, .int pr5, .int pr6, .int pr7, .int pr8, .int pr9, .int pr10, .int pr11, .int (bB prb)]))]) (ci := 2) (q0 := 0) X Y (c_leftHeeds l D cyC cyI q pv ql pl0 pl1 pl2 pl3 pl4 pl5 pl6 pl7 pl8 pl9 pl10 pl11 plb qr pr0 pr1 pr2 pr3 pr4 pr5 pr6 pr7 pr8 pr9 pr10 pr11 prb c (s_leftHeeds pv c) rfl) gX2_aimsAt_X2_leftHeeds rfl ⟨rfl, rfl⟩ hd_X2_leftHeeds ⟨(Nat.le_of_ble_eq_true rfl), (Nat.le_of_ble_eq_true rfl)⟩ rfl rfl rfl [0, 1, 2] rfl rfl rfl rfl hl.1 (Nat.le_of_ble_eq_true rfl) ⟨Nat.zero_le _, Nat.zero_le _⟩ dX2_aimsAt_2 (fun H locs Y => ?_)
  refine lv_if_eq (tgt := 19) hx hb dX2_aimsAt_5 (by decide) (fun c_1 => ?_) (fun c_1 => ?_)
  · have c_1 := bB_f c_1
    rw [if_neg c_1] at hu
    refine lv_aload_n hx hb dX2_aimsAt_19 rfl (lv_at hl 0 rfl) ?_
    refine lv_iload_n hx hb dX2_aimsAt_20 rfl (lv_at hl 1 rfl) ?_
    refine bVI0 (As := [.int c]) (rest := []) (wc := [(q, .inr (2, [.ref ql, .ref qr, .int pv])), (ql, .inr (0, [.int pl0, .int pl1, .int pl2, .int pl3, .int pl4, .int pl5, .int pl6, .int pl7, .int pl8, .int pl9, .int pl10, .int pl11, .int (bB plb)])), (qr, .inr (0, [.int pr0, .int pr1, .int pr2, .int pr3, .int pr4, .int pr5, .int pr6, .int pr7, .int pr8, .int pr9, .int pr10, .int pr11, .int (bB prb)]))]) (ci := 2) (q0 := 0) X Y (c_rightHeeds l D cyC cyI q pv ql pl0 pl1 pl2 pl3 pl4 pl5 pl6 pl7 pl8 pl9 pl10 pl11 plb qr pr0 pr1 pr2 pr3 pr4 pr5 pr6 pr7 pr8 pr9 pr10 pr11 prb c (s_rightHeeds pv c) rfl) gX2_aimsAt_X2_rightHeeds rfl ⟨rfl, rfl⟩ hd_X2_rightHeeds ⟨(Nat.le_of_ble_eq_true rfl), (Nat.le_of_ble_eq_true rfl)⟩ rfl rfl rfl [0, 1, 2] rfl rfl rfl rfl hl.1 (Nat.le_of_ble_eq_true rfl) ⟨Nat.zero_le _, Nat.zero_le _⟩ dX2_aimsAt_21 (fun H locs Y => ?_)
    refine lv_if_eq (tgt := 38) hx hb dX2_aimsAt_24 (by decide) (fun c_2 => ?_) (fun c_2 => ?_)
    · have c_2 := bB_f c_2
      rw [if_neg c_2] at hu
      refine lv_iconst (v := 1) hx hb dX2_aimsAt_38 (by decide) ?_
      refine lv_goto (tgt := 43) hx hb dX2_aimsAt_39 (by decide) ?_
      subst hu
      exact bEndZ X Y hr hlk dX2_aimsAt_43 rfl rfl rfl
    · have c_2 := bB_t c_2
      rw [if_pos c_2] at hu
      refine lv_aload_n hx hb dX2_aimsAt_27 rfl (lv_at hl 0 rfl) ?_
      refine bGet (v := .ref qr) (T := TX2) (N := 3) (ci := 2) X Y i_X2_aimsAt_X2 0 rfl rfl 1 (Nat.le_of_ble_eq_true rfl) f_X2_aimsAt_18 rfl rfl dX2_aimsAt_28 ?_
      refine bGet (v := .int pr7) (T := TX0) (N := 13) (ci := 0) X Y i_X2_aimsAt_X0 2 rfl rfl 7 (Nat.le_of_ble_eq_true rfl) f_X2_aimsAt_69 rfl rfl dX2_aimsAt_31 ?_
      refine lv_iload_n hx hb dX2_aimsAt_34 rfl (lv_at hl 2 rfl) ?_
      refine lv_icmp_ne (tgt := 42) hx hb dX2_aimsAt_35 (by decide) (fun c_3 => ?_) (fun c_3 => ?_)
      · have c_3 : ¬ (pr7 = rp) := c_3
        rw [if_neg c_3] at hu
        refine lv_iconst (v := 0) hx hb dX2_aimsAt_42 (by decide) ?_
        subst hu
        exact bEndZ X Y hr hlk dX2_aimsAt_43 rfl rfl rfl
      · have c_3 : pr7 = rp := c_3
        rw [if_pos c_3] at hu
        refine lv_iconst (v := 1) hx hb dX2_aimsAt_38 (by decide) ?_
        refine lv_goto (tgt := 43) hx hb dX2_aimsAt_39 (by decide) ?_
        subst hu
        exact bEndZ X Y hr hlk dX2_aimsAt_43 rfl rfl rfl
  · have c_1 := bB_t c_1
    rw [if_pos c_1] at hu
    refine lv_aload_n hx hb dX2_aimsAt_8 rfl (lv_at hl 0 rfl) ?_
    refine bGet (v := .ref ql) (T := TX2) (N := 3) (ci := 2) X Y i_X2_aimsAt_X2 0 rfl rfl 0 (Nat.le_of_ble_eq_true rfl) f_X2_aimsAt_12 rfl rfl dX2_aimsAt_9 ?_
    refine bGet (v := .int pl7) (T := TX0) (N := 13) (ci := 0) X Y i_X2_aimsAt_X0 1 rfl rfl 7 (Nat.le_of_ble_eq_true rfl) f_X2_aimsAt_69 rfl rfl dX2_aimsAt_12 ?_
    refine lv_iload_n hx hb dX2_aimsAt_15 rfl (lv_at hl 2 rfl) ?_
    refine lv_icmp_ne (tgt := 42) hx hb dX2_aimsAt_16 (by decide) (fun c_4 => ?_) (fun c_4 => ?_)
    · have c_4 : ¬ (pl7 = rp) := c_4
      rw [if_neg c_4] at hu
      refine lv_iconst (v := 0) hx hb dX2_aimsAt_42 (by decide) ?_
      subst hu
      exact bEndZ X Y hr hlk dX2_aimsAt_43 rfl rfl rfl
    · have c_4 : pl7 = rp := c_4
      rw [if_pos c_4] at hu
      refine lv_aload_n hx hb dX2_aimsAt_19 rfl (lv_at hl 0 rfl) ?_
      refine lv_iload_n hx hb dX2_aimsAt_20 rfl (lv_at hl 1 rfl) ?_
      refine bVI0 (As := [.int c]) (rest := []) (wc := [(q, .inr (2, [.ref ql, .ref qr, .int pv])), (ql, .inr (0, [.int pl0, .int pl1, .int pl2, .int pl3, .int pl4, .int pl5, .int pl6, .int pl7, .int pl8, .int pl9, .int pl10, .int pl11, .int (bB plb)])), (qr, .inr (0, [.int pr0, .int pr1, .int pr2, .int pr3, .int pr4, .int pr5, .int pr6, .int pr7, .int pr8, .int pr9, .int pr10, .int pr11, .int (bB prb)]))]) (ci := 2) (q0 := 0) X Y (c_rightHeeds l D cyC cyI q pv ql pl0 pl1 pl2 pl3 pl4 pl5 pl6 pl7 pl8 pl9 pl10 pl11 plb qr pr0 pr1 pr2 pr3 pr4 pr5 pr6 pr7 pr8 pr9 pr10 pr11 prb c (s_rightHeeds pv c) rfl) gX2_aimsAt_X2_rightHeeds rfl ⟨rfl, rfl⟩ hd_X2_rightHeeds ⟨(Nat.le_of_ble_eq_true rfl), (Nat.le_of_ble_eq_true rfl)⟩ rfl rfl rfl [0, 1, 2] rfl rfl rfl rfl hl.1 (Nat.le_of_ble_eq_true rfl) ⟨Nat.zero_le _, Nat.zero_le _⟩ dX2_aimsAt_21 (fun H locs Y => ?_)
      refine lv_if_eq (tgt := 38) hx hb dX2_aimsAt_24 (by decide) (fun c_5 => ?_) (fun c_5 => ?_)
      · have c_5 := bB_f c_5
        rw [if_neg c_5] at hu
        refine lv_iconst (v := 1) hx hb dX2_aimsAt_38 (by decide) ?_
        refine lv_goto (tgt := 43) hx hb dX2_aimsAt_39 (by decide) ?_
        subst hu
        exact bEndZ X Y hr hlk dX2_aimsAt_43 rfl rfl rfl
      · have c_5 := bB_t c_5
        rw [if_pos c_5] at hu
        refine lv_aload_n hx hb dX2_aimsAt_27 rfl (lv_at hl 0 rfl) ?_
        refine bGet (v := .ref qr) (T := TX2) (N := 3) (ci := 2) X Y i_X2_aimsAt_X2 0 rfl rfl 1 (Nat.le_of_ble_eq_true rfl) f_X2_aimsAt_18 rfl rfl dX2_aimsAt_28 ?_
        refine bGet (v := .int pr7) (T := TX0) (N := 13) (ci := 0) X Y i_X2_aimsAt_X0 2 rfl rfl 7 (Nat.le_of_ble_eq_true rfl) f_X2_aimsAt_69 rfl rfl dX2_aimsAt_31 ?_
        refine lv_iload_n hx hb dX2_aimsAt_34 rfl (lv_at hl 2 rfl) ?_
        refine lv_icmp_ne (tgt := 42) hx hb dX2_aimsAt_35 (by decide) (fun c_6 => ?_) (fun c_6 => ?_)
        · have c_6 : ¬ (pr7 = rp) := c_6
          rw [if_neg c_6] at hu
          refine lv_iconst (v := 0) hx hb dX2_aimsAt_42 (by decide) ?_
          subst hu
          exact bEndZ X Y hr hlk dX2_aimsAt_43 rfl rfl rfl
        · have c_6 : pr7 = rp := c_6
          rw [if_pos c_6] at hu
          refine lv_iconst (v := 1) hx hb dX2_aimsAt_38 (by decide) ?_
          refine lv_goto (tgt := 43) hx hb dX2_aimsAt_39 (by decide) ?_
          subst hu
          exact bEndZ X Y hr hlk dX2_aimsAt_43 rfl rfl rfl
theorem i_X2_aim_X2 : ∀ w ∈ wsX20, w ∈ wsX2_aim := by decide +kernel
theorem f_X2_aim_18 : Cond.fieldLink RX2 18 "SwingCranes$Pair" "right" "LSwingCranes$Crane;" ∈ wsX2_aim := by decide +kernel
theorem i_X2_aim_X0 : ∀ w ∈ wsX00, w ∈ wsX2_aim := by decide +kernel
theorem f_X2_aim_69 : Cond.fieldLink RX2 69 "SwingCranes$Crane" "target" "I" ∈ wsX2_aim := by decide +kernel
theorem f_X2_aim_12 : Cond.fieldLink RX2 12 "SwingCranes$Pair" "left" "LSwingCranes$Crane;" ∈ wsX2_aim := by decide +kernel
def s_aim (pv : Int32) (pl7 : Int32) (pr7 : Int32) (c : Int32) (rp : Int32) : Int32 × Int32 :=
  if (s_leftHeeds pv c) = true then
    if (s_rightHeeds pv c) = true then
      (rp, rp)
    else
      (rp, pr7)
  else
    if (s_rightHeeds pv c) = true then
      (pl7, rp)
    else
      (pl7, pr7)
set_option maxHeartbeats 4000000 in
set_option maxRecDepth 100000 in
theorem c_aim (l : Launch) (D : va_G) (cyC cyI : ClassId) (q : Nat) (pv : Int32) (ql : Nat) (pl0 : Int32) (pl1 : Int32) (pl2 : Int32) (pl3 : Int32) (pl4 : Int32) (pl5 : Int32) (pl6 : Int32) (pl7 : Int32) (pl8 : Int32) (pl9 : Int32) (pl10 : Int32) (pl11 : Int32) (plb : Bool) (qr : Nat) (pr0 : Int32) (pr1 : Int32) (pr2 : Int32) (pr3 : Int32) (pr4 : Int32) (pr5 : Int32) (pr6 : Int32) (pr7 : Int32) (pr8 : Int32) (pr9 : Int32) (pr10 : Int32) (pr11 : Int32) (prb : Bool) (c : Int32) (rp : Int32) (o0 : Int32) (o1 : Int32) (hu : s_aim pv pl7 pr7 c rp = (o0, o1)) : CV l yX2_aim wsX2_aim { frames := 2, cells := 0, slots := 0, locals := 41 } D cyC cyI [.ref q, .int c, .int rp] [(q, .inr (2, [.ref ql, .ref qr, .int pv])), (ql, .inr (0, [.int pl0, .int pl1, .int pl2, .int pl3, .int pl4, .int pl5, .int pl6, .int pl7, .int pl8, .int pl9, .int pl10, .int pl11, .int (bB plb)])), (qr, .inr (0, [.int pr0, .int pr1, .int pr2, .int pr3, .int pr4, .int pr5, .int pr6, .int pr7, .int pr8, .int pr9, .int pr10, .int pr11, .int (bB prb)]))] [(q, .inr (2, [.ref ql, .ref qr, .int pv])), (ql, .inr (0, [.int pl0, .int pl1, .int pl2, .int pl3, .int pl4, .int pl5, .int pl6, .int o0, .int pl8, .int pl9, .int pl10, .int pl11, .int (bB plb)])), (qr, .inr (0, [.int pr0, .int pr1, .int pr2, .int pr3, .int pr4, .int pr5, .int pr6, .int o1, .int pr8, .int pr9, .int pr10, .int pr11, .int (bB prb)]))] := by
  refine CV.of (cc := cX2_aim) (n := 3) (ret := none) (by decide +kernel) rfl (Nat.le_of_ble_eq_true rfl) ?_
  intro p_ e_ s_ m_ bl_ me_ cd_ A_ ls X Y hr hlk hl
  have hx := X.1.1
  have hb := X.1.2.1
  have hl : lv_has ls 3 [(0, .ref q), (1, .int c), (2, .int rp)] := hl
  unfold s_aim at hu
  refine lv_aload_n hx hb dX2_aim_0 rfl (lv_at hl 0 rfl) ?_
  refine lv_iload_n hx hb dX2_aim_1 rfl (lv_at hl 1 rfl) ?_
  refine bVI0 (As := [.int c]) (rest := []) (wc := [(q, .inr (2, [.ref ql, .ref qr, .int pv])), (ql, .inr (0, [.int pl0, .int pl1, .int pl2, .int pl3, .int pl4, .int pl5, .int pl6, .int pl7, .int pl8, .int pl9, .int pl10, .int pl11, .int (bB plb)])), (qr, .inr (0, [.int pr0, .int pr1, .int pr2, .int pr3, .int pr4, .int pr5, .int pr6, .int pr7, .int pr8, .int pr9, .int pr10, .int pr11, .int (bB prb)]))]) (ci := 2) (q0 := 0) X Y (c_leftHeeds l D cyC cyI q pv ql pl0 pl1 pl2 pl3 pl4 pl5 pl6 pl7 pl8 pl9 pl10 pl11 plb qr pr0 pr1 pr2 pr3 pr4 pr5 pr6 pr7 pr8 pr9 pr10 pr11 prb c (s_leftHeeds pv c) rfl) gX2_aim_X2_leftHeeds rfl ⟨rfl, rfl⟩ hd_X2_leftHeeds ⟨(Nat.le_of_ble_eq_true rfl), (Nat.le_of_ble_eq_true rfl)⟩ rfl rfl rfl [0, 1, 2] rfl rfl rfl rfl hl.1 (Nat.le_of_ble_eq_true rfl) ⟨Nat.zero_le _, Nat.zero_le _⟩ dX2_aim_2 (fun H locs Y => ?_)
  refine lv_if_eq (tgt := 16) hx hb dX2_aim_5 (by decide) (fun c_1 => ?_) (fun c_1 => ?_)
  · have c_1 := bB_f c_1
    rw [if_neg c_1] at hu
    refine lv_aload_n hx hb dX2_aim_16 rfl (lv_at hl 0 rfl) ?_
    refine lv_iload_n hx hb dX2_aim_17 rfl (lv_at hl 1 rfl) ?_
    refine bVI0 (As := [.int c]) (rest := []) (wc := [(q, .inr (2, [.ref ql, .ref qr, .int pv])), (ql, .inr (0, [.int pl0, .int pl1, .int pl2, .int pl3, .int pl4, .int pl5, .int pl6, .int pl7, .int pl8, .int pl9, .int pl10, .int pl11, .int (bB plb)])), (qr, .inr (0, [.int pr0, .int pr1, .int pr2, .int pr3, .int pr4, .int pr5, .int pr6, .int pr7, .int pr8, .int pr9, .int pr10, .int pr11, .int (bB prb)]))]) (ci := 2) (q0 := 0) X Y (c_rightHeeds l D cyC cyI q pv ql pl0 pl1 pl2 pl3 pl4 pl5 pl6 pl7 pl8 pl9 pl10 pl11 plb qr pr0 pr1 pr2 pr3 pr4 pr5 pr6 pr7 pr8 pr9 pr10 pr11 prb c (s_rightHeeds pv c) rfl) gX2_aim_X2_rightHeeds rfl ⟨rfl, rfl⟩ hd_X2_rightHeeds ⟨(Nat.le_of_ble_eq_true rfl), (Nat.le_of_ble_eq_true rfl)⟩ rfl rfl rfl [0, 1, 2] rfl rfl rfl rfl hl.1 (Nat.le_of_ble_eq_true rfl) ⟨Nat.zero_le _, Nat.zero_le _⟩ dX2_aim_18 (fun H locs Y => ?_)
    refine lv_if_eq (tgt := 32) hx hb dX2_aim_21 (by decide) (fun c_2 => ?_) (fun c_2 => ?_)
    · have c_2 := bB_f c_2
      rw [if_neg c_2] at hu
      have h9 := (Prod.mk.inj hu).1; replace hu := (Prod.mk.inj hu).2; subst h9
      subst hu
      exact bEndV X Y hr hlk dX2_aim_32 rfl
    · have c_2 := bB_t c_2
      rw [if_pos c_2] at hu
      refine lv_aload_n hx hb dX2_aim_24 rfl (lv_at hl 0 rfl) ?_
      refine bGet (v := .ref qr) (T := TX2) (N := 3) (ci := 2) X Y i_X2_aim_X2 0 rfl rfl 1 (Nat.le_of_ble_eq_true rfl) f_X2_aim_18 rfl rfl dX2_aim_25 ?_
      refine lv_iload_n hx hb dX2_aim_28 rfl (lv_at hl 2 rfl) ?_
      refine bPut (T := TX0) (N := 13) (ci := 0) (ws' := [(q, .inr (2, [.ref ql, .ref qr, .int pv])), (ql, .inr (0, [.int pl0, .int pl1, .int pl2, .int pl3, .int pl4, .int pl5, .int pl6, .int pl7, .int pl8, .int pl9, .int pl10, .int pl11, .int (bB plb)])), (qr, .inr (0, [.int pr0, .int pr1, .int pr2, .int pr3, .int pr4, .int pr5, .int pr6, .int rp, .int pr8, .int pr9, .int pr10, .int pr11, .int (bB prb)]))]) X Y i_X2_aim_X0 tyX0 tyX0_ok nmX0 2 rfl rfl 7 (Nat.le_of_ble_eq_true rfl) f_X2_aim_69 rfl rfl rfl rfl (Nat.le_of_ble_eq_true rfl) rfl dX2_aim_29 (fun H locs Y => ?_)
      have h9 := (Prod.mk.inj hu).1; replace hu := (Prod.mk.inj hu).2; subst h9
      subst hu
      exact bEndV X Y hr hlk dX2_aim_32 rfl
  · have c_1 := bB_t c_1
    rw [if_pos c_1] at hu
    refine lv_aload_n hx hb dX2_aim_8 rfl (lv_at hl 0 rfl) ?_
    refine bGet (v := .ref ql) (T := TX2) (N := 3) (ci := 2) X Y i_X2_aim_X2 0 rfl rfl 0 (Nat.le_of_ble_eq_true rfl) f_X2_aim_12 rfl rfl dX2_aim_9 ?_
    refine lv_iload_n hx hb dX2_aim_12 rfl (lv_at hl 2 rfl) ?_
    refine bPut (T := TX0) (N := 13) (ci := 0) (ws' := [(q, .inr (2, [.ref ql, .ref qr, .int pv])), (ql, .inr (0, [.int pl0, .int pl1, .int pl2, .int pl3, .int pl4, .int pl5, .int pl6, .int rp, .int pl8, .int pl9, .int pl10, .int pl11, .int (bB plb)])), (qr, .inr (0, [.int pr0, .int pr1, .int pr2, .int pr3, .int pr4, .int pr5, .int pr6, .int pr7, .int pr8, .int pr9, .int pr10, .int pr11, .int (bB prb)]))]) X Y i_X2_aim_X0 tyX0 tyX0_ok nmX0 1 rfl rfl 7 (Nat.le_of_ble_eq_true rfl) f_X2_aim_69 rfl rfl rfl rfl (Nat.le_of_ble_eq_true rfl) rfl dX2_aim_13 (fun H locs Y => ?_)
    refine lv_aload_n hx hb dX2_aim_16 rfl (lv_at hl 0 rfl) ?_
    refine lv_iload_n hx hb dX2_aim_17 rfl (lv_at hl 1 rfl) ?_
    refine bVI0 (As := [.int c]) (rest := []) (wc := [(q, .inr (2, [.ref ql, .ref qr, .int pv])), (ql, .inr (0, [.int pl0, .int pl1, .int pl2, .int pl3, .int pl4, .int pl5, .int pl6, .int rp, .int pl8, .int pl9, .int pl10, .int pl11, .int (bB plb)])), (qr, .inr (0, [.int pr0, .int pr1, .int pr2, .int pr3, .int pr4, .int pr5, .int pr6, .int pr7, .int pr8, .int pr9, .int pr10, .int pr11, .int (bB prb)]))]) (ci := 2) (q0 := 0) X Y (c_rightHeeds l D cyC cyI q pv ql pl0 pl1 pl2 pl3 pl4 pl5 pl6 rp pl8 pl9 pl10 pl11 plb qr pr0 pr1 pr2 pr3 pr4 pr5 pr6 pr7 pr8 pr9 pr10 pr11 prb c (s_rightHeeds pv c) rfl) gX2_aim_X2_rightHeeds rfl ⟨rfl, rfl⟩ hd_X2_rightHeeds ⟨(Nat.le_of_ble_eq_true rfl), (Nat.le_of_ble_eq_true rfl)⟩ rfl rfl rfl [0, 1, 2] rfl rfl rfl rfl hl.1 (Nat.le_of_ble_eq_true rfl) ⟨Nat.zero_le _, Nat.zero_le _⟩ dX2_aim_18 (fun H locs Y => ?_)
    refine lv_if_eq (tgt := 32) hx hb dX2_aim_21 (by decide) (fun c_3 => ?_) (fun c_3 => ?_)
    · have c_3 := bB_f c_3
      rw [if_neg c_3] at hu
      have h9 := (Prod.mk.inj hu).1; replace hu := (Prod.mk.inj hu).2; subst h9
      subst hu
      exact bEndV X Y hr hlk dX2_aim_32 rfl
    · have c_3 := bB_t c_3
      rw [if_pos c_3] at hu
      refine lv_aload_n hx hb dX2_aim_24 rfl (lv_at hl 0 rfl) ?_
      refine bGet (v := .ref qr) (T := TX2) (N := 3) (ci := 2) X Y i_X2_aim_X2 0 rfl rfl 1 (Nat.le_of_ble_eq_true rfl) f_X2_aim_18 rfl rfl dX2_aim_25 ?_
      refine lv_iload_n hx hb dX2_aim_28 rfl (lv_at hl 2 rfl) ?_
      refine bPut (T := TX0) (N := 13) (ci := 0) (ws' := [(q, .inr (2, [.ref ql, .ref qr, .int pv])), (ql, .inr (0, [.int pl0, .int pl1, .int pl2, .int pl3, .int pl4, .int pl5, .int pl6, .int rp, .int pl8, .int pl9, .int pl10, .int pl11, .int (bB plb)])), (qr, .inr (0, [.int pr0, .int pr1, .int pr2, .int pr3, .int pr4, .int pr5, .int pr6, .int rp, .int pr8, .int pr9, .int pr10, .int pr11, .int (bB prb)]))]) X Y i_X2_aim_X0 tyX0 tyX0_ok nmX0 2 rfl rfl 7 (Nat.le_of_ble_eq_true rfl) f_X2_aim_69 rfl rfl rfl rfl (Nat.le_of_ble_eq_true rfl) rfl dX2_aim_29 (fun H locs Y => ?_)
      have h9 := (Prod.mk.inj hu).1; replace hu := (Prod.mk.inj hu).2; subst h9
      subst hu
      exact bEndV X Y hr hlk dX2_aim_32 rfl
theorem hd_X2_freeBetween : bD1 yX2_freeBetween RX2 1 := by decide +kernel
theorem i_X2_goOn_X2 : ∀ w ∈ wsX20, w ∈ wsX2_goOn := by decide +kernel
theorem f_X2_goOn_12 : Cond.fieldLink RX2 12 "SwingCranes$Pair" "left" "LSwingCranes$Crane;" ∈ wsX2_goOn := by decide +kernel
theorem i_X2_goOn_X0 : ∀ w ∈ wsX00, w ∈ wsX2_goOn := by decide +kernel
theorem f_X2_goOn_40 : Cond.fieldLink RX2 40 "SwingCranes$Crane" "place" "I" ∈ wsX2_goOn := by decide +kernel
theorem hd_X0_roll : bD1 yX0_roll RX0 3 := by decide +kernel
theorem f_X2_goOn_18 : Cond.fieldLink RX2 18 "SwingCranes$Pair" "right" "LSwingCranes$Crane;" ∈ wsX2_goOn := by decide +kernel
theorem i_X2_goOn_X1 : ∀ w ∈ wsX10, w ∈ wsX2_goOn := by decide +kernel
theorem f_X2_goOn_80 : Cond.fieldLink RX2 80 "SwingCranes$Layout" "end" "I" ∈ wsX2_goOn := by decide +kernel
theorem f_X2_goOn_83 : Cond.fieldLink RX2 83 "SwingCranes$Layout" "hoist" "I" ∈ wsX2_goOn := by decide +kernel
theorem f_X2_goOn_86 : Cond.fieldLink RX2 86 "SwingCranes$Crane" "rope" "I" ∈ wsX2_goOn := by decide +kernel
theorem f_X2_goOn_21 : Cond.fieldLink RX2 21 "SwingCranes$Pair" "level" "I" ∈ wsX2_goOn := by decide +kernel
theorem hd_X0_hoistRope : bD1 yX0_hoistRope RX0 3 := by decide +kernel
theorem f_X2_goOn_93 : Cond.fieldLink RX2 93 "SwingCranes$Crane" "braked" "Z" ∈ wsX2_goOn := by decide +kernel
def s_pairGoOn (pv : Int32) (pl0 : Int32) (pl1 : Int32) (pl2 : Int32) (pl3 : Int32) (pl4 : Int32) (pl5 : Int32) (pl6 : Int32) (pl7 : Int32) (pl8 : Int32) (pl9 : Int32) (pl10 : Int32) (pl11 : Int32) (pr0 : Int32) (pr1 : Int32) (pr2 : Int32) (pr3 : Int32) (pr4 : Int32) (pr5 : Int32) (pr6 : Int32) (pr7 : Int32) (pr8 : Int32) (pr9 : Int32) (pr10 : Int32) (pr11 : Int32) (r0 : Int32) (r1 : Int32) (r2 : Int32) (r3 : Int32) (r4 : Int32) : Int32 × Int32 × Int32 × Int32 × Int32 × Int32 × Int32 × Int32 × Int32 × Bool × Int32 × Int32 × Int32 × Int32 × Int32 × Int32 × Int32 × Int32 × Bool :=
  match s_roll pl0 pl1 pl2 pl3 pl4 pl5 pl6 pl8 pl9 pl10 pl11 r2 r3 pl0 ((s_freeBetween pl0 pr0 r1) / 2) with
  | (u_1_0, u_1_1, u_1_2, u_1_3, u_1_4, u_1_5, u_1_6, u_1_7) =>
    match s_roll pr0 pr1 pr2 pr3 pr4 pr5 pr6 pr8 pr9 pr10 pr11 r2 r3 ((s_freeBetween pl0 pr0 r1) / 2) (r0 - pr0) with
    | (u_2_0, u_2_1, u_2_2, u_2_3, u_2_4, u_2_5, u_2_6, u_2_7) =>
      match s_hoistRope u_1_1 pl2 pl7 r4 pr2 pv with
      | (u_3_0, _) =>
        match s_hoistRope u_2_1 pr2 pr7 r4 u_3_0 pv with
        | (u_4_0, _) =>
          if u_1_7 = true then
            if u_2_7 = true then
              (2, u_1_0, u_1_1, u_3_0, u_1_2, u_1_3, u_1_4, u_1_5, u_1_6, u_1_7, u_2_0, u_2_1, u_4_0, u_2_2, u_2_3, u_2_4, u_2_5, u_2_6, u_2_7)
            else
              (1, u_1_0, u_1_1, u_3_0, u_1_2, u_1_3, u_1_4, u_1_5, u_1_6, u_1_7, u_2_0, u_2_1, u_4_0, u_2_2, u_2_3, u_2_4, u_2_5, u_2_6, u_2_7)
          else
            if u_2_7 = true then
              (1, u_1_0, u_1_1, u_3_0, u_1_2, u_1_3, u_1_4, u_1_5, u_1_6, u_1_7, u_2_0, u_2_1, u_4_0, u_2_2, u_2_3, u_2_4, u_2_5, u_2_6, u_2_7)
            else
              (0, u_1_0, u_1_1, u_3_0, u_1_2, u_1_3, u_1_4, u_1_5, u_1_6, u_1_7, u_2_0, u_2_1, u_4_0, u_2_2, u_2_3, u_2_4, u_2_5, u_2_6, u_2_7)
set_option maxHeartbeats 4000000 in
set_option maxRecDepth 100000 in
theorem c_pairGoOn (l : Launch) (D : va_G) (cyC cyI : ClassId) (q : Nat) (pv : Int32) (ql : Nat) (pl0 : Int32) (pl1 : Int32) (pl2 : Int32) (pl3 : Int32) (pl4 : Int32) (pl5 : Int32) (pl6 : Int32) (pl7 : Int32) (pl8 : Int32) (pl9 : Int32) (pl10 : Int32) (pl11 : Int32) (plb : Bool) (qr : Nat) (pr0 : Int32) (pr1 : Int32) (pr2 : Int32) (pr3 : Int32) (pr4 : Int32) (pr5 : Int32) (pr6 : Int32) (pr7 : Int32) (pr8 : Int32) (pr9 : Int32) (pr10 : Int32) (pr11 : Int32) (prb : Bool) (g : Nat) (gl : Nat) (gr : Nat) (r0 : Int32) (r1 : Int32) (r2 : Int32) (r3 : Int32) (r4 : Int32) (o0 : Int32) (o1 : Int32) (o2 : Int32) (o3 : Int32) (o4 : Int32) (o5 : Int32) (o6 : Int32) (o7 : Int32) (o8 : Int32) (o9 : Bool) (o10 : Int32) (o11 : Int32) (o12 : Int32) (o13 : Int32) (o14 : Int32) (o15 : Int32) (o16 : Int32) (o17 : Int32) (o18 : Bool) (hu : s_pairGoOn pv pl0 pl1 pl2 pl3 pl4 pl5 pl6 pl7 pl8 pl9 pl10 pl11 pr0 pr1 pr2 pr3 pr4 pr5 pr6 pr7 pr8 pr9 pr10 pr11 r0 r1 r2 r3 r4 = (o0, o1, o2, o3, o4, o5, o6, o7, o8, o9, o10, o11, o12, o13, o14, o15, o16, o17, o18)) : CI l yX2_goOn wsX2_goOn { frames := 4, cells := 0, slots := 0, locals := 86 } D cyC cyI [.ref q, .ref g] [(q, .inr (2, [.ref ql, .ref qr, .int pv])), (ql, .inr (0, [.int pl0, .int pl1, .int pl2, .int pl3, .int pl4, .int pl5, .int pl6, .int pl7, .int pl8, .int pl9, .int pl10, .int pl11, .int (bB plb)])), (qr, .inr (0, [.int pr0, .int pr1, .int pr2, .int pr3, .int pr4, .int pr5, .int pr6, .int pr7, .int pr8, .int pr9, .int pr10, .int pr11, .int (bB prb)])), (g, .inr (1, [.int r0, .int r1, .int r2, .int r3, .int r4, .ref gl, .ref gr]))] o0 [(q, .inr (2, [.ref ql, .ref qr, .int pv])), (ql, .inr (0, [.int o1, .int o2, .int o3, .int pl3, .int o4, .int o5, .int o6, .int pl7, .int (pl8 - 1), .int o7, .int (pl10 - 1), .int o8, .int (bB o9)])), (qr, .inr (0, [.int o10, .int o11, .int o12, .int pr3, .int o13, .int o14, .int o15, .int pr7, .int (pr8 - 1), .int o16, .int (pr10 - 1), .int o17, .int (bB o18)])), (g, .inr (1, [.int r0, .int r1, .int r2, .int r3, .int r4, .ref gl, .ref gr]))] := by
  refine CI.of (cc := cX2_goOn) (n := 3) (ret := (some .int)) (by decide +kernel) rfl (Nat.le_of_ble_eq_true rfl) ?_
  intro p_ e_ s_ m_ bl_ me_ cd_ A_ ls X Y hr hlk hl
  have hx := X.1.1
  have hb := X.1.2.1
  have hl : lv_has ls 3 [(0, .ref q), (1, .ref g)] := hl
  unfold s_pairGoOn at hu
  refine lv_aload_n hx hb dX2_goOn_0 rfl (lv_at hl 0 rfl) ?_
  refine lv_aload_n hx hb dX2_goOn_1 rfl (lv_at hl 1 rfl) ?_
  refine bVI0 (As := [.ref g]) (rest := []) (wc := [(q, .inr (2, [.ref ql, .ref qr, .int pv])), (ql, .inr (0, [.int pl0, .int pl1, .int pl2, .int pl3, .int pl4, .int pl5, .int pl6, .int pl7, .int pl8, .int pl9, .int pl10, .int pl11, .int (bB plb)])), (qr, .inr (0, [.int pr0, .int pr1, .int pr2, .int pr3, .int pr4, .int pr5, .int pr6, .int pr7, .int pr8, .int pr9, .int pr10, .int pr11, .int (bB prb)])), (g, .inr (1, [.int r0, .int r1, .int r2, .int r3, .int r4, .ref gl, .ref gr]))]) (ci := 2) (q0 := 0) X Y (c_freeBetween l D cyC cyI q pv ql pl0 pl1 pl2 pl3 pl4 pl5 pl6 pl7 pl8 pl9 pl10 pl11 plb qr pr0 pr1 pr2 pr3 pr4 pr5 pr6 pr7 pr8 pr9 pr10 pr11 prb g gl gr r0 r1 r2 r3 r4 (s_freeBetween pl0 pr0 r1) rfl) gX2_goOn_X2_freeBetween rfl ⟨rfl, rfl⟩ hd_X2_freeBetween ⟨(Nat.le_of_ble_eq_true rfl), (Nat.le_of_ble_eq_true rfl)⟩ rfl rfl rfl [0, 1, 2, 3] rfl rfl rfl rfl hl.1 (Nat.le_of_ble_eq_true rfl) ⟨Nat.zero_le _, Nat.zero_le _⟩ dX2_goOn_2 (fun H locs Y => ?_)
  refine lv_iconst (v := 2) hx hb dX2_goOn_5 (by decide) ?_
  refine bDiv (v := (s_freeBetween pl0 pr0 r1) / 2) X dX2_goOn_6 (by decide) rfl ?_
  refine lv_istore_n (lv' := [(2, .int ((s_freeBetween pl0 pr0 r1) / 2)), (0, .ref q), (1, .ref g)]) hx hb dX2_goOn_7 rfl hl (by decide) rfl (fun ls hl => ?_)
  refine lv_aload_n hx hb dX2_goOn_8 rfl (lv_at hl 1 rfl) ?_
  refine bGet (v := .ref ql) (T := TX2) (N := 3) (ci := 2) X Y i_X2_goOn_X2 0 rfl rfl 0 (Nat.le_of_ble_eq_true rfl) f_X2_goOn_12 rfl rfl dX2_goOn_9 ?_
  refine lv_aload_n hx hb dX2_goOn_12 rfl (lv_at hl 2 rfl) ?_
  refine lv_aload_n hx hb dX2_goOn_13 rfl (lv_at hl 1 rfl) ?_
  refine bGet (v := .ref ql) (T := TX2) (N := 3) (ci := 2) X Y i_X2_goOn_X2 0 rfl rfl 0 (Nat.le_of_ble_eq_true rfl) f_X2_goOn_12 rfl rfl dX2_goOn_14 ?_
  refine bGet (v := .int pl0) (T := TX0) (N := 13) (ci := 0) X Y i_X2_goOn_X0 1 rfl rfl 0 (Nat.le_of_ble_eq_true rfl) f_X2_goOn_40 rfl rfl dX2_goOn_17 ?_
  refine lv_iload_n hx hb dX2_goOn_20 rfl (lv_at hl 0 rfl) ?_
  obtain ⟨u_1_0, u_1_1, u_1_2, u_1_3, u_1_4, u_1_5, u_1_6, u_1_7, hr_1⟩ := bEx8 (s_roll pl0 pl1 pl2 pl3 pl4 pl5 pl6 pl8 pl9 pl10 pl11 r2 r3 pl0 ((s_freeBetween pl0 pr0 r1) / 2))
  rw [hr_1] at hu
  dsimp only at hu
  refine bVV (As := [.ref g, .int pl0, .int ((s_freeBetween pl0 pr0 r1) / 2)]) (rest := []) (wc := [(ql, .inr (0, [.int pl0, .int pl1, .int pl2, .int pl3, .int pl4, .int pl5, .int pl6, .int pl7, .int pl8, .int pl9, .int pl10, .int pl11, .int (bB plb)])), (g, .inr (1, [.int r0, .int r1, .int r2, .int r3, .int r4, .ref gl, .ref gr]))]) (w1 := [(ql, .inr (0, [.int u_1_0, .int u_1_1, .int pl2, .int pl3, .int u_1_2, .int u_1_3, .int u_1_4, .int pl7, .int (pl8 - 1), .int u_1_5, .int (pl10 - 1), .int u_1_6, .int (bB u_1_7)])), (g, .inr (1, [.int r0, .int r1, .int r2, .int r3, .int r4, .ref gl, .ref gr]))]) (ws' := [(q, .inr (2, [.ref ql, .ref qr, .int pv])), (ql, .inr (0, [.int u_1_0, .int u_1_1, .int pl2, .int pl3, .int u_1_2, .int u_1_3, .int u_1_4, .int pl7, .int (pl8 - 1), .int u_1_5, .int (pl10 - 1), .int u_1_6, .int (bB u_1_7)])), (qr, .inr (0, [.int pr0, .int pr1, .int pr2, .int pr3, .int pr4, .int pr5, .int pr6, .int pr7, .int pr8, .int pr9, .int pr10, .int pr11, .int (bB prb)])), (g, .inr (1, [.int r0, .int r1, .int r2, .int r3, .int r4, .ref gl, .ref gr]))]) (ad := [ql, g]) (wr := [(q, .inr (2, [.ref ql, .ref qr, .int pv])), (qr, .inr (0, [.int pr0, .int pr1, .int pr2, .int pr3, .int pr4, .int pr5, .int pr6, .int pr7, .int pr8, .int pr9, .int pr10, .int pr11, .int (bB prb)]))]) (nn := 4) (ci := 0) (q0 := 1) X Y (c_roll l D cyC cyI ql pl0 pl1 pl2 pl3 pl4 pl5 pl6 pl7 pl8 pl9 pl10 pl11 plb g gl gr r0 r1 r2 r3 r4 pl0 ((s_freeBetween pl0 pr0 r1) / 2) u_1_0 u_1_1 u_1_2 u_1_3 u_1_4 u_1_5 u_1_6 u_1_7 hr_1) gX2_goOn_X0_roll rfl ⟨rfl, rfl⟩ hd_X0_roll ⟨(Nat.le_of_ble_eq_true rfl), (Nat.le_of_ble_eq_true rfl)⟩ rfl rfl rfl [1, 3] [0, 2] rfl rfl rfl rfl rfl rfl rfl rfl (by decide) rfl rfl hl.1 (Nat.le_of_ble_eq_true rfl) ⟨Nat.zero_le _, Nat.zero_le _⟩ dX2_goOn_21 (fun H locs Y => ?_)
  refine lv_aload_n hx hb dX2_goOn_24 rfl (lv_at hl 1 rfl) ?_
  refine bGet (v := .ref qr) (T := TX2) (N := 3) (ci := 2) X Y i_X2_goOn_X2 0 rfl rfl 1 (Nat.le_of_ble_eq_true rfl) f_X2_goOn_18 rfl rfl dX2_goOn_25 ?_
  refine lv_aload_n hx hb dX2_goOn_28 rfl (lv_at hl 2 rfl) ?_
  refine lv_iload_n hx hb dX2_goOn_29 rfl (lv_at hl 0 rfl) ?_
  refine lv_aload_n hx hb dX2_goOn_30 rfl (lv_at hl 2 rfl) ?_
  refine bGet (v := .int r0) (T := TX1) (N := 7) (ci := 1) X Y i_X2_goOn_X1 3 rfl rfl 0 (Nat.le_of_ble_eq_true rfl) f_X2_goOn_80 rfl rfl dX2_goOn_31 ?_
  refine lv_aload_n hx hb dX2_goOn_34 rfl (lv_at hl 1 rfl) ?_
  refine bGet (v := .ref qr) (T := TX2) (N := 3) (ci := 2) X Y i_X2_goOn_X2 0 rfl rfl 1 (Nat.le_of_ble_eq_true rfl) f_X2_goOn_18 rfl rfl dX2_goOn_35 ?_
  refine bGet (v := .int pr0) (T := TX0) (N := 13) (ci := 0) X Y i_X2_goOn_X0 2 rfl rfl 0 (Nat.le_of_ble_eq_true rfl) f_X2_goOn_40 rfl rfl dX2_goOn_38 ?_
  refine bSub (v := r0 - pr0) X dX2_goOn_41 rfl ?_
  obtain ⟨u_2_0, u_2_1, u_2_2, u_2_3, u_2_4, u_2_5, u_2_6, u_2_7, hr_2⟩ := bEx8 (s_roll pr0 pr1 pr2 pr3 pr4 pr5 pr6 pr8 pr9 pr10 pr11 r2 r3 ((s_freeBetween pl0 pr0 r1) / 2) (r0 - pr0))
  rw [hr_2] at hu
  dsimp only at hu
  refine bVV (As := [.ref g, .int ((s_freeBetween pl0 pr0 r1) / 2), .int (r0 - pr0)]) (rest := []) (wc := [(qr, .inr (0, [.int pr0, .int pr1, .int pr2, .int pr3, .int pr4, .int pr5, .int pr6, .int pr7, .int pr8, .int pr9, .int pr10, .int pr11, .int (bB prb)])), (g, .inr (1, [.int r0, .int r1, .int r2, .int r3, .int r4, .ref gl, .ref gr]))]) (w1 := [(qr, .inr (0, [.int u_2_0, .int u_2_1, .int pr2, .int pr3, .int u_2_2, .int u_2_3, .int u_2_4, .int pr7, .int (pr8 - 1), .int u_2_5, .int (pr10 - 1), .int u_2_6, .int (bB u_2_7)])), (g, .inr (1, [.int r0, .int r1, .int r2, .int r3, .int r4, .ref gl, .ref gr]))]) (ws' := [(q, .inr (2, [.ref ql, .ref qr, .int pv])), (ql, .inr (0, [.int u_1_0, .int u_1_1, .int pl2, .int pl3, .int u_1_2, .int u_1_3, .int u_1_4, .int pl7, .int (pl8 - 1), .int u_1_5, .int (pl10 - 1), .int u_1_6, .int (bB u_1_7)])), (qr, .inr (0, [.int u_2_0, .int u_2_1, .int pr2, .int pr3, .int u_2_2, .int u_2_3, .int u_2_4, .int pr7, .int (pr8 - 1), .int u_2_5, .int (pr10 - 1), .int u_2_6, .int (bB u_2_7)])), (g, .inr (1, [.int r0, .int r1, .int r2, .int r3, .int r4, .ref gl, .ref gr]))]) (ad := [qr, g]) (wr := [(q, .inr (2, [.ref ql, .ref qr, .int pv])), (ql, .inr (0, [.int u_1_0, .int u_1_1, .int pl2, .int pl3, .int u_1_2, .int u_1_3, .int u_1_4, .int pl7, .int (pl8 - 1), .int u_1_5, .int (pl10 - 1), .int u_1_6, .int (bB u_1_7)]))]) (nn := 4) (ci := 0) (q0 := 2) X Y (c_roll l D cyC cyI qr pr0 pr1 pr2 pr3 pr4 pr5 pr6 pr7 pr8 pr9 pr10 pr11 prb g gl gr r0 r1 r2 r3 r4 ((s_freeBetween pl0 pr0 r1) / 2) (r0 - pr0) u_2_0 u_2_1 u_2_2 u_2_3 u_2_4 u_2_5 u_2_6 u_2_7 hr_2) gX2_goOn_X0_roll rfl ⟨rfl, rfl⟩ hd_X0_roll ⟨(Nat.le_of_ble_eq_true rfl), (Nat.le_of_ble_eq_true rfl)⟩ rfl rfl rfl [2, 3] [0, 1] rfl rfl rfl rfl rfl rfl rfl rfl (by decide) rfl rfl hl.1 (Nat.le_of_ble_eq_true rfl) ⟨Nat.zero_le _, Nat.zero_le _⟩ dX2_goOn_42 (fun H locs Y => ?_)
  refine lv_aload_n hx hb dX2_goOn_45 rfl (lv_at hl 1 rfl) ?_
  refine bGet (v := .ref ql) (T := TX2) (N := 3) (ci := 2) X Y i_X2_goOn_X2 0 rfl rfl 0 (Nat.le_of_ble_eq_true rfl) f_X2_goOn_12 rfl rfl dX2_goOn_46 ?_
  refine lv_aload_n hx hb dX2_goOn_49 rfl (lv_at hl 2 rfl) ?_
  refine bGet (v := .int r4) (T := TX1) (N := 7) (ci := 1) X Y i_X2_goOn_X1 3 rfl rfl 4 (Nat.le_of_ble_eq_true rfl) f_X2_goOn_83 rfl rfl dX2_goOn_50 ?_
  refine lv_aload_n hx hb dX2_goOn_53 rfl (lv_at hl 1 rfl) ?_
  refine bGet (v := .ref qr) (T := TX2) (N := 3) (ci := 2) X Y i_X2_goOn_X2 0 rfl rfl 1 (Nat.le_of_ble_eq_true rfl) f_X2_goOn_18 rfl rfl dX2_goOn_54 ?_
  refine bGet (v := .int pr2) (T := TX0) (N := 13) (ci := 0) X Y i_X2_goOn_X0 2 rfl rfl 2 (Nat.le_of_ble_eq_true rfl) f_X2_goOn_86 rfl rfl dX2_goOn_57 ?_
  refine lv_aload_n hx hb dX2_goOn_60 rfl (lv_at hl 1 rfl) ?_
  refine bGet (v := .int pv) (T := TX2) (N := 3) (ci := 2) X Y i_X2_goOn_X2 0 rfl rfl 2 (Nat.le_of_ble_eq_true rfl) f_X2_goOn_21 rfl rfl dX2_goOn_61 ?_
  obtain ⟨u_3_0, hr_3⟩ := bEx1 (s_hoistRope u_1_1 pl2 pl7 r4 pr2 pv)
  rw [hr_3] at hu
  dsimp only at hu
  refine bVV (As := [.int r4, .int pr2, .int pv]) (rest := []) (wc := [(ql, .inr (0, [.int u_1_0, .int u_1_1, .int pl2, .int pl3, .int u_1_2, .int u_1_3, .int u_1_4, .int pl7, .int (pl8 - 1), .int u_1_5, .int (pl10 - 1), .int u_1_6, .int (bB u_1_7)]))]) (w1 := [(ql, .inr (0, [.int u_1_0, .int u_1_1, .int u_3_0, .int pl3, .int u_1_2, .int u_1_3, .int u_1_4, .int pl7, .int (pl8 - 1), .int u_1_5, .int (pl10 - 1), .int u_1_6, .int (bB u_1_7)]))]) (ws' := [(q, .inr (2, [.ref ql, .ref qr, .int pv])), (ql, .inr (0, [.int u_1_0, .int u_1_1, .int u_3_0, .int pl3, .int u_1_2, .int u_1_3, .int u_1_4, .int pl7, .int (pl8 - 1), .int u_1_5, .int (pl10 - 1), .int u_1_6, .int (bB u_1_7)])), (qr, .inr (0, [.int u_2_0, .int u_2_1, .int pr2, .int pr3, .int u_2_2, .int u_2_3, .int u_2_4, .int pr7, .int (pr8 - 1), .int u_2_5, .int (pr10 - 1), .int u_2_6, .int (bB u_2_7)])), (g, .inr (1, [.int r0, .int r1, .int r2, .int r3, .int r4, .ref gl, .ref gr]))]) (ad := [ql]) (wr := [(q, .inr (2, [.ref ql, .ref qr, .int pv])), (qr, .inr (0, [.int u_2_0, .int u_2_1, .int pr2, .int pr3, .int u_2_2, .int u_2_3, .int u_2_4, .int pr7, .int (pr8 - 1), .int u_2_5, .int (pr10 - 1), .int u_2_6, .int (bB u_2_7)])), (g, .inr (1, [.int r0, .int r1, .int r2, .int r3, .int r4, .ref gl, .ref gr]))]) (nn := 4) (ci := 0) (q0 := 1) X Y (c_hoistRope l D cyC cyI ql u_1_0 u_1_1 pl2 pl3 u_1_2 u_1_3 u_1_4 pl7 (pl8 - 1) u_1_5 (pl10 - 1) u_1_6 u_1_7 r4 pr2 pv u_3_0 hr_3) gX2_goOn_X0_hoistRope rfl ⟨rfl, rfl⟩ hd_X0_hoistRope ⟨(Nat.le_of_ble_eq_true rfl), (Nat.le_of_ble_eq_true rfl)⟩ rfl rfl rfl [1] [0, 2, 3] rfl rfl rfl rfl rfl rfl rfl rfl (by decide) rfl rfl hl.1 (Nat.le_of_ble_eq_true rfl) ⟨Nat.zero_le _, Nat.zero_le _⟩ dX2_goOn_64 (fun H locs Y => ?_)
  refine lv_aload_n hx hb dX2_goOn_67 rfl (lv_at hl 1 rfl) ?_
  refine bGet (v := .ref qr) (T := TX2) (N := 3) (ci := 2) X Y i_X2_goOn_X2 0 rfl rfl 1 (Nat.le_of_ble_eq_true rfl) f_X2_goOn_18 rfl rfl dX2_goOn_68 ?_
  refine lv_aload_n hx hb dX2_goOn_71 rfl (lv_at hl 2 rfl) ?_
  refine bGet (v := .int r4) (T := TX1) (N := 7) (ci := 1) X Y i_X2_goOn_X1 3 rfl rfl 4 (Nat.le_of_ble_eq_true rfl) f_X2_goOn_83 rfl rfl dX2_goOn_72 ?_
  refine lv_aload_n hx hb dX2_goOn_75 rfl (lv_at hl 1 rfl) ?_
  refine bGet (v := .ref ql) (T := TX2) (N := 3) (ci := 2) X Y i_X2_goOn_X2 0 rfl rfl 0 (Nat.le_of_ble_eq_true rfl) f_X2_goOn_12 rfl rfl dX2_goOn_76 ?_
  refine bGet (v := .int u_3_0) (T := TX0) (N := 13) (ci := 0) X Y i_X2_goOn_X0 1 rfl rfl 2 (Nat.le_of_ble_eq_true rfl) f_X2_goOn_86 rfl rfl dX2_goOn_79 ?_
  refine lv_aload_n hx hb dX2_goOn_82 rfl (lv_at hl 1 rfl) ?_
  refine bGet (v := .int pv) (T := TX2) (N := 3) (ci := 2) X Y i_X2_goOn_X2 0 rfl rfl 2 (Nat.le_of_ble_eq_true rfl) f_X2_goOn_21 rfl rfl dX2_goOn_83 ?_
  obtain ⟨u_4_0, hr_4⟩ := bEx1 (s_hoistRope u_2_1 pr2 pr7 r4 u_3_0 pv)
  rw [hr_4] at hu
  dsimp only at hu
  refine bVV (As := [.int r4, .int u_3_0, .int pv]) (rest := []) (wc := [(qr, .inr (0, [.int u_2_0, .int u_2_1, .int pr2, .int pr3, .int u_2_2, .int u_2_3, .int u_2_4, .int pr7, .int (pr8 - 1), .int u_2_5, .int (pr10 - 1), .int u_2_6, .int (bB u_2_7)]))]) (w1 := [(qr, .inr (0, [.int u_2_0, .int u_2_1, .int u_4_0, .int pr3, .int u_2_2, .int u_2_3, .int u_2_4, .int pr7, .int (pr8 - 1), .int u_2_5, .int (pr10 - 1), .int u_2_6, .int (bB u_2_7)]))]) (ws' := [(q, .inr (2, [.ref ql, .ref qr, .int pv])), (ql, .inr (0, [.int u_1_0, .int u_1_1, .int u_3_0, .int pl3, .int u_1_2, .int u_1_3, .int u_1_4, .int pl7, .int (pl8 - 1), .int u_1_5, .int (pl10 - 1), .int u_1_6, .int (bB u_1_7)])), (qr, .inr (0, [.int u_2_0, .int u_2_1, .int u_4_0, .int pr3, .int u_2_2, .int u_2_3, .int u_2_4, .int pr7, .int (pr8 - 1), .int u_2_5, .int (pr10 - 1), .int u_2_6, .int (bB u_2_7)])), (g, .inr (1, [.int r0, .int r1, .int r2, .int r3, .int r4, .ref gl, .ref gr]))]) (ad := [qr]) (wr := [(q, .inr (2, [.ref ql, .ref qr, .int pv])), (ql, .inr (0, [.int u_1_0, .int u_1_1, .int u_3_0, .int pl3, .int u_1_2, .int u_1_3, .int u_1_4, .int pl7, .int (pl8 - 1), .int u_1_5, .int (pl10 - 1), .int u_1_6, .int (bB u_1_7)])), (g, .inr (1, [.int r0, .int r1, .int r2, .int r3, .int r4, .ref gl, .ref gr]))]) (nn := 4) (ci := 0) (q0 := 2) X Y (c_hoistRope l D cyC cyI qr u_2_0 u_2_1 pr2 pr3 u_2_2 u_2_3 u_2_4 pr7 (pr8 - 1) u_2_5 (pr10 - 1) u_2_6 u_2_7 r4 u_3_0 pv u_4_0 hr_4) gX2_goOn_X0_hoistRope rfl ⟨rfl, rfl⟩ hd_X0_hoistRope ⟨(Nat.le_of_ble_eq_true rfl), (Nat.le_of_ble_eq_true rfl)⟩ rfl rfl rfl [2] [0, 1, 3] rfl rfl rfl rfl rfl rfl rfl rfl (by decide) rfl rfl hl.1 (Nat.le_of_ble_eq_true rfl) ⟨Nat.zero_le _, Nat.zero_le _⟩ dX2_goOn_86 (fun H locs Y => ?_)
  refine lv_aload_n hx hb dX2_goOn_89 rfl (lv_at hl 1 rfl) ?_
  refine bGet (v := .ref ql) (T := TX2) (N := 3) (ci := 2) X Y i_X2_goOn_X2 0 rfl rfl 0 (Nat.le_of_ble_eq_true rfl) f_X2_goOn_12 rfl rfl dX2_goOn_90 ?_
  refine bGet (v := .int (bB u_1_7)) (T := TX0) (N := 13) (ci := 0) X Y i_X2_goOn_X0 1 rfl rfl 12 (Nat.le_of_ble_eq_true rfl) f_X2_goOn_93 rfl rfl dX2_goOn_93 ?_
  refine lv_if_eq (tgt := 103) hx hb dX2_goOn_96 (by decide) (fun c_5 => ?_) (fun c_5 => ?_)
  · have c_5 := bB_f c_5
    rw [if_neg c_5] at hu
    refine lv_iconst (v := 0) hx hb dX2_goOn_103 (by decide) ?_
    refine lv_aload_n hx hb dX2_goOn_104 rfl (lv_at hl 1 rfl) ?_
    refine bGet (v := .ref qr) (T := TX2) (N := 3) (ci := 2) X Y i_X2_goOn_X2 0 rfl rfl 1 (Nat.le_of_ble_eq_true rfl) f_X2_goOn_18 rfl rfl dX2_goOn_105 ?_
    refine bGet (v := .int (bB u_2_7)) (T := TX0) (N := 13) (ci := 0) X Y i_X2_goOn_X0 2 rfl rfl 12 (Nat.le_of_ble_eq_true rfl) f_X2_goOn_93 rfl rfl dX2_goOn_108 ?_
    refine lv_if_eq (tgt := 118) hx hb dX2_goOn_111 (by decide) (fun c_6 => ?_) (fun c_6 => ?_)
    · have c_6 := bB_f c_6
      rw [if_neg c_6] at hu
      refine lv_iconst (v := 0) hx hb dX2_goOn_118 (by decide) ?_
      refine bAdd (v := 0) X dX2_goOn_119 (by decide) ?_
      have h9 := (Prod.mk.inj hu).1; replace hu := (Prod.mk.inj hu).2; subst h9
      have h9 := (Prod.mk.inj hu).1; replace hu := (Prod.mk.inj hu).2; subst h9
      have h9 := (Prod.mk.inj hu).1; replace hu := (Prod.mk.inj hu).2; subst h9
      have h9 := (Prod.mk.inj hu).1; replace hu := (Prod.mk.inj hu).2; subst h9
      have h9 := (Prod.mk.inj hu).1; replace hu := (Prod.mk.inj hu).2; subst h9
      have h9 := (Prod.mk.inj hu).1; replace hu := (Prod.mk.inj hu).2; subst h9
      have h9 := (Prod.mk.inj hu).1; replace hu := (Prod.mk.inj hu).2; subst h9
      have h9 := (Prod.mk.inj hu).1; replace hu := (Prod.mk.inj hu).2; subst h9
      have h9 := (Prod.mk.inj hu).1; replace hu := (Prod.mk.inj hu).2; subst h9
      have h9 := (Prod.mk.inj hu).1; replace hu := (Prod.mk.inj hu).2; subst h9
      have h9 := (Prod.mk.inj hu).1; replace hu := (Prod.mk.inj hu).2; subst h9
      have h9 := (Prod.mk.inj hu).1; replace hu := (Prod.mk.inj hu).2; subst h9
      have h9 := (Prod.mk.inj hu).1; replace hu := (Prod.mk.inj hu).2; subst h9
      have h9 := (Prod.mk.inj hu).1; replace hu := (Prod.mk.inj hu).2; subst h9
      have h9 := (Prod.mk.inj hu).1; replace hu := (Prod.mk.inj hu).2; subst h9
      have h9 := (Prod.mk.inj hu).1; replace hu := (Prod.mk.inj hu).2; subst h9
      have h9 := (Prod.mk.inj hu).1; replace hu := (Prod.mk.inj hu).2; subst h9
      have h9 := (Prod.mk.inj hu).1; replace hu := (Prod.mk.inj hu).2; subst h9
      subst hu
      exact bEndI X Y hr hlk dX2_goOn_120 rfl rfl
    · have c_6 := bB_t c_6
      rw [if_pos c_6] at hu
      refine lv_iconst (v := 1) hx hb dX2_goOn_114 (by decide) ?_
      refine lv_goto (tgt := 119) hx hb dX2_goOn_115 (by decide) ?_
      refine bAdd (v := 1) X dX2_goOn_119 (by decide) ?_
      have h9 := (Prod.mk.inj hu).1; replace hu := (Prod.mk.inj hu).2; subst h9
      have h9 := (Prod.mk.inj hu).1; replace hu := (Prod.mk.inj hu).2; subst h9
      have h9 := (Prod.mk.inj hu).1; replace hu := (Prod.mk.inj hu).2; subst h9
      have h9 := (Prod.mk.inj hu).1; replace hu := (Prod.mk.inj hu).2; subst h9
      have h9 := (Prod.mk.inj hu).1; replace hu := (Prod.mk.inj hu).2; subst h9
      have h9 := (Prod.mk.inj hu).1; replace hu := (Prod.mk.inj hu).2; subst h9
      have h9 := (Prod.mk.inj hu).1; replace hu := (Prod.mk.inj hu).2; subst h9
      have h9 := (Prod.mk.inj hu).1; replace hu := (Prod.mk.inj hu).2; subst h9
      have h9 := (Prod.mk.inj hu).1; replace hu := (Prod.mk.inj hu).2; subst h9
      have h9 := (Prod.mk.inj hu).1; replace hu := (Prod.mk.inj hu).2; subst h9
      have h9 := (Prod.mk.inj hu).1; replace hu := (Prod.mk.inj hu).2; subst h9
      have h9 := (Prod.mk.inj hu).1; replace hu := (Prod.mk.inj hu).2; subst h9
      have h9 := (Prod.mk.inj hu).1; replace hu := (Prod.mk.inj hu).2; subst h9
      have h9 := (Prod.mk.inj hu).1; replace hu := (Prod.mk.inj hu).2; subst h9
      have h9 := (Prod.mk.inj hu).1; replace hu := (Prod.mk.inj hu).2; subst h9
      have h9 := (Prod.mk.inj hu).1; replace hu := (Prod.mk.inj hu).2; subst h9
      have h9 := (Prod.mk.inj hu).1; replace hu := (Prod.mk.inj hu).2; subst h9
      have h9 := (Prod.mk.inj hu).1; replace hu := (Prod.mk.inj hu).2; subst h9
      subst hu
      exact bEndI X Y hr hlk dX2_goOn_120 rfl rfl
  · have c_5 := bB_t c_5
    rw [if_pos c_5] at hu
    refine lv_iconst (v := 1) hx hb dX2_goOn_99 (by decide) ?_
    refine lv_goto (tgt := 104) hx hb dX2_goOn_100 (by decide) ?_
    refine lv_aload_n hx hb dX2_goOn_104 rfl (lv_at hl 1 rfl) ?_
    refine bGet (v := .ref qr) (T := TX2) (N := 3) (ci := 2) X Y i_X2_goOn_X2 0 rfl rfl 1 (Nat.le_of_ble_eq_true rfl) f_X2_goOn_18 rfl rfl dX2_goOn_105 ?_
    refine bGet (v := .int (bB u_2_7)) (T := TX0) (N := 13) (ci := 0) X Y i_X2_goOn_X0 2 rfl rfl 12 (Nat.le_of_ble_eq_true rfl) f_X2_goOn_93 rfl rfl dX2_goOn_108 ?_
    refine lv_if_eq (tgt := 118) hx hb dX2_goOn_111 (by decide) (fun c_7 => ?_) (fun c_7 => ?_)
    · have c_7 := bB_f c_7
      rw [if_neg c_7] at hu
      refine lv_iconst (v := 0) hx hb dX2_goOn_118 (by decide) ?_
      refine bAdd (v := 1) X dX2_goOn_119 (by decide) ?_
      have h9 := (Prod.mk.inj hu).1; replace hu := (Prod.mk.inj hu).2; subst h9
      have h9 := (Prod.mk.inj hu).1; replace hu := (Prod.mk.inj hu).2; subst h9
      have h9 := (Prod.mk.inj hu).1; replace hu := (Prod.mk.inj hu).2; subst h9
      have h9 := (Prod.mk.inj hu).1; replace hu := (Prod.mk.inj hu).2; subst h9
      have h9 := (Prod.mk.inj hu).1; replace hu := (Prod.mk.inj hu).2; subst h9
      have h9 := (Prod.mk.inj hu).1; replace hu := (Prod.mk.inj hu).2; subst h9
      have h9 := (Prod.mk.inj hu).1; replace hu := (Prod.mk.inj hu).2; subst h9
      have h9 := (Prod.mk.inj hu).1; replace hu := (Prod.mk.inj hu).2; subst h9
      have h9 := (Prod.mk.inj hu).1; replace hu := (Prod.mk.inj hu).2; subst h9
      have h9 := (Prod.mk.inj hu).1; replace hu := (Prod.mk.inj hu).2; subst h9
      have h9 := (Prod.mk.inj hu).1; replace hu := (Prod.mk.inj hu).2; subst h9
      have h9 := (Prod.mk.inj hu).1; replace hu := (Prod.mk.inj hu).2; subst h9
      have h9 := (Prod.mk.inj hu).1; replace hu := (Prod.mk.inj hu).2; subst h9
      have h9 := (Prod.mk.inj hu).1; replace hu := (Prod.mk.inj hu).2; subst h9
      have h9 := (Prod.mk.inj hu).1; replace hu := (Prod.mk.inj hu).2; subst h9
      have h9 := (Prod.mk.inj hu).1; replace hu := (Prod.mk.inj hu).2; subst h9
      have h9 := (Prod.mk.inj hu).1; replace hu := (Prod.mk.inj hu).2; subst h9
      have h9 := (Prod.mk.inj hu).1; replace hu := (Prod.mk.inj hu).2; subst h9
      subst hu
      exact bEndI X Y hr hlk dX2_goOn_120 rfl rfl
    · have c_7 := bB_t c_7
      rw [if_pos c_7] at hu
      refine lv_iconst (v := 1) hx hb dX2_goOn_114 (by decide) ?_
      refine lv_goto (tgt := 119) hx hb dX2_goOn_115 (by decide) ?_
      refine bAdd (v := 2) X dX2_goOn_119 (by decide) ?_
      have h9 := (Prod.mk.inj hu).1; replace hu := (Prod.mk.inj hu).2; subst h9
      have h9 := (Prod.mk.inj hu).1; replace hu := (Prod.mk.inj hu).2; subst h9
      have h9 := (Prod.mk.inj hu).1; replace hu := (Prod.mk.inj hu).2; subst h9
      have h9 := (Prod.mk.inj hu).1; replace hu := (Prod.mk.inj hu).2; subst h9
      have h9 := (Prod.mk.inj hu).1; replace hu := (Prod.mk.inj hu).2; subst h9
      have h9 := (Prod.mk.inj hu).1; replace hu := (Prod.mk.inj hu).2; subst h9
      have h9 := (Prod.mk.inj hu).1; replace hu := (Prod.mk.inj hu).2; subst h9
      have h9 := (Prod.mk.inj hu).1; replace hu := (Prod.mk.inj hu).2; subst h9
      have h9 := (Prod.mk.inj hu).1; replace hu := (Prod.mk.inj hu).2; subst h9
      have h9 := (Prod.mk.inj hu).1; replace hu := (Prod.mk.inj hu).2; subst h9
      have h9 := (Prod.mk.inj hu).1; replace hu := (Prod.mk.inj hu).2; subst h9
      have h9 := (Prod.mk.inj hu).1; replace hu := (Prod.mk.inj hu).2; subst h9
      have h9 := (Prod.mk.inj hu).1; replace hu := (Prod.mk.inj hu).2; subst h9
      have h9 := (Prod.mk.inj hu).1; replace hu := (Prod.mk.inj hu).2; subst h9
      have h9 := (Prod.mk.inj hu).1; replace hu := (Prod.mk.inj hu).2; subst h9
      have h9 := (Prod.mk.inj hu).1; replace hu := (Prod.mk.inj hu).2; subst h9
      have h9 := (Prod.mk.inj hu).1; replace hu := (Prod.mk.inj hu).2; subst h9
      have h9 := (Prod.mk.inj hu).1; replace hu := (Prod.mk.inj hu).2; subst h9
      subst hu
      exact bEndI X Y hr hlk dX2_goOn_120 rfl rfl
theorem i_X2_copyFrom_X2 : ∀ w ∈ wsX20, w ∈ wsX2_copyFrom := by decide +kernel
theorem f_X2_copyFrom_12 : Cond.fieldLink RX2 12 "SwingCranes$Pair" "left" "LSwingCranes$Crane;" ∈ wsX2_copyFrom := by decide +kernel
theorem hd_X0_copyFrom : bD1 yX0_copyFrom RX0 1 := by decide +kernel
theorem f_X2_copyFrom_18 : Cond.fieldLink RX2 18 "SwingCranes$Pair" "right" "LSwingCranes$Crane;" ∈ wsX2_copyFrom := by decide +kernel
theorem f_X2_copyFrom_21 : Cond.fieldLink RX2 21 "SwingCranes$Pair" "level" "I" ∈ wsX2_copyFrom := by decide +kernel
set_option maxHeartbeats 4000000 in
set_option maxRecDepth 100000 in
theorem c_pairCopy (l : Launch) (D : va_G) (cyC cyI : ClassId) (q : Nat) (pv : Int32) (ql : Nat) (pl0 : Int32) (pl1 : Int32) (pl2 : Int32) (pl3 : Int32) (pl4 : Int32) (pl5 : Int32) (pl6 : Int32) (pl7 : Int32) (pl8 : Int32) (pl9 : Int32) (pl10 : Int32) (pl11 : Int32) (plb : Bool) (qr : Nat) (pr0 : Int32) (pr1 : Int32) (pr2 : Int32) (pr3 : Int32) (pr4 : Int32) (pr5 : Int32) (pr6 : Int32) (pr7 : Int32) (pr8 : Int32) (pr9 : Int32) (pr10 : Int32) (pr11 : Int32) (prb : Bool) (j : Nat) (ov : Int32) (jl : Nat) (ol0 : Int32) (ol1 : Int32) (ol2 : Int32) (ol3 : Int32) (ol4 : Int32) (ol5 : Int32) (ol6 : Int32) (ol7 : Int32) (ol8 : Int32) (ol9 : Int32) (ol10 : Int32) (ol11 : Int32) (olb : Bool) (jr : Nat) (or0 : Int32) (or1 : Int32) (or2 : Int32) (or3 : Int32) (or4 : Int32) (or5 : Int32) (or6 : Int32) (or7 : Int32) (or8 : Int32) (or9 : Int32) (or10 : Int32) (or11 : Int32) (orb : Bool) : CV l yX2_copyFrom wsX2_copyFrom { frames := 1, cells := 0, slots := 0, locals := 21 } D cyC cyI [.ref q, .ref j] [(q, .inr (2, [.ref ql, .ref qr, .int pv])), (ql, .inr (0, [.int pl0, .int pl1, .int pl2, .int pl3, .int pl4, .int pl5, .int pl6, .int pl7, .int pl8, .int pl9, .int pl10, .int pl11, .int (bB plb)])), (qr, .inr (0, [.int pr0, .int pr1, .int pr2, .int pr3, .int pr4, .int pr5, .int pr6, .int pr7, .int pr8, .int pr9, .int pr10, .int pr11, .int (bB prb)])), (j, .inr (2, [.ref jl, .ref jr, .int ov])), (jl, .inr (0, [.int ol0, .int ol1, .int ol2, .int ol3, .int ol4, .int ol5, .int ol6, .int ol7, .int ol8, .int ol9, .int ol10, .int ol11, .int (bB olb)])), (jr, .inr (0, [.int or0, .int or1, .int or2, .int or3, .int or4, .int or5, .int or6, .int or7, .int or8, .int or9, .int or10, .int or11, .int (bB orb)]))] [(q, .inr (2, [.ref ql, .ref qr, .int ov])), (ql, .inr (0, [.int ol0, .int ol1, .int ol2, .int ol3, .int ol4, .int ol5, .int ol6, .int ol7, .int ol8, .int ol9, .int ol10, .int ol11, .int (bB olb)])), (qr, .inr (0, [.int or0, .int or1, .int or2, .int or3, .int or4, .int or5, .int or6, .int or7, .int or8, .int or9, .int or10, .int or11, .int (bB orb)])), (j, .inr (2, [.ref jl, .ref jr, .int ov])), (jl, .inr (0, [.int ol0, .int ol1, .int ol2, .int ol3, .int ol4, .int ol5, .int ol6, .int ol7, .int ol8, .int ol9, .int ol10, .int ol11, .int (bB olb)])), (jr, .inr (0, [.int or0, .int or1, .int or2, .int or3, .int or4, .int or5, .int or6, .int or7, .int or8, .int or9, .int or10, .int or11, .int (bB orb)]))] := by
  refine CV.of (cc := cX2_copyFrom) (n := 2) (ret := none) (by decide +kernel) rfl (Nat.le_of_ble_eq_true rfl) ?_
  intro p_ e_ s_ m_ bl_ me_ cd_ A_ ls X Y hr hlk hl
  have hx := X.1.1
  have hb := X.1.2.1
  have hl : lv_has ls 2 [(0, .ref q), (1, .ref j)] := hl
  refine lv_aload_n hx hb dX2_copyFrom_0 rfl (lv_at hl 0 rfl) ?_
  refine bGet (v := .ref ql) (T := TX2) (N := 3) (ci := 2) X Y i_X2_copyFrom_X2 0 rfl rfl 0 (Nat.le_of_ble_eq_true rfl) f_X2_copyFrom_12 rfl rfl dX2_copyFrom_1 ?_
  refine lv_aload_n hx hb dX2_copyFrom_4 rfl (lv_at hl 1 rfl) ?_
  refine bGet (v := .ref jl) (T := TX2) (N := 3) (ci := 2) X Y i_X2_copyFrom_X2 3 rfl rfl 0 (Nat.le_of_ble_eq_true rfl) f_X2_copyFrom_12 rfl rfl dX2_copyFrom_5 ?_
  refine bVV (As := [.ref jl]) (rest := []) (wc := [(ql, .inr (0, [.int pl0, .int pl1, .int pl2, .int pl3, .int pl4, .int pl5, .int pl6, .int pl7, .int pl8, .int pl9, .int pl10, .int pl11, .int (bB plb)])), (jl, .inr (0, [.int ol0, .int ol1, .int ol2, .int ol3, .int ol4, .int ol5, .int ol6, .int ol7, .int ol8, .int ol9, .int ol10, .int ol11, .int (bB olb)]))]) (w1 := [(ql, .inr (0, [.int ol0, .int ol1, .int ol2, .int ol3, .int ol4, .int ol5, .int ol6, .int ol7, .int ol8, .int ol9, .int ol10, .int ol11, .int (bB olb)])), (jl, .inr (0, [.int ol0, .int ol1, .int ol2, .int ol3, .int ol4, .int ol5, .int ol6, .int ol7, .int ol8, .int ol9, .int ol10, .int ol11, .int (bB olb)]))]) (ws' := [(q, .inr (2, [.ref ql, .ref qr, .int pv])), (ql, .inr (0, [.int ol0, .int ol1, .int ol2, .int ol3, .int ol4, .int ol5, .int ol6, .int ol7, .int ol8, .int ol9, .int ol10, .int ol11, .int (bB olb)])), (qr, .inr (0, [.int pr0, .int pr1, .int pr2, .int pr3, .int pr4, .int pr5, .int pr6, .int pr7, .int pr8, .int pr9, .int pr10, .int pr11, .int (bB prb)])), (j, .inr (2, [.ref jl, .ref jr, .int ov])), (jl, .inr (0, [.int ol0, .int ol1, .int ol2, .int ol3, .int ol4, .int ol5, .int ol6, .int ol7, .int ol8, .int ol9, .int ol10, .int ol11, .int (bB olb)])), (jr, .inr (0, [.int or0, .int or1, .int or2, .int or3, .int or4, .int or5, .int or6, .int or7, .int or8, .int or9, .int or10, .int or11, .int (bB orb)]))]) (ad := [ql, jl]) (wr := [(q, .inr (2, [.ref ql, .ref qr, .int pv])), (qr, .inr (0, [.int pr0, .int pr1, .int pr2, .int pr3, .int pr4, .int pr5, .int pr6, .int pr7, .int pr8, .int pr9, .int pr10, .int pr11, .int (bB prb)])), (j, .inr (2, [.ref jl, .ref jr, .int ov])), (jr, .inr (0, [.int or0, .int or1, .int or2, .int or3, .int or4, .int or5, .int or6, .int or7, .int or8, .int or9, .int or10, .int or11, .int (bB orb)]))]) (nn := 6) (ci := 0) (q0 := 1) X Y (c_craneCopy l D cyC cyI ql pl0 pl1 pl2 pl3 pl4 pl5 pl6 pl7 pl8 pl9 pl10 pl11 plb jl ol0 ol1 ol2 ol3 ol4 ol5 ol6 ol7 ol8 ol9 ol10 ol11 olb) gX2_copyFrom_X0_copyFrom rfl ⟨rfl, rfl⟩ hd_X0_copyFrom ⟨(Nat.le_of_ble_eq_true rfl), (Nat.le_of_ble_eq_true rfl)⟩ rfl rfl rfl [1, 4] [0, 2, 3, 5] rfl rfl rfl rfl rfl rfl rfl rfl (by decide) rfl rfl hl.1 (Nat.le_of_ble_eq_true rfl) ⟨Nat.zero_le _, Nat.zero_le _⟩ dX2_copyFrom_8 (fun H locs Y => ?_)
  refine lv_aload_n hx hb dX2_copyFrom_11 rfl (lv_at hl 0 rfl) ?_
  refine bGet (v := .ref qr) (T := TX2) (N := 3) (ci := 2) X Y i_X2_copyFrom_X2 0 rfl rfl 1 (Nat.le_of_ble_eq_true rfl) f_X2_copyFrom_18 rfl rfl dX2_copyFrom_12 ?_
  refine lv_aload_n hx hb dX2_copyFrom_15 rfl (lv_at hl 1 rfl) ?_
  refine bGet (v := .ref jr) (T := TX2) (N := 3) (ci := 2) X Y i_X2_copyFrom_X2 3 rfl rfl 1 (Nat.le_of_ble_eq_true rfl) f_X2_copyFrom_18 rfl rfl dX2_copyFrom_16 ?_
  refine bVV (As := [.ref jr]) (rest := []) (wc := [(qr, .inr (0, [.int pr0, .int pr1, .int pr2, .int pr3, .int pr4, .int pr5, .int pr6, .int pr7, .int pr8, .int pr9, .int pr10, .int pr11, .int (bB prb)])), (jr, .inr (0, [.int or0, .int or1, .int or2, .int or3, .int or4, .int or5, .int or6, .int or7, .int or8, .int or9, .int or10, .int or11, .int (bB orb)]))]) (w1 := [(qr, .inr (0, [.int or0, .int or1, .int or2, .int or3, .int or4, .int or5, .int or6, .int or7, .int or8, .int or9, .int or10, .int or11, .int (bB orb)])), (jr, .inr (0, [.int or0, .int or1, .int or2, .int or3, .int or4, .int or5, .int or6, .int or7, .int or8, .int or9, .int or10, .int or11, .int (bB orb)]))]) (ws' := [(q, .inr (2, [.ref ql, .ref qr, .int pv])), (ql, .inr (0, [.int ol0, .int ol1, .int ol2, .int ol3, .int ol4, .int ol5, .int ol6, .int ol7, .int ol8, .int ol9, .int ol10, .int ol11, .int (bB olb)])), (qr, .inr (0, [.int or0, .int or1, .int or2, .int or3, .int or4, .int or5, .int or6, .int or7, .int or8, .int or9, .int or10, .int or11, .int (bB orb)])), (j, .inr (2, [.ref jl, .ref jr, .int ov])), (jl, .inr (0, [.int ol0, .int ol1, .int ol2, .int ol3, .int ol4, .int ol5, .int ol6, .int ol7, .int ol8, .int ol9, .int ol10, .int ol11, .int (bB olb)])), (jr, .inr (0, [.int or0, .int or1, .int or2, .int or3, .int or4, .int or5, .int or6, .int or7, .int or8, .int or9, .int or10, .int or11, .int (bB orb)]))]) (ad := [qr, jr]) (wr := [(q, .inr (2, [.ref ql, .ref qr, .int pv])), (ql, .inr (0, [.int ol0, .int ol1, .int ol2, .int ol3, .int ol4, .int ol5, .int ol6, .int ol7, .int ol8, .int ol9, .int ol10, .int ol11, .int (bB olb)])), (j, .inr (2, [.ref jl, .ref jr, .int ov])), (jl, .inr (0, [.int ol0, .int ol1, .int ol2, .int ol3, .int ol4, .int ol5, .int ol6, .int ol7, .int ol8, .int ol9, .int ol10, .int ol11, .int (bB olb)]))]) (nn := 6) (ci := 0) (q0 := 2) X Y (c_craneCopy l D cyC cyI qr pr0 pr1 pr2 pr3 pr4 pr5 pr6 pr7 pr8 pr9 pr10 pr11 prb jr or0 or1 or2 or3 or4 or5 or6 or7 or8 or9 or10 or11 orb) gX2_copyFrom_X0_copyFrom rfl ⟨rfl, rfl⟩ hd_X0_copyFrom ⟨(Nat.le_of_ble_eq_true rfl), (Nat.le_of_ble_eq_true rfl)⟩ rfl rfl rfl [2, 5] [0, 1, 3, 4] rfl rfl rfl rfl rfl rfl rfl rfl (by decide) rfl rfl hl.1 (Nat.le_of_ble_eq_true rfl) ⟨Nat.zero_le _, Nat.zero_le _⟩ dX2_copyFrom_19 (fun H locs Y => ?_)
  refine lv_aload_n hx hb dX2_copyFrom_22 rfl (lv_at hl 0 rfl) ?_
  refine lv_aload_n hx hb dX2_copyFrom_23 rfl (lv_at hl 1 rfl) ?_
  refine bGet (v := .int ov) (T := TX2) (N := 3) (ci := 2) X Y i_X2_copyFrom_X2 3 rfl rfl 2 (Nat.le_of_ble_eq_true rfl) f_X2_copyFrom_21 rfl rfl dX2_copyFrom_24 ?_
  refine bPut (T := TX2) (N := 3) (ci := 2) (ws' := [(q, .inr (2, [.ref ql, .ref qr, .int ov])), (ql, .inr (0, [.int ol0, .int ol1, .int ol2, .int ol3, .int ol4, .int ol5, .int ol6, .int ol7, .int ol8, .int ol9, .int ol10, .int ol11, .int (bB olb)])), (qr, .inr (0, [.int or0, .int or1, .int or2, .int or3, .int or4, .int or5, .int or6, .int or7, .int or8, .int or9, .int or10, .int or11, .int (bB orb)])), (j, .inr (2, [.ref jl, .ref jr, .int ov])), (jl, .inr (0, [.int ol0, .int ol1, .int ol2, .int ol3, .int ol4, .int ol5, .int ol6, .int ol7, .int ol8, .int ol9, .int ol10, .int ol11, .int (bB olb)])), (jr, .inr (0, [.int or0, .int or1, .int or2, .int or3, .int or4, .int or5, .int or6, .int or7, .int or8, .int or9, .int or10, .int or11, .int (bB orb)]))]) X Y i_X2_copyFrom_X2 tyX2 tyX2_ok nmX2 0 rfl rfl 2 (Nat.le_of_ble_eq_true rfl) f_X2_copyFrom_21 rfl rfl rfl rfl (Nat.le_of_ble_eq_true rfl) rfl dX2_copyFrom_27 (fun H locs Y => ?_)
  exact bEndV X Y hr hlk dX2_copyFrom_30 rfl
theorem i_X2_begin_X2 : ∀ w ∈ wsX20, w ∈ wsX2_begin := by decide +kernel
theorem f_X2_begin_12 : Cond.fieldLink RX2 12 "SwingCranes$Pair" "left" "LSwingCranes$Crane;" ∈ wsX2_begin := by decide +kernel
theorem i_X2_begin_X1 : ∀ w ∈ wsX10, w ∈ wsX2_begin := by decide +kernel
theorem f_X2_begin_25 : Cond.fieldLink RX2 25 "SwingCranes$Layout" "left" "LSwingCranes$Start;" ∈ wsX2_begin := by decide +kernel
theorem hd_X0_begin : bD1 yX0_begin RX0 1 := by decide +kernel
theorem f_X2_begin_18 : Cond.fieldLink RX2 18 "SwingCranes$Pair" "right" "LSwingCranes$Crane;" ∈ wsX2_begin := by decide +kernel
theorem f_X2_begin_34 : Cond.fieldLink RX2 34 "SwingCranes$Layout" "right" "LSwingCranes$Start;" ∈ wsX2_begin := by decide +kernel
theorem f_X2_begin_21 : Cond.fieldLink RX2 21 "SwingCranes$Pair" "level" "I" ∈ wsX2_begin := by decide +kernel
set_option maxHeartbeats 4000000 in
set_option maxRecDepth 100000 in
theorem c_pairBegin (l : Launch) (D : va_G) (cyC cyI : ClassId) (q : Nat) (pv : Int32) (ql : Nat) (pl0 : Int32) (pl1 : Int32) (pl2 : Int32) (pl3 : Int32) (pl4 : Int32) (pl5 : Int32) (pl6 : Int32) (pl7 : Int32) (pl8 : Int32) (pl9 : Int32) (pl10 : Int32) (pl11 : Int32) (plb : Bool) (qr : Nat) (pr0 : Int32) (pr1 : Int32) (pr2 : Int32) (pr3 : Int32) (pr4 : Int32) (pr5 : Int32) (pr6 : Int32) (pr7 : Int32) (pr8 : Int32) (pr9 : Int32) (pr10 : Int32) (pr11 : Int32) (prb : Bool) (g : Nat) (r0 : Int32) (r1 : Int32) (r2 : Int32) (r3 : Int32) (r4 : Int32) (gl : Nat) (rx0 : Int32) (rx1 : Int32) (rx2 : Int32) (gr : Nat) (ry0 : Int32) (ry1 : Int32) (ry2 : Int32) : CV l yX2_begin wsX2_begin { frames := 2, cells := 0, slots := 0, locals := 44 } D cyC cyI [.ref q, .ref g] [(q, .inr (2, [.ref ql, .ref qr, .int pv])), (ql, .inr (0, [.int pl0, .int pl1, .int pl2, .int pl3, .int pl4, .int pl5, .int pl6, .int pl7, .int pl8, .int pl9, .int pl10, .int pl11, .int (bB plb)])), (qr, .inr (0, [.int pr0, .int pr1, .int pr2, .int pr3, .int pr4, .int pr5, .int pr6, .int pr7, .int pr8, .int pr9, .int pr10, .int pr11, .int (bB prb)])), (g, .inr (1, [.int r0, .int r1, .int r2, .int r3, .int r4, .ref gl, .ref gr])), (gl, .inr (4, [.int rx0, .int rx1, .int rx2])), (gr, .inr (4, [.int ry0, .int ry1, .int ry2]))] [(q, .inr (2, [.ref ql, .ref qr, .int (-4)])), (ql, .inr (0, [.int rx0, .int 0, .int rx1, .int rx2, .int 0, .int 0, .int 0, .int rx1, .int 1, .int 0, .int (1 + 0), .int 0, .int (bB false)])), (qr, .inr (0, [.int ry0, .int 0, .int ry1, .int ry2, .int 0, .int 0, .int 0, .int ry1, .int 1, .int 0, .int (1 + 0), .int 0, .int (bB false)])), (g, .inr (1, [.int r0, .int r1, .int r2, .int r3, .int r4, .ref gl, .ref gr])), (gl, .inr (4, [.int rx0, .int rx1, .int rx2])), (gr, .inr (4, [.int ry0, .int ry1, .int ry2]))] := by
  refine CV.of (cc := cX2_begin) (n := 2) (ret := none) (by decide +kernel) rfl (Nat.le_of_ble_eq_true rfl) ?_
  intro p_ e_ s_ m_ bl_ me_ cd_ A_ ls X Y hr hlk hl
  have hx := X.1.1
  have hb := X.1.2.1
  have hl : lv_has ls 2 [(0, .ref q), (1, .ref g)] := hl
  refine lv_aload_n hx hb dX2_begin_0 rfl (lv_at hl 0 rfl) ?_
  refine bGet (v := .ref ql) (T := TX2) (N := 3) (ci := 2) X Y i_X2_begin_X2 0 rfl rfl 0 (Nat.le_of_ble_eq_true rfl) f_X2_begin_12 rfl rfl dX2_begin_1 ?_
  refine lv_aload_n hx hb dX2_begin_4 rfl (lv_at hl 1 rfl) ?_
  refine bGet (v := .ref gl) (T := TX1) (N := 7) (ci := 1) X Y i_X2_begin_X1 3 rfl rfl 5 (Nat.le_of_ble_eq_true rfl) f_X2_begin_25 rfl rfl dX2_begin_5 ?_
  refine bVV (As := [.ref gl]) (rest := []) (wc := [(ql, .inr (0, [.int pl0, .int pl1, .int pl2, .int pl3, .int pl4, .int pl5, .int pl6, .int pl7, .int pl8, .int pl9, .int pl10, .int pl11, .int (bB plb)])), (gl, .inr (4, [.int rx0, .int rx1, .int rx2]))]) (w1 := [(ql, .inr (0, [.int rx0, .int 0, .int rx1, .int rx2, .int 0, .int 0, .int 0, .int rx1, .int 1, .int 0, .int (1 + 0), .int 0, .int (bB false)])), (gl, .inr (4, [.int rx0, .int rx1, .int rx2]))]) (ws' := [(q, .inr (2, [.ref ql, .ref qr, .int pv])), (ql, .inr (0, [.int rx0, .int 0, .int rx1, .int rx2, .int 0, .int 0, .int 0, .int rx1, .int 1, .int 0, .int (1 + 0), .int 0, .int (bB false)])), (qr, .inr (0, [.int pr0, .int pr1, .int pr2, .int pr3, .int pr4, .int pr5, .int pr6, .int pr7, .int pr8, .int pr9, .int pr10, .int pr11, .int (bB prb)])), (g, .inr (1, [.int r0, .int r1, .int r2, .int r3, .int r4, .ref gl, .ref gr])), (gl, .inr (4, [.int rx0, .int rx1, .int rx2])), (gr, .inr (4, [.int ry0, .int ry1, .int ry2]))]) (ad := [ql, gl]) (wr := [(q, .inr (2, [.ref ql, .ref qr, .int pv])), (qr, .inr (0, [.int pr0, .int pr1, .int pr2, .int pr3, .int pr4, .int pr5, .int pr6, .int pr7, .int pr8, .int pr9, .int pr10, .int pr11, .int (bB prb)])), (g, .inr (1, [.int r0, .int r1, .int r2, .int r3, .int r4, .ref gl, .ref gr])), (gr, .inr (4, [.int ry0, .int ry1, .int ry2]))]) (nn := 6) (ci := 0) (q0 := 1) X Y (c_craneBegin l D cyC cyI ql pl0 pl1 pl2 pl3 pl4 pl5 pl6 pl7 pl8 pl9 pl10 pl11 plb gl rx0 rx1 rx2) gX2_begin_X0_begin rfl ⟨rfl, rfl⟩ hd_X0_begin ⟨(Nat.le_of_ble_eq_true rfl), (Nat.le_of_ble_eq_true rfl)⟩ rfl rfl rfl [1, 4] [0, 2, 3, 5] rfl rfl rfl rfl rfl rfl rfl rfl (by decide) rfl rfl hl.1 (Nat.le_of_ble_eq_true rfl) ⟨Nat.zero_le _, Nat.zero_le _⟩ dX2_begin_8 (fun H locs Y => ?_)
  refine lv_aload_n hx hb dX2_begin_11 rfl (lv_at hl 0 rfl) ?_
  refine bGet (v := .ref qr) (T := TX2) (N := 3) (ci := 2) X Y i_X2_begin_X2 0 rfl rfl 1 (Nat.le_of_ble_eq_true rfl) f_X2_begin_18 rfl rfl dX2_begin_12 ?_
  refine lv_aload_n hx hb dX2_begin_15 rfl (lv_at hl 1 rfl) ?_
  refine bGet (v := .ref gr) (T := TX1) (N := 7) (ci := 1) X Y i_X2_begin_X1 3 rfl rfl 6 (Nat.le_of_ble_eq_true rfl) f_X2_begin_34 rfl rfl dX2_begin_16 ?_
  refine bVV (As := [.ref gr]) (rest := []) (wc := [(qr, .inr (0, [.int pr0, .int pr1, .int pr2, .int pr3, .int pr4, .int pr5, .int pr6, .int pr7, .int pr8, .int pr9, .int pr10, .int pr11, .int (bB prb)])), (gr, .inr (4, [.int ry0, .int ry1, .int ry2]))]) (w1 := [(qr, .inr (0, [.int ry0, .int 0, .int ry1, .int ry2, .int 0, .int 0, .int 0, .int ry1, .int 1, .int 0, .int (1 + 0), .int 0, .int (bB false)])), (gr, .inr (4, [.int ry0, .int ry1, .int ry2]))]) (ws' := [(q, .inr (2, [.ref ql, .ref qr, .int pv])), (ql, .inr (0, [.int rx0, .int 0, .int rx1, .int rx2, .int 0, .int 0, .int 0, .int rx1, .int 1, .int 0, .int (1 + 0), .int 0, .int (bB false)])), (qr, .inr (0, [.int ry0, .int 0, .int ry1, .int ry2, .int 0, .int 0, .int 0, .int ry1, .int 1, .int 0, .int (1 + 0), .int 0, .int (bB false)])), (g, .inr (1, [.int r0, .int r1, .int r2, .int r3, .int r4, .ref gl, .ref gr])), (gl, .inr (4, [.int rx0, .int rx1, .int rx2])), (gr, .inr (4, [.int ry0, .int ry1, .int ry2]))]) (ad := [qr, gr]) (wr := [(q, .inr (2, [.ref ql, .ref qr, .int pv])), (ql, .inr (0, [.int rx0, .int 0, .int rx1, .int rx2, .int 0, .int 0, .int 0, .int rx1, .int 1, .int 0, .int (1 + 0), .int 0, .int (bB false)])), (g, .inr (1, [.int r0, .int r1, .int r2, .int r3, .int r4, .ref gl, .ref gr])), (gl, .inr (4, [.int rx0, .int rx1, .int rx2]))]) (nn := 6) (ci := 0) (q0 := 2) X Y (c_craneBegin l D cyC cyI qr pr0 pr1 pr2 pr3 pr4 pr5 pr6 pr7 pr8 pr9 pr10 pr11 prb gr ry0 ry1 ry2) gX2_begin_X0_begin rfl ⟨rfl, rfl⟩ hd_X0_begin ⟨(Nat.le_of_ble_eq_true rfl), (Nat.le_of_ble_eq_true rfl)⟩ rfl rfl rfl [2, 5] [0, 1, 3, 4] rfl rfl rfl rfl rfl rfl rfl rfl (by decide) rfl rfl hl.1 (Nat.le_of_ble_eq_true rfl) ⟨Nat.zero_le _, Nat.zero_le _⟩ dX2_begin_19 (fun H locs Y => ?_)
  refine lv_aload_n hx hb dX2_begin_22 rfl (lv_at hl 0 rfl) ?_
  refine lv_bipush (v := (-4)) hx hb dX2_begin_23 (by decide) ?_
  refine bPut (T := TX2) (N := 3) (ci := 2) (ws' := [(q, .inr (2, [.ref ql, .ref qr, .int (-4)])), (ql, .inr (0, [.int rx0, .int 0, .int rx1, .int rx2, .int 0, .int 0, .int 0, .int rx1, .int 1, .int 0, .int (1 + 0), .int 0, .int (bB false)])), (qr, .inr (0, [.int ry0, .int 0, .int ry1, .int ry2, .int 0, .int 0, .int 0, .int ry1, .int 1, .int 0, .int (1 + 0), .int 0, .int (bB false)])), (g, .inr (1, [.int r0, .int r1, .int r2, .int r3, .int r4, .ref gl, .ref gr])), (gl, .inr (4, [.int rx0, .int rx1, .int rx2])), (gr, .inr (4, [.int ry0, .int ry1, .int ry2]))]) X Y i_X2_begin_X2 tyX2 tyX2_ok nmX2 0 rfl rfl 2 (Nat.le_of_ble_eq_true rfl) f_X2_begin_21 rfl rfl rfl rfl (Nat.le_of_ble_eq_true rfl) rfl dX2_begin_25 (fun H locs Y => ?_)
  exact bEndV X Y hr hlk dX2_begin_28 rfl
