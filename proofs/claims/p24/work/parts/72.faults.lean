/-! the law's `refused` -/
theorem step2K {a b c d : Int32} : s_stepOf_0 a b c d 2 0 = -4 := by
  unfold s_stepOf_0
  rw [if_pos (by decide), if_neg (by decide), if_pos (by decide)]
  unfold s_stepsToCome
  by_cases c1 : b = 0 <;> by_cases c2 : d = 0 <;> simp only [c1, c2, if_true, if_false] <;> exact if_neg (by decide)
theorem loadK {m : Int32} (h : 0 ≤ m.toInt ∧ m.toInt ≤ 99) : s_load_0_no m = -2 := by
  unfold s_load_0_no
  rw [if_pos (by decide), if_pos (isWithin_y (by rw [zI]; exact h.1) (by rw [show (99 : Int32).toInt = 99 by decide]; exact h.2))]
theorem coupK {m : Int32} (h : 0 ≤ m.toInt ∧ m.toInt ≤ 20) : s_coupleOn_no m = -2 := by
  unfold s_coupleOn_no
  rw [if_pos (isWithin_y (by rw [show (-1 : Int32).toInt = -1 by decide]; omega) (by rw [show (20 : Int32).toInt = 20 by decide]; exact h.2))]
theorem hdq_X7_been : bD1 yX7_been RX7 3 := by decide +kernel
theorem hdq_X7_ahead : bD1 yX7_ahead RX7 3 := by decide +kernel
theorem hdq_X7_quiet : bD1 yX7_quiet RX7 1 := by decide +kernel
theorem hdq_X7_best : bD1 yX7_best RX7 3 := by decide +kernel
set_option maxHeartbeats 4000000 in
set_option maxRecDepth 100000 in
theorem c_refused (l : Launch) (D : va_G) (cyC cyI : ClassId) (sb sL : Nat) (xs : Nat → Int32) {Q : Nat → Nat} {r : Nat → Int32} {S : Nat → Sto} {ud : Int32} {T : List Int32} {wa : va_W} (hI : QW cyC cyI Q r S ud T wa) (hok : OkS r (S 0)) : QI l yL_refused wsL_refused { frames := 7, cells := 0, slots := 0, locals := 161 } D cyC cyI sb sL xs [.ref (Q 0)] wa 0 0 (fun rv w1 => rv = 1 ∧ QW cyC cyI Q r S ud T w1) := by
  refine QI.of (cc := cL_refused) (n := 5) (ret := (some .boolean)) (by decide +kernel) rfl (Nat.le_of_ble_eq_true rfl) ?_
  intro p_ e_ s_ m_ bl_ me_ cd_ A_ ls X Y hr hlk hl
  have hx := X.1.1.1
  have hb := X.1.1.2.1
  have hl : lv_has ls 5 [(0, .ref (Q 0))] := hl
  have Y : bY D A_ s_.heap ([] ++ wa) s_.heap [] := Y
  have hW := Y.wpR
  obtain ⟨⟨⟨b0, b1, b2, b3, b4, b5⟩, ⟨l1, l2, l3, l7, l4, l5⟩, -, -⟩, -, -, -⟩ := id hok
  have hm := OkS_mm hok
  have hl5 : 0 ≤ ((S 0).1 5).toInt ∧ ((S 0).1 5).toInt ≤ 99 := l3
  have hlv : ¬ (S 0).1 1 = -4 → 0 ≤ ((S 0).1 1).toInt ∧ ((S 0).1 1).toInt ≤ 20 := fun z => b5.resolve_left z
  refine lv_aload_n hx hb dL_refused_0 rfl (lv_at hl 0 rfl) ?_
  refine qSL (al := []) (wa := wa) (As := [.ref (Q 0)]) (rest := []) (c2 := 0) (s2 := 0) X Y (c_whole l D cyC cyI sb sL xs hI hm) gL_refused_L_whole rfl ⟨rfl, rfl⟩ hdq_L_whole.2 ⟨Nat.le_of_ble_eq_true rfl, Nat.le_of_ble_eq_true rfl⟩ rfl rfl rfl rfl hl.1 (Nat.le_of_ble_eq_true rfl) ⟨Nat.le_of_ble_eq_true rfl, Nat.le_of_ble_eq_true rfl⟩ dL_refused_1 (fun r_2 wa_1 H locs hI_1 hw_1 Y => ?_)
  have hW_1 := hW.trans hw_1
  obtain ⟨er_2, hI_1⟩ := hI_1
  subst er_2
  refine lv_lstore_n (lv' := [(1, .long (wh r (S 0))), (0, .ref (Q 0))]) hx hb dL_refused_4 rfl hl (by decide) rfl (fun ls hl => ?_)
  refine lv_aload_n hx hb dL_refused_5 rfl (lv_at hl 1 rfl) ?_
  refine lv_bipush (v := 7) hx hb dL_refused_6 (by decide) ?_
  refine qVI (al := []) (As := [.int 7]) (rest := []) X Y (k_count hI_1 7 ud rfl) gL_refused_X7_count rfl hdq_X7_count ⟨Nat.le_of_ble_eq_true rfl, Nat.le_of_ble_eq_true rfl⟩ hI_1.head rfl rfl hl.1 (Nat.le_of_ble_eq_true rfl) ⟨Nat.le_of_ble_eq_true rfl, Nat.le_of_ble_eq_true rfl⟩ dL_refused_8 (fun wa_3 H locs hI_3 hw_3 Y => ?_)
  have hW_3 := hW_1.trans hw_3
  refine lv_istore_n (lv' := [(3, .int ud), (1, .long (wh r (S 0))), (0, .ref (Q 0))]) hx hb dL_refused_11 rfl hl (by decide) rfl (fun ls hl => ?_)
  refine lv_aload_n hx hb dL_refused_12 rfl (lv_at hl 2 rfl) ?_
  refine lv_bipush (v := 31) hx hb dL_refused_13 (by decide) ?_
  refine qVI (al := []) (As := [.int 31]) (rest := []) X Y (k_write_no hI_3 31 (-1) (Or.inl ⟨by decide, rfl⟩)) gL_refused_X7_write rfl hdq_X7_write ⟨Nat.le_of_ble_eq_true rfl, Nat.le_of_ble_eq_true rfl⟩ hI_3.head rfl rfl hl.1 (Nat.le_of_ble_eq_true rfl) ⟨Nat.le_of_ble_eq_true rfl, Nat.le_of_ble_eq_true rfl⟩ dL_refused_15 (fun wa_4 H locs hI_4 hw_4 Y => ?_)
  have hW_4 := hW_3.trans hw_4
  refine lv_iconst (v := (-1)) hx hb dL_refused_18 (by decide) ?_
  refine lv_icmp_ne (tgt := 241) hx hb dL_refused_19 (by decide) (fun c_ => absurd (by decide) c_) (fun _ => ?_)
  refine lv_aload_n hx hb dL_refused_22 rfl (lv_at hl 2 rfl) ?_
  refine lv_bipush (v := 127) hx hb dL_refused_23 (by decide) ?_
  refine qVI (al := []) (As := [.int 127]) (rest := []) X Y (k_write_no hI_4 127 (-1) (Or.inl ⟨by decide, rfl⟩)) gL_refused_X7_write rfl hdq_X7_write ⟨Nat.le_of_ble_eq_true rfl, Nat.le_of_ble_eq_true rfl⟩ hI_4.head rfl rfl hl.1 (Nat.le_of_ble_eq_true rfl) ⟨Nat.le_of_ble_eq_true rfl, Nat.le_of_ble_eq_true rfl⟩ dL_refused_25 (fun wa_5 H locs hI_5 hw_5 Y => ?_)
  have hW_5 := hW_4.trans hw_5
  refine lv_iconst (v := (-1)) hx hb dL_refused_28 (by decide) ?_
  refine lv_icmp_ne (tgt := 241) hx hb dL_refused_29 (by decide) (fun c_ => absurd (by decide) c_) (fun _ => ?_)
  refine lv_aload_n hx hb dL_refused_32 rfl (lv_at hl 2 rfl) ?_
  refine lv_iconst (v := 2) hx hb dL_refused_33 (by decide) ?_
  refine lv_iconst (v := 0) hx hb dL_refused_34 (by decide) ?_
  refine qVI (al := []) (As := [.int 2, .int 0]) (rest := []) X Y (k_command_no hI_5 2 0 (-1) rfl (by decide)) gL_refused_X7_command rfl hdq_X7_command ⟨Nat.le_of_ble_eq_true rfl, Nat.le_of_ble_eq_true rfl⟩ hI_5.head rfl rfl hl.1 (Nat.le_of_ble_eq_true rfl) ⟨Nat.le_of_ble_eq_true rfl, Nat.le_of_ble_eq_true rfl⟩ dL_refused_35 (fun wa_6 H locs hI_6 hw_6 Y => ?_)
  have hW_6 := hW_5.trans hw_6
  refine lv_iconst (v := (-1)) hx hb dL_refused_38 (by decide) ?_
  refine lv_icmp_ne (tgt := 241) hx hb dL_refused_39 (by decide) (fun c_ => absurd (by decide) c_) (fun _ => ?_)
  refine lv_aload_n hx hb dL_refused_42 rfl (lv_at hl 2 rfl) ?_
  refine lv_iconst (v := 0) hx hb dL_refused_43 (by decide) ?_
  refine lv_bipush (v := 41) hx hb dL_refused_44 (by decide) ?_
  refine qVI (al := []) (As := [.int 0, .int 41]) (rest := []) X Y (k_command_no hI_6 0 41 (-1) rfl (by decide)) gL_refused_X7_command rfl hdq_X7_command ⟨Nat.le_of_ble_eq_true rfl, Nat.le_of_ble_eq_true rfl⟩ hI_6.head rfl rfl hl.1 (Nat.le_of_ble_eq_true rfl) ⟨Nat.le_of_ble_eq_true rfl, Nat.le_of_ble_eq_true rfl⟩ dL_refused_46 (fun wa_7 H locs hI_7 hw_7 Y => ?_)
  have hW_7 := hW_6.trans hw_7
  refine lv_iconst (v := (-1)) hx hb dL_refused_49 (by decide) ?_
  refine lv_icmp_ne (tgt := 241) hx hb dL_refused_50 (by decide) (fun c_ => absurd (by decide) c_) (fun _ => ?_)
  refine lv_aload_n hx hb dL_refused_53 rfl (lv_at hl 2 rfl) ?_
  refine lv_iconst (v := (-1)) hx hb dL_refused_54 (by decide) ?_
  refine lv_iconst (v := 0) hx hb dL_refused_55 (by decide) ?_
  refine lv_iconst (v := 0) hx hb dL_refused_56 (by decide) ?_
  refine qVI (al := []) (As := [.int (-1), .int 0, .int 0]) (rest := []) X Y (k_shape_no hI_7 (-1) 0 0 (-1) rfl (by decide)) gL_refused_X7_shape rfl hdq_X7_shape ⟨Nat.le_of_ble_eq_true rfl, Nat.le_of_ble_eq_true rfl⟩ hI_7.head rfl rfl hl.1 (Nat.le_of_ble_eq_true rfl) ⟨Nat.le_of_ble_eq_true rfl, Nat.le_of_ble_eq_true rfl⟩ dL_refused_57 (fun wa_8 H locs hI_8 hw_8 Y => ?_)
  have hW_8 := hW_7.trans hw_8
  refine lv_iconst (v := (-1)) hx hb dL_refused_60 (by decide) ?_
  refine lv_icmp_ne (tgt := 241) hx hb dL_refused_61 (by decide) (fun c_ => absurd (by decide) c_) (fun _ => ?_)
  refine lv_aload_n hx hb dL_refused_64 rfl (lv_at hl 2 rfl) ?_
  refine lv_iconst (v := 0) hx hb dL_refused_65 (by decide) ?_
  refine lv_bipush (v := (-41)) hx hb dL_refused_66 (by decide) ?_
  refine lv_iconst (v := 0) hx hb dL_refused_68 (by decide) ?_
  refine qVI (al := []) (As := [.int 0, .int (-41), .int 0]) (rest := []) X Y (k_shape_no hI_8 0 (-41) 0 (-1) rfl (by decide)) gL_refused_X7_shape rfl hdq_X7_shape ⟨Nat.le_of_ble_eq_true rfl, Nat.le_of_ble_eq_true rfl⟩ hI_8.head rfl rfl hl.1 (Nat.le_of_ble_eq_true rfl) ⟨Nat.le_of_ble_eq_true rfl, Nat.le_of_ble_eq_true rfl⟩ dL_refused_69 (fun wa_9 H locs hI_9 hw_9 Y => ?_)
  have hW_9 := hW_8.trans hw_9
  refine lv_iconst (v := (-1)) hx hb dL_refused_72 (by decide) ?_
  refine lv_icmp_ne (tgt := 241) hx hb dL_refused_73 (by decide) (fun c_ => absurd (by decide) c_) (fun _ => ?_)
  refine lv_aload_n hx hb dL_refused_76 rfl (lv_at hl 2 rfl) ?_
  refine lv_iconst (v := 0) hx hb dL_refused_77 (by decide) ?_
  refine lv_iconst (v := 0) hx hb dL_refused_78 (by decide) ?_
  refine lv_bipush (v := 21) hx hb dL_refused_79 (by decide) ?_
  refine qVI (al := []) (As := [.int 0, .int 0, .int 21]) (rest := []) X Y (k_shape_no hI_9 0 0 21 (-1) rfl (by decide)) gL_refused_X7_shape rfl hdq_X7_shape ⟨Nat.le_of_ble_eq_true rfl, Nat.le_of_ble_eq_true rfl⟩ hI_9.head rfl rfl hl.1 (Nat.le_of_ble_eq_true rfl) ⟨Nat.le_of_ble_eq_true rfl, Nat.le_of_ble_eq_true rfl⟩ dL_refused_81 (fun wa_10 H locs hI_10 hw_10 Y => ?_)
  have hW_10 := hW_9.trans hw_10
  refine lv_iconst (v := (-1)) hx hb dL_refused_84 (by decide) ?_
  refine lv_icmp_ne (tgt := 241) hx hb dL_refused_85 (by decide) (fun c_ => absurd (by decide) c_) (fun _ => ?_)
  refine lv_aload_n hx hb dL_refused_88 rfl (lv_at hl 2 rfl) ?_
  refine lv_iconst (v := 0) hx hb dL_refused_89 (by decide) ?_
  refine lv_iconst (v := 0) hx hb dL_refused_90 (by decide) ?_
  refine lv_bipush (v := (-2)) hx hb dL_refused_91 (by decide) ?_
  refine qVI (al := []) (As := [.int 0, .int 0, .int (-2)]) (rest := []) X Y (k_shape_no hI_10 0 0 (-2) (-1) rfl (by decide)) gL_refused_X7_shape rfl hdq_X7_shape ⟨Nat.le_of_ble_eq_true rfl, Nat.le_of_ble_eq_true rfl⟩ hI_10.head rfl rfl hl.1 (Nat.le_of_ble_eq_true rfl) ⟨Nat.le_of_ble_eq_true rfl, Nat.le_of_ble_eq_true rfl⟩ dL_refused_93 (fun wa_11 H locs hI_11 hw_11 Y => ?_)
  have hW_11 := hW_10.trans hw_11
  refine lv_iconst (v := (-1)) hx hb dL_refused_96 (by decide) ?_
  refine lv_icmp_ne (tgt := 241) hx hb dL_refused_97 (by decide) (fun c_ => absurd (by decide) c_) (fun _ => ?_)
  refine lv_aload_n hx hb dL_refused_100 rfl (lv_at hl 2 rfl) ?_
  refine lv_iconst (v := 0) hx hb dL_refused_101 (by decide) ?_
  refine lv_bipush (v := 9) hx hb dL_refused_102 (by decide) ?_
  refine qVI (al := []) (As := [.int 0, .int 9]) (rest := []) X Y (k_target_0_no hI_11 9 (-1) rfl (fun _ z => absurd z (by decide))) gL_refused_X7_target rfl hdq_X7_target ⟨Nat.le_of_ble_eq_true rfl, Nat.le_of_ble_eq_true rfl⟩ hI_11.head rfl rfl hl.1 (Nat.le_of_ble_eq_true rfl) ⟨Nat.le_of_ble_eq_true rfl, Nat.le_of_ble_eq_true rfl⟩ dL_refused_104 (fun wa_12 H locs hI_12 hw_12 Y => ?_)
  have hW_12 := hW_11.trans hw_12
  refine lv_iconst (v := (-1)) hx hb dL_refused_107 (by decide) ?_
  refine lv_icmp_ne (tgt := 241) hx hb dL_refused_108 (by decide) (fun c_ => absurd (by decide) c_) (fun _ => ?_)
  refine lv_aload_n hx hb dL_refused_111 rfl (lv_at hl 2 rfl) ?_
  refine lv_iconst (v := 0) hx hb dL_refused_112 (by decide) ?_
  refine lv_bipush (v := 61) hx hb dL_refused_113 (by decide) ?_
  refine qVI (al := []) (As := [.int 0, .int 61]) (rest := []) X Y (k_target_0_no hI_12 61 (-1) rfl (fun _ z => absurd z (by decide))) gL_refused_X7_target rfl hdq_X7_target ⟨Nat.le_of_ble_eq_true rfl, Nat.le_of_ble_eq_true rfl⟩ hI_12.head rfl rfl hl.1 (Nat.le_of_ble_eq_true rfl) ⟨Nat.le_of_ble_eq_true rfl, Nat.le_of_ble_eq_true rfl⟩ dL_refused_115 (fun wa_13 H locs hI_13 hw_13 Y => ?_)
  have hW_13 := hW_12.trans hw_13
  refine lv_iconst (v := (-1)) hx hb dL_refused_118 (by decide) ?_
  refine lv_icmp_ne (tgt := 241) hx hb dL_refused_119 (by decide) (fun c_ => absurd (by decide) c_) (fun _ => ?_)
  refine lv_aload_n hx hb dL_refused_122 rfl (lv_at hl 2 rfl) ?_
  refine lv_iconst (v := 2) hx hb dL_refused_123 (by decide) ?_
  refine lv_bipush (v := 30) hx hb dL_refused_124 (by decide) ?_
  refine qVI (al := []) (As := [.int 2, .int 30]) (rest := []) X Y (k_target_b hI_13 2 30 (-1) rfl (by decide) (by decide)) gL_refused_X7_target rfl hdq_X7_target ⟨Nat.le_of_ble_eq_true rfl, Nat.le_of_ble_eq_true rfl⟩ hI_13.head rfl rfl hl.1 (Nat.le_of_ble_eq_true rfl) ⟨Nat.le_of_ble_eq_true rfl, Nat.le_of_ble_eq_true rfl⟩ dL_refused_126 (fun wa_14 H locs hI_14 hw_14 Y => ?_)
  have hW_14 := hW_13.trans hw_14
  refine lv_iconst (v := (-1)) hx hb dL_refused_129 (by decide) ?_
  refine lv_icmp_ne (tgt := 241) hx hb dL_refused_130 (by decide) (fun c_ => absurd (by decide) c_) (fun _ => ?_)
  refine lv_aload_n hx hb dL_refused_133 rfl (lv_at hl 2 rfl) ?_
  refine lv_iconst (v := 0) hx hb dL_refused_134 (by decide) ?_
  refine lv_bipush (v := 100) hx hb dL_refused_135 (by decide) ?_
  refine qVI (al := []) (As := [.int 0, .int 100]) (rest := []) X Y (k_load_0_no hI_14 100 (-1) rfl (fun _ z => absurd z (by decide))) gL_refused_X7_load rfl hdq_X7_load ⟨Nat.le_of_ble_eq_true rfl, Nat.le_of_ble_eq_true rfl⟩ hI_14.head rfl rfl hl.1 (Nat.le_of_ble_eq_true rfl) ⟨Nat.le_of_ble_eq_true rfl, Nat.le_of_ble_eq_true rfl⟩ dL_refused_137 (fun wa_15 H locs hI_15 hw_15 Y => ?_)
  have hW_15 := hW_14.trans hw_15
  refine lv_iconst (v := (-1)) hx hb dL_refused_140 (by decide) ?_
  refine lv_icmp_ne (tgt := 241) hx hb dL_refused_141 (by decide) (fun c_ => absurd (by decide) c_) (fun _ => ?_)
  refine lv_aload_n hx hb dL_refused_144 rfl (lv_at hl 2 rfl) ?_
  refine lv_iconst (v := 0) hx hb dL_refused_145 (by decide) ?_
  refine lv_iconst (v := (-1)) hx hb dL_refused_146 (by decide) ?_
  refine qVI (al := []) (As := [.int 0, .int (-1)]) (rest := []) X Y (k_load_0_no hI_15 (-1) (-1) rfl (fun _ z => absurd z (by decide))) gL_refused_X7_load rfl hdq_X7_load ⟨Nat.le_of_ble_eq_true rfl, Nat.le_of_ble_eq_true rfl⟩ hI_15.head rfl rfl hl.1 (Nat.le_of_ble_eq_true rfl) ⟨Nat.le_of_ble_eq_true rfl, Nat.le_of_ble_eq_true rfl⟩ dL_refused_147 (fun wa_16 H locs hI_16 hw_16 Y => ?_)
  have hW_16 := hW_15.trans hw_16
  refine lv_iconst (v := (-1)) hx hb dL_refused_150 (by decide) ?_
  refine lv_icmp_ne (tgt := 241) hx hb dL_refused_151 (by decide) (fun c_ => absurd (by decide) c_) (fun _ => ?_)
  refine lv_aload_n hx hb dL_refused_154 rfl (lv_at hl 2 rfl) ?_
  refine lv_iconst (v := 0) hx hb dL_refused_155 (by decide) ?_
  refine lv_aload_n hx hb dL_refused_156 rfl (lv_at hl 2 rfl) ?_
  refine lv_iconst (v := 0) hx hb dL_refused_157 (by decide) ?_
  refine lv_iconst (v := 3) hx hb dL_refused_158 (by decide) ?_
  refine qVI (al := []) (As := [.int 0, .int 3]) (rest := [.int 0, .ref (Q 0)]) X Y (k_crane_0 hI_16 3 ((S 0).1 5) rfl) gL_refused_X7_crane rfl hdq_X7_crane ⟨Nat.le_of_ble_eq_true rfl, Nat.le_of_ble_eq_true rfl⟩ hI_16.head rfl rfl hl.1 (Nat.le_of_ble_eq_true rfl) ⟨Nat.le_of_ble_eq_true rfl, Nat.le_of_ble_eq_true rfl⟩ dL_refused_159 (fun wa_17 H locs hI_17 hw_17 Y => ?_)
  have hW_17 := hW_16.trans hw_17
  refine qVI (al := []) (As := [.int 0, .int ((S 0).1 5)]) (rest := []) X Y (k_load_0_no hI_17 ((S 0).1 5) (-2) (loadK hl5) (fun _ _ z => z rfl)) gL_refused_X7_load rfl hdq_X7_load ⟨Nat.le_of_ble_eq_true rfl, Nat.le_of_ble_eq_true rfl⟩ hI_17.head rfl rfl hl.1 (Nat.le_of_ble_eq_true rfl) ⟨Nat.le_of_ble_eq_true rfl, Nat.le_of_ble_eq_true rfl⟩ dL_refused_162 (fun wa_18 H locs hI_18 hw_18 Y => ?_)
  have hW_18 := hW_17.trans hw_18
  refine lv_bipush (v := (-2)) hx hb dL_refused_165 (by decide) ?_
  refine lv_icmp_ne (tgt := 241) hx hb dL_refused_167 (by decide) (fun c_ => absurd (by decide) c_) (fun _ => ?_)
  refine lv_aload_n hx hb dL_refused_170 rfl (lv_at hl 2 rfl) ?_
  refine lv_bipush (v := 21) hx hb dL_refused_171 (by decide) ?_
  refine qVI (al := []) (As := [.int 21]) (rest := []) X Y (k_coupleOn_no hI_18 21 (-1) rfl (by decide) (fun z => absurd z (by decide))) gL_refused_X7_couple rfl hdq_X7_couple ⟨Nat.le_of_ble_eq_true rfl, Nat.le_of_ble_eq_true rfl⟩ hI_18.head rfl rfl hl.1 (Nat.le_of_ble_eq_true rfl) ⟨Nat.le_of_ble_eq_true rfl, Nat.le_of_ble_eq_true rfl⟩ dL_refused_173 (fun wa_19 H locs hI_19 hw_19 Y => ?_)
  have hW_19 := hW_18.trans hw_19
  refine lv_iconst (v := (-1)) hx hb dL_refused_176 (by decide) ?_
  refine lv_icmp_ne (tgt := 241) hx hb dL_refused_177 (by decide) (fun c_ => absurd (by decide) c_) (fun _ => ?_)
  refine lv_aload_n hx hb dL_refused_180 rfl (lv_at hl 2 rfl) ?_
  refine lv_bipush (v := (-2)) hx hb dL_refused_181 (by decide) ?_
  refine qVI (al := []) (As := [.int (-2)]) (rest := []) X Y (k_coupleOff_no hI_19 (-2) (-1) rfl (by decide) (fun z => absurd z (by decide))) gL_refused_X7_couple rfl hdq_X7_couple ⟨Nat.le_of_ble_eq_true rfl, Nat.le_of_ble_eq_true rfl⟩ hI_19.head rfl rfl hl.1 (Nat.le_of_ble_eq_true rfl) ⟨Nat.le_of_ble_eq_true rfl, Nat.le_of_ble_eq_true rfl⟩ dL_refused_183 (fun wa_20 H locs hI_20 hw_20 Y => ?_)
  have hW_20 := hW_19.trans hw_20
  refine lv_iconst (v := (-1)) hx hb dL_refused_186 (by decide) ?_
  refine lv_icmp_ne (tgt := 241) hx hb dL_refused_187 (by decide) (fun c_ => absurd (by decide) c_) (fun _ => ?_)
  refine lv_aload_n hx hb dL_refused_190 rfl (lv_at hl 2 rfl) ?_
  refine lv_aload_n hx hb dL_refused_191 rfl (lv_at hl 2 rfl) ?_
  refine lv_iconst (v := 5) hx hb dL_refused_192 (by decide) ?_
  refine qVI (al := []) (As := [.int 5]) (rest := [.ref (Q 0)]) X Y (k_count hI_20 5 ((S 0).1 1) rfl) gL_refused_X7_count rfl hdq_X7_count ⟨Nat.le_of_ble_eq_true rfl, Nat.le_of_ble_eq_true rfl⟩ hI_20.head rfl rfl hl.1 (Nat.le_of_ble_eq_true rfl) ⟨Nat.le_of_ble_eq_true rfl, Nat.le_of_ble_eq_true rfl⟩ dL_refused_193 (fun wa_21 H locs hI_21 hw_21 Y => ?_)
  have hW_21 := hW_20.trans hw_21
  refine lv_bipush (v := (-4)) hx hb dL_refused_196 (by decide) ?_
  refine lv_icmp_ne (tgt := 205) hx hb dL_refused_198 (by decide) (fun c_22 => ?_) (fun c_22 => ?_)
  · have c_22 : ¬ (((S 0).1 1) = (-4)) := c_22
    refine lv_aload_n hx hb dL_refused_205 rfl (lv_at hl 2 rfl) ?_
    refine lv_iconst (v := 5) hx hb dL_refused_206 (by decide) ?_
    refine qVI (al := []) (As := [.int 5]) (rest := [.ref (Q 0)]) X Y (k_count hI_21 5 ((S 0).1 1) rfl) gL_refused_X7_count rfl hdq_X7_count ⟨Nat.le_of_ble_eq_true rfl, Nat.le_of_ble_eq_true rfl⟩ hI_21.head rfl rfl hl.1 (Nat.le_of_ble_eq_true rfl) ⟨Nat.le_of_ble_eq_true rfl, Nat.le_of_ble_eq_true rfl⟩ dL_refused_207 (fun wa_23 H locs hI_23 hw_23 Y => ?_)
    have hW_23 := hW_21.trans hw_23
    refine qVI (al := []) (As := [.int ((S 0).1 1)]) (rest := []) X Y (k_coupleOn_no hI_23 ((S 0).1 1) (-2) (coupK (hlv c_22)) (by rw [leI, zI]; exact (hlv c_22).1) (fun _ z => z rfl)) gL_refused_X7_couple rfl hdq_X7_couple ⟨Nat.le_of_ble_eq_true rfl, Nat.le_of_ble_eq_true rfl⟩ hI_23.head rfl rfl hl.1 (Nat.le_of_ble_eq_true rfl) ⟨Nat.le_of_ble_eq_true rfl, Nat.le_of_ble_eq_true rfl⟩ dL_refused_210 (fun wa_24 H locs hI_24 hw_24 Y => ?_)
    have hW_24 := hW_23.trans hw_24
    refine lv_bipush (v := (-2)) hx hb dL_refused_213 (by decide) ?_
    refine lv_icmp_ne (tgt := 241) hx hb dL_refused_215 (by decide) (fun c_ => absurd (by decide) c_) (fun _ => ?_)
    refine lv_aload_n hx hb dL_refused_218 rfl (lv_at hl 2 rfl) ?_
    refine lv_iconst (v := 0) hx hb dL_refused_219 (by decide) ?_
    refine qVI (al := []) (As := [.int 0]) (rest := []) X Y (k_tick_no hI_24 0 (-1) rfl (fun z => absurd z (by decide))) gL_refused_X7_tick rfl hdq_X7_tick ⟨Nat.le_of_ble_eq_true rfl, Nat.le_of_ble_eq_true rfl⟩ hI_24.head rfl rfl hl.1 (Nat.le_of_ble_eq_true rfl) ⟨Nat.le_of_ble_eq_true rfl, Nat.le_of_ble_eq_true rfl⟩ dL_refused_220 (fun wa_25 H locs hI_25 hw_25 Y => ?_)
    have hW_25 := hW_24.trans hw_25
    refine lv_iconst (v := (-1)) hx hb dL_refused_223 (by decide) ?_
    refine lv_icmp_ne (tgt := 241) hx hb dL_refused_224 (by decide) (fun c_ => absurd (by decide) c_) (fun _ => ?_)
    refine lv_aload_n hx hb dL_refused_227 rfl (lv_at hl 2 rfl) ?_
    refine lv_bipush (v := 61) hx hb dL_refused_228 (by decide) ?_
    refine qVI (al := []) (As := [.int 61]) (rest := []) X Y (k_tick_no hI_25 61 (-1) rfl (fun z => absurd z (by decide))) gL_refused_X7_tick rfl hdq_X7_tick ⟨Nat.le_of_ble_eq_true rfl, Nat.le_of_ble_eq_true rfl⟩ hI_25.head rfl rfl hl.1 (Nat.le_of_ble_eq_true rfl) ⟨Nat.le_of_ble_eq_true rfl, Nat.le_of_ble_eq_true rfl⟩ dL_refused_230 (fun wa_26 H locs hI_26 hw_26 Y => ?_)
    have hW_26 := hW_25.trans hw_26
    refine lv_iconst (v := (-1)) hx hb dL_refused_233 (by decide) ?_
    refine lv_icmp_ne (tgt := 241) hx hb dL_refused_234 (by decide) (fun c_ => absurd (by decide) c_) (fun _ => ?_)
    refine lv_iconst (v := 1) hx hb dL_refused_237 (by decide) ?_
    refine lv_goto (tgt := 242) hx hb dL_refused_238 (by decide) ?_
    refine lv_istore (lv' := [(4, .int 1), (3, .int ud), (1, .long (wh r (S 0))), (0, .ref (Q 0))]) hx hb dL_refused_242 hl (by decide) rfl (fun ls hl => ?_)
    refine lv_iload hx hb dL_refused_244 (lv_at hl 0 rfl) ?_
    refine lv_if_eq (tgt := 425) hx hb dL_refused_246 (by decide) (fun c_ => absurd c_ (by decide)) (fun _ => ?_)
    refine lv_aload_n hx hb dL_refused_249 rfl (lv_at hl 3 rfl) ?_
    refine lv_iconst (v := 2) hx hb dL_refused_250 (by decide) ?_
    refine lv_iconst (v := 0) hx hb dL_refused_251 (by decide) ?_
    refine qVI (al := []) (As := [.int 2, .int 0]) (rest := []) X Y (k_crane_b hI_26 2 0 (-1) rfl (by decide) (by decide)) gL_refused_X7_crane rfl hdq_X7_crane ⟨Nat.le_of_ble_eq_true rfl, Nat.le_of_ble_eq_true rfl⟩ hI_26.head rfl rfl hl.1 (Nat.le_of_ble_eq_true rfl) ⟨Nat.le_of_ble_eq_true rfl, Nat.le_of_ble_eq_true rfl⟩ dL_refused_252 (fun wa_27 H locs hI_27 hw_27 Y => ?_)
    have hW_27 := hW_26.trans hw_27
    refine lv_iconst (v := (-1)) hx hb dL_refused_255 (by decide) ?_
    refine lv_icmp_ne (tgt := 425) hx hb dL_refused_256 (by decide) (fun c_ => absurd (by decide) c_) (fun _ => ?_)
    refine lv_aload_n hx hb dL_refused_259 rfl (lv_at hl 3 rfl) ?_
    refine lv_iconst (v := 0) hx hb dL_refused_260 (by decide) ?_
    refine lv_bipush (v := 13) hx hb dL_refused_261 (by decide) ?_
    refine qVI (al := []) (As := [.int 0, .int 13]) (rest := []) X Y (k_crane_0 hI_27 13 (-1) rfl) gL_refused_X7_crane rfl hdq_X7_crane ⟨Nat.le_of_ble_eq_true rfl, Nat.le_of_ble_eq_true rfl⟩ hI_27.head rfl rfl hl.1 (Nat.le_of_ble_eq_true rfl) ⟨Nat.le_of_ble_eq_true rfl, Nat.le_of_ble_eq_true rfl⟩ dL_refused_263 (fun wa_28 H locs hI_28 hw_28 Y => ?_)
    have hW_28 := hW_27.trans hw_28
    refine lv_iconst (v := (-1)) hx hb dL_refused_266 (by decide) ?_
    refine lv_icmp_ne (tgt := 425) hx hb dL_refused_267 (by decide) (fun c_ => absurd (by decide) c_) (fun _ => ?_)
    refine lv_aload_n hx hb dL_refused_270 rfl (lv_at hl 3 rfl) ?_
    refine lv_iconst (v := 0) hx hb dL_refused_271 (by decide) ?_
    refine lv_iconst (v := (-1)) hx hb dL_refused_272 (by decide) ?_
    refine lv_iconst (v := 0) hx hb dL_refused_273 (by decide) ?_
    refine qVI (al := []) (As := [.int 0, .int (-1), .int 0]) (rest := []) X Y (k_stepOf_0 hI_28 (-1) 0 (-1) rfl) gL_refused_X7_stepOf rfl hdq_X7_stepOf ⟨Nat.le_of_ble_eq_true rfl, Nat.le_of_ble_eq_true rfl⟩ hI_28.head rfl rfl hl.1 (Nat.le_of_ble_eq_true rfl) ⟨Nat.le_of_ble_eq_true rfl, Nat.le_of_ble_eq_true rfl⟩ dL_refused_274 (fun wa_29 H locs hI_29 hw_29 Y => ?_)
    have hW_29 := hW_28.trans hw_29
    refine lv_iconst (v := (-1)) hx hb dL_refused_277 (by decide) ?_
    refine lv_icmp_ne (tgt := 425) hx hb dL_refused_278 (by decide) (fun c_ => absurd (by decide) c_) (fun _ => ?_)
    refine lv_aload_n hx hb dL_refused_281 rfl (lv_at hl 3 rfl) ?_
    refine lv_iconst (v := 0) hx hb dL_refused_282 (by decide) ?_
    refine lv_iconst (v := 0) hx hb dL_refused_283 (by decide) ?_
    refine lv_iconst (v := 2) hx hb dL_refused_284 (by decide) ?_
    refine qVI (al := []) (As := [.int 0, .int 0, .int 2]) (rest := []) X Y (k_stepOf_0 hI_29 0 2 (-1) rfl) gL_refused_X7_stepOf rfl hdq_X7_stepOf ⟨Nat.le_of_ble_eq_true rfl, Nat.le_of_ble_eq_true rfl⟩ hI_29.head rfl rfl hl.1 (Nat.le_of_ble_eq_true rfl) ⟨Nat.le_of_ble_eq_true rfl, Nat.le_of_ble_eq_true rfl⟩ dL_refused_285 (fun wa_30 H locs hI_30 hw_30 Y => ?_)
    have hW_30 := hW_29.trans hw_30
    refine lv_iconst (v := (-1)) hx hb dL_refused_288 (by decide) ?_
    refine lv_icmp_ne (tgt := 425) hx hb dL_refused_289 (by decide) (fun c_ => absurd (by decide) c_) (fun _ => ?_)
    refine lv_aload_n hx hb dL_refused_292 rfl (lv_at hl 3 rfl) ?_
    refine lv_iconst (v := 0) hx hb dL_refused_293 (by decide) ?_
    refine lv_iconst (v := 2) hx hb dL_refused_294 (by decide) ?_
    refine lv_iconst (v := 0) hx hb dL_refused_295 (by decide) ?_
    refine qVI (al := []) (As := [.int 0, .int 2, .int 0]) (rest := []) X Y (k_stepOf_0 hI_30 2 0 (-4) step2K) gL_refused_X7_stepOf rfl hdq_X7_stepOf ⟨Nat.le_of_ble_eq_true rfl, Nat.le_of_ble_eq_true rfl⟩ hI_30.head rfl rfl hl.1 (Nat.le_of_ble_eq_true rfl) ⟨Nat.le_of_ble_eq_true rfl, Nat.le_of_ble_eq_true rfl⟩ dL_refused_296 (fun wa_31 H locs hI_31 hw_31 Y => ?_)
    have hW_31 := hW_30.trans hw_31
    refine lv_bipush (v := (-4)) hx hb dL_refused_299 (by decide) ?_
    refine lv_icmp_ne (tgt := 425) hx hb dL_refused_301 (by decide) (fun c_ => absurd (by decide) c_) (fun _ => ?_)
    refine lv_aload_n hx hb dL_refused_304 rfl (lv_at hl 3 rfl) ?_
    refine lv_bipush (v := 41) hx hb dL_refused_305 (by decide) ?_
    refine qVI (al := []) (As := [.int 41]) (rest := []) X Y (k_stop hI_31 41 (-1) rfl) gL_refused_X7_stop rfl hdq_X7_stop ⟨Nat.le_of_ble_eq_true rfl, Nat.le_of_ble_eq_true rfl⟩ hI_31.head rfl rfl hl.1 (Nat.le_of_ble_eq_true rfl) ⟨Nat.le_of_ble_eq_true rfl, Nat.le_of_ble_eq_true rfl⟩ dL_refused_307 (fun wa_32 H locs hI_32 hw_32 Y => ?_)
    have hW_32 := hW_31.trans hw_32
    refine lv_iconst (v := (-1)) hx hb dL_refused_310 (by decide) ?_
    refine lv_icmp_ne (tgt := 425) hx hb dL_refused_311 (by decide) (fun c_ => absurd (by decide) c_) (fun _ => ?_)
    refine lv_aload_n hx hb dL_refused_314 rfl (lv_at hl 3 rfl) ?_
    refine lv_bipush (v := 9) hx hb dL_refused_315 (by decide) ?_
    refine qVI (al := []) (As := [.int 9]) (rest := []) X Y (k_half hI_32 9 (-1) rfl) gL_refused_X7_half rfl hdq_X7_half ⟨Nat.le_of_ble_eq_true rfl, Nat.le_of_ble_eq_true rfl⟩ hI_32.head rfl rfl hl.1 (Nat.le_of_ble_eq_true rfl) ⟨Nat.le_of_ble_eq_true rfl, Nat.le_of_ble_eq_true rfl⟩ dL_refused_317 (fun wa_33 H locs hI_33 hw_33 Y => ?_)
    have hW_33 := hW_32.trans hw_33
    refine lv_iconst (v := (-1)) hx hb dL_refused_320 (by decide) ?_
    refine lv_icmp_ne (tgt := 425) hx hb dL_refused_321 (by decide) (fun c_ => absurd (by decide) c_) (fun _ => ?_)
    refine lv_aload_n hx hb dL_refused_324 rfl (lv_at hl 3 rfl) ?_
    refine lv_bipush (v := 61) hx hb dL_refused_325 (by decide) ?_
    refine qVI (al := []) (As := [.int 61]) (rest := []) X Y (k_half hI_33 61 (-1) rfl) gL_refused_X7_half rfl hdq_X7_half ⟨Nat.le_of_ble_eq_true rfl, Nat.le_of_ble_eq_true rfl⟩ hI_33.head rfl rfl hl.1 (Nat.le_of_ble_eq_true rfl) ⟨Nat.le_of_ble_eq_true rfl, Nat.le_of_ble_eq_true rfl⟩ dL_refused_327 (fun wa_34 H locs hI_34 hw_34 Y => ?_)
    have hW_34 := hW_33.trans hw_34
    refine lv_iconst (v := (-1)) hx hb dL_refused_330 (by decide) ?_
    refine lv_icmp_ne (tgt := 425) hx hb dL_refused_331 (by decide) (fun c_ => absurd (by decide) c_) (fun _ => ?_)
    refine lv_aload_n hx hb dL_refused_334 rfl (lv_at hl 3 rfl) ?_
    refine lv_iconst (v := 2) hx hb dL_refused_335 (by decide) ?_
    refine lv_iconst (v := 0) hx hb dL_refused_336 (by decide) ?_
    refine lv_iconst (v := 0) hx hb dL_refused_337 (by decide) ?_
    refine qVI (al := []) (As := [.int 2, .int 0, .int 0]) (rest := []) X Y (k_spot_b hI_34 2 0 0 (-1) rfl (by decide) (by decide)) gL_refused_X7_spot rfl hdq_X7_spot ⟨Nat.le_of_ble_eq_true rfl, Nat.le_of_ble_eq_true rfl⟩ hI_34.head rfl rfl hl.1 (Nat.le_of_ble_eq_true rfl) ⟨Nat.le_of_ble_eq_true rfl, Nat.le_of_ble_eq_true rfl⟩ dL_refused_338 (fun wa_35 H locs hI_35 hw_35 Y => ?_)
    have hW_35 := hW_34.trans hw_35
    refine lv_iconst (v := (-1)) hx hb dL_refused_341 (by decide) ?_
    refine lv_icmp_ne (tgt := 425) hx hb dL_refused_342 (by decide) (fun c_ => absurd (by decide) c_) (fun _ => ?_)
    refine lv_aload_n hx hb dL_refused_345 rfl (lv_at hl 3 rfl) ?_
    refine lv_iconst (v := 0) hx hb dL_refused_346 (by decide) ?_
    refine lv_bipush (v := (-2)) hx hb dL_refused_347 (by decide) ?_
    refine lv_iconst (v := 0) hx hb dL_refused_349 (by decide) ?_
    refine qVI (al := []) (As := [.int 0, .int (-2), .int 0]) (rest := []) X Y (k_spot_0 hI_35 (-2) 0 (-1) rfl) gL_refused_X7_spot rfl hdq_X7_spot ⟨Nat.le_of_ble_eq_true rfl, Nat.le_of_ble_eq_true rfl⟩ hI_35.head rfl rfl hl.1 (Nat.le_of_ble_eq_true rfl) ⟨Nat.le_of_ble_eq_true rfl, Nat.le_of_ble_eq_true rfl⟩ dL_refused_350 (fun wa_36 H locs hI_36 hw_36 Y => ?_)
    have hW_36 := hW_35.trans hw_36
    refine lv_iconst (v := (-1)) hx hb dL_refused_353 (by decide) ?_
    refine lv_icmp_ne (tgt := 425) hx hb dL_refused_354 (by decide) (fun c_ => absurd (by decide) c_) (fun _ => ?_)
    refine lv_aload_n hx hb dL_refused_357 rfl (lv_at hl 3 rfl) ?_
    refine lv_iconst (v := 0) hx hb dL_refused_358 (by decide) ?_
    refine lv_iconst (v := (-1)) hx hb dL_refused_359 (by decide) ?_
    refine lv_iconst (v := 0) hx hb dL_refused_360 (by decide) ?_
    refine qVI (al := []) (As := [.int 0, .int (-1), .int 0]) (rest := []) X Y (k_been_0 hI_36 (-1) 0 (-1) rfl) gL_refused_X7_been rfl hdq_X7_been ⟨Nat.le_of_ble_eq_true rfl, Nat.le_of_ble_eq_true rfl⟩ hI_36.head rfl rfl hl.1 (Nat.le_of_ble_eq_true rfl) ⟨Nat.le_of_ble_eq_true rfl, Nat.le_of_ble_eq_true rfl⟩ dL_refused_361 (fun wa_37 H locs hI_37 hw_37 Y => ?_)
    have hW_37 := hW_36.trans hw_37
    refine lv_iconst (v := (-1)) hx hb dL_refused_364 (by decide) ?_
    refine lv_icmp_ne (tgt := 425) hx hb dL_refused_365 (by decide) (fun c_ => absurd (by decide) c_) (fun _ => ?_)
    refine lv_aload_n hx hb dL_refused_368 rfl (lv_at hl 3 rfl) ?_
    refine lv_iconst (v := 0) hx hb dL_refused_369 (by decide) ?_
    refine lv_iconst (v := 0) hx hb dL_refused_370 (by decide) ?_
    refine lv_bipush (v := 100) hx hb dL_refused_371 (by decide) ?_
    refine qVI (al := []) (As := [.int 0, .int 0, .int 100]) (rest := []) X Y (k_been_0 hI_37 0 100 (-1) rfl) gL_refused_X7_been rfl hdq_X7_been ⟨Nat.le_of_ble_eq_true rfl, Nat.le_of_ble_eq_true rfl⟩ hI_37.head rfl rfl hl.1 (Nat.le_of_ble_eq_true rfl) ⟨Nat.le_of_ble_eq_true rfl, Nat.le_of_ble_eq_true rfl⟩ dL_refused_373 (fun wa_38 H locs hI_38 hw_38 Y => ?_)
    have hW_38 := hW_37.trans hw_38
    refine lv_iconst (v := (-1)) hx hb dL_refused_376 (by decide) ?_
    refine lv_icmp_ne (tgt := 425) hx hb dL_refused_377 (by decide) (fun c_ => absurd (by decide) c_) (fun _ => ?_)
    refine lv_aload_n hx hb dL_refused_380 rfl (lv_at hl 3 rfl) ?_
    refine lv_iconst (v := 1) hx hb dL_refused_381 (by decide) ?_
    refine lv_iconst (v := 2) hx hb dL_refused_382 (by decide) ?_
    refine lv_iconst (v := 0) hx hb dL_refused_383 (by decide) ?_
    refine qVI (al := []) (As := [.int 1, .int 2, .int 0]) (rest := []) X Y (k_ahead_b hI_38 1 2 0 (-1) rfl (by decide) (by decide)) gL_refused_X7_ahead rfl hdq_X7_ahead ⟨Nat.le_of_ble_eq_true rfl, Nat.le_of_ble_eq_true rfl⟩ hI_38.head rfl rfl hl.1 (Nat.le_of_ble_eq_true rfl) ⟨Nat.le_of_ble_eq_true rfl, Nat.le_of_ble_eq_true rfl⟩ dL_refused_384 (fun wa_39 H locs hI_39 hw_39 Y => ?_)
    have hW_39 := hW_38.trans hw_39
    refine lv_iconst (v := (-1)) hx hb dL_refused_387 (by decide) ?_
    refine lv_icmp_ne (tgt := 425) hx hb dL_refused_388 (by decide) (fun c_ => absurd (by decide) c_) (fun _ => ?_)
    refine lv_aload_n hx hb dL_refused_391 rfl (lv_at hl 3 rfl) ?_
    refine lv_iconst (v := (-1)) hx hb dL_refused_392 (by decide) ?_
    refine qVI (al := []) (As := [.int (-1)]) (rest := []) X Y (k_quiet_b hI_39 (-1) (-1) rfl (by decide) (by decide)) gL_refused_X7_quiet rfl hdq_X7_quiet ⟨Nat.le_of_ble_eq_true rfl, Nat.le_of_ble_eq_true rfl⟩ hI_39.head rfl rfl hl.1 (Nat.le_of_ble_eq_true rfl) ⟨Nat.le_of_ble_eq_true rfl, Nat.le_of_ble_eq_true rfl⟩ dL_refused_393 (fun wa_40 H locs hI_40 hw_40 Y => ?_)
    have hW_40 := hW_39.trans hw_40
    refine lv_iconst (v := (-1)) hx hb dL_refused_396 (by decide) ?_
    refine lv_icmp_ne (tgt := 425) hx hb dL_refused_397 (by decide) (fun c_ => absurd (by decide) c_) (fun _ => ?_)
    refine lv_aload_n hx hb dL_refused_400 rfl (lv_at hl 3 rfl) ?_
    refine lv_iconst (v := 2) hx hb dL_refused_401 (by decide) ?_
    refine lv_iconst (v := 0) hx hb dL_refused_402 (by decide) ?_
    refine lv_iconst (v := 0) hx hb dL_refused_403 (by decide) ?_
    refine qVI (al := []) (As := [.int 2, .int 0, .int 0]) (rest := []) X Y (k_best_b hI_40 2 0 0 (-1) rfl (by decide) (by decide)) gL_refused_X7_best rfl hdq_X7_best ⟨Nat.le_of_ble_eq_true rfl, Nat.le_of_ble_eq_true rfl⟩ hI_40.head rfl rfl hl.1 (Nat.le_of_ble_eq_true rfl) ⟨Nat.le_of_ble_eq_true rfl, Nat.le_of_ble_eq_true rfl⟩ dL_refused_404 (fun wa_41 H locs hI_41 hw_41 Y => ?_)
    have hW_41 := hW_40.trans hw_41
    refine lv_iconst (v := (-1)) hx hb dL_refused_407 (by decide) ?_
    refine lv_icmp_ne (tgt := 425) hx hb dL_refused_408 (by decide) (fun c_ => absurd (by decide) c_) (fun _ => ?_)
    refine lv_aload_n hx hb dL_refused_411 rfl (lv_at hl 3 rfl) ?_
    refine lv_bipush (v := 10) hx hb dL_refused_412 (by decide) ?_
    refine qVI (al := []) (As := [.int 10]) (rest := []) X Y (k_count hI_41 10 (-1) rfl) gL_refused_X7_count rfl hdq_X7_count ⟨Nat.le_of_ble_eq_true rfl, Nat.le_of_ble_eq_true rfl⟩ hI_41.head rfl rfl hl.1 (Nat.le_of_ble_eq_true rfl) ⟨Nat.le_of_ble_eq_true rfl, Nat.le_of_ble_eq_true rfl⟩ dL_refused_414 (fun wa_42 H locs hI_42 hw_42 Y => ?_)
    have hW_42 := hW_41.trans hw_42
    refine lv_iconst (v := (-1)) hx hb dL_refused_417 (by decide) ?_
    refine lv_icmp_ne (tgt := 425) hx hb dL_refused_418 (by decide) (fun c_ => absurd (by decide) c_) (fun _ => ?_)
    refine lv_iconst (v := 1) hx hb dL_refused_421 (by decide) ?_
    refine lv_goto (tgt := 426) hx hb dL_refused_422 (by decide) ?_
    refine lv_istore (lv' := [(4, .int 1), (3, .int ud), (1, .long (wh r (S 0))), (0, .ref (Q 0))]) hx hb dL_refused_426 hl (by decide) rfl (fun ls hl => ?_)
    refine lv_iload hx hb dL_refused_428 (lv_at hl 0 rfl) ?_
    refine lv_if_eq (tgt := 456) hx hb dL_refused_430 (by decide) (fun c_ => absurd c_ (by decide)) (fun _ => ?_)
    refine lv_aload_n hx hb dL_refused_433 rfl (lv_at hl 3 rfl) ?_
    refine qSL (al := []) (wa := wa_42) (As := [.ref (Q 0)]) (rest := []) (c2 := 0) (s2 := 0) X Y (c_whole l D cyC cyI sb sL xs hI_42 hm) gL_refused_L_whole rfl ⟨rfl, rfl⟩ hdq_L_whole.2 ⟨Nat.le_of_ble_eq_true rfl, Nat.le_of_ble_eq_true rfl⟩ rfl rfl rfl rfl hl.1 (Nat.le_of_ble_eq_true rfl) ⟨Nat.le_of_ble_eq_true rfl, Nat.le_of_ble_eq_true rfl⟩ dL_refused_434 (fun r_44 wa_43 H locs hI_43 hw_43 Y => ?_)
    have hW_43 := hW_42.trans hw_43
    obtain ⟨er_44, hI_43⟩ := hI_43
    subst er_44
    refine lv_lload_n hx hb dL_refused_437 rfl (lv_at hl 2 rfl) ?_
    refine qCmp hx hb rfl dL_refused_438 ?_
    refine lv_if_ne (tgt := 456) hx hb dL_refused_439 (by decide) (fun c_ => absurd (by decide) c_) (fun _ => ?_)
    refine lv_aload_n hx hb dL_refused_442 rfl (lv_at hl 3 rfl) ?_
    refine lv_bipush (v := 7) hx hb dL_refused_443 (by decide) ?_
    refine qVI (al := []) (As := [.int 7]) (rest := []) X Y (k_count hI_43 7 ud rfl) gL_refused_X7_count rfl hdq_X7_count ⟨Nat.le_of_ble_eq_true rfl, Nat.le_of_ble_eq_true rfl⟩ hI_43.head rfl rfl hl.1 (Nat.le_of_ble_eq_true rfl) ⟨Nat.le_of_ble_eq_true rfl, Nat.le_of_ble_eq_true rfl⟩ dL_refused_445 (fun wa_45 H locs hI_45 hw_45 Y => ?_)
    have hW_45 := hW_43.trans hw_45
    refine lv_iload_n hx hb dL_refused_448 rfl (lv_at hl 1 rfl) ?_
    refine lv_icmp_ne (tgt := 456) hx hb dL_refused_449 (by decide) (fun c_46 => ?_) (fun c_46 => ?_)
    · exact absurd rfl (show ¬ (ud = ud) from c_46)
    · have c_46 : ud = ud := c_46
      refine lv_iconst (v := 1) hx hb dL_refused_452 (by decide) ?_
      refine lv_goto (tgt := 457) hx hb dL_refused_453 (by decide) ?_
      exact qEndZ X Y hr hlk dL_refused_457 rfl (⟨rfl, hI_45⟩) hW_45 (Nat.le_of_ble_eq_true rfl) (Nat.le_of_ble_eq_true rfl)
  · have c_22 : ((S 0).1 1) = (-4) := c_22
    refine lv_iconst (v := (-1)) hx hb dL_refused_201 (by decide) ?_
    refine lv_goto (tgt := 210) hx hb dL_refused_202 (by decide) ?_
    refine qVI (al := []) (As := [.int (-1)]) (rest := []) X Y (k_coupleOff_no hI_21 (-1) (-2) rfl (by decide) (fun _ z => z c_22)) gL_refused_X7_couple rfl hdq_X7_couple ⟨Nat.le_of_ble_eq_true rfl, Nat.le_of_ble_eq_true rfl⟩ hI_21.head rfl rfl hl.1 (Nat.le_of_ble_eq_true rfl) ⟨Nat.le_of_ble_eq_true rfl, Nat.le_of_ble_eq_true rfl⟩ dL_refused_210 (fun wa_47 H locs hI_47 hw_47 Y => ?_)
    have hW_47 := hW_21.trans hw_47
    refine lv_bipush (v := (-2)) hx hb dL_refused_213 (by decide) ?_
    refine lv_icmp_ne (tgt := 241) hx hb dL_refused_215 (by decide) (fun c_ => absurd (by decide) c_) (fun _ => ?_)
    refine lv_aload_n hx hb dL_refused_218 rfl (lv_at hl 2 rfl) ?_
    refine lv_iconst (v := 0) hx hb dL_refused_219 (by decide) ?_
    refine qVI (al := []) (As := [.int 0]) (rest := []) X Y (k_tick_no hI_47 0 (-1) rfl (fun z => absurd z (by decide))) gL_refused_X7_tick rfl hdq_X7_tick ⟨Nat.le_of_ble_eq_true rfl, Nat.le_of_ble_eq_true rfl⟩ hI_47.head rfl rfl hl.1 (Nat.le_of_ble_eq_true rfl) ⟨Nat.le_of_ble_eq_true rfl, Nat.le_of_ble_eq_true rfl⟩ dL_refused_220 (fun wa_48 H locs hI_48 hw_48 Y => ?_)
    have hW_48 := hW_47.trans hw_48
    refine lv_iconst (v := (-1)) hx hb dL_refused_223 (by decide) ?_
    refine lv_icmp_ne (tgt := 241) hx hb dL_refused_224 (by decide) (fun c_ => absurd (by decide) c_) (fun _ => ?_)
    refine lv_aload_n hx hb dL_refused_227 rfl (lv_at hl 2 rfl) ?_
    refine lv_bipush (v := 61) hx hb dL_refused_228 (by decide) ?_
    refine qVI (al := []) (As := [.int 61]) (rest := []) X Y (k_tick_no hI_48 61 (-1) rfl (fun z => absurd z (by decide))) gL_refused_X7_tick rfl hdq_X7_tick ⟨Nat.le_of_ble_eq_true rfl, Nat.le_of_ble_eq_true rfl⟩ hI_48.head rfl rfl hl.1 (Nat.le_of_ble_eq_true rfl) ⟨Nat.le_of_ble_eq_true rfl, Nat.le_of_ble_eq_true rfl⟩ dL_refused_230 (fun wa_49 H locs hI_49 hw_49 Y => ?_)
    have hW_49 := hW_48.trans hw_49
    refine lv_iconst (v := (-1)) hx hb dL_refused_233 (by decide) ?_
    refine lv_icmp_ne (tgt := 241) hx hb dL_refused_234 (by decide) (fun c_ => absurd (by decide) c_) (fun _ => ?_)
    refine lv_iconst (v := 1) hx hb dL_refused_237 (by decide) ?_
    refine lv_goto (tgt := 242) hx hb dL_refused_238 (by decide) ?_
    refine lv_istore (lv' := [(4, .int 1), (3, .int ud), (1, .long (wh r (S 0))), (0, .ref (Q 0))]) hx hb dL_refused_242 hl (by decide) rfl (fun ls hl => ?_)
    refine lv_iload hx hb dL_refused_244 (lv_at hl 0 rfl) ?_
    refine lv_if_eq (tgt := 425) hx hb dL_refused_246 (by decide) (fun c_ => absurd c_ (by decide)) (fun _ => ?_)
    refine lv_aload_n hx hb dL_refused_249 rfl (lv_at hl 3 rfl) ?_
    refine lv_iconst (v := 2) hx hb dL_refused_250 (by decide) ?_
    refine lv_iconst (v := 0) hx hb dL_refused_251 (by decide) ?_
    refine qVI (al := []) (As := [.int 2, .int 0]) (rest := []) X Y (k_crane_b hI_49 2 0 (-1) rfl (by decide) (by decide)) gL_refused_X7_crane rfl hdq_X7_crane ⟨Nat.le_of_ble_eq_true rfl, Nat.le_of_ble_eq_true rfl⟩ hI_49.head rfl rfl hl.1 (Nat.le_of_ble_eq_true rfl) ⟨Nat.le_of_ble_eq_true rfl, Nat.le_of_ble_eq_true rfl⟩ dL_refused_252 (fun wa_50 H locs hI_50 hw_50 Y => ?_)
    have hW_50 := hW_49.trans hw_50
    refine lv_iconst (v := (-1)) hx hb dL_refused_255 (by decide) ?_
    refine lv_icmp_ne (tgt := 425) hx hb dL_refused_256 (by decide) (fun c_ => absurd (by decide) c_) (fun _ => ?_)
    refine lv_aload_n hx hb dL_refused_259 rfl (lv_at hl 3 rfl) ?_
    refine lv_iconst (v := 0) hx hb dL_refused_260 (by decide) ?_
    refine lv_bipush (v := 13) hx hb dL_refused_261 (by decide) ?_
    refine qVI (al := []) (As := [.int 0, .int 13]) (rest := []) X Y (k_crane_0 hI_50 13 (-1) rfl) gL_refused_X7_crane rfl hdq_X7_crane ⟨Nat.le_of_ble_eq_true rfl, Nat.le_of_ble_eq_true rfl⟩ hI_50.head rfl rfl hl.1 (Nat.le_of_ble_eq_true rfl) ⟨Nat.le_of_ble_eq_true rfl, Nat.le_of_ble_eq_true rfl⟩ dL_refused_263 (fun wa_51 H locs hI_51 hw_51 Y => ?_)
    have hW_51 := hW_50.trans hw_51
    refine lv_iconst (v := (-1)) hx hb dL_refused_266 (by decide) ?_
    refine lv_icmp_ne (tgt := 425) hx hb dL_refused_267 (by decide) (fun c_ => absurd (by decide) c_) (fun _ => ?_)
    refine lv_aload_n hx hb dL_refused_270 rfl (lv_at hl 3 rfl) ?_
    refine lv_iconst (v := 0) hx hb dL_refused_271 (by decide) ?_
    refine lv_iconst (v := (-1)) hx hb dL_refused_272 (by decide) ?_
    refine lv_iconst (v := 0) hx hb dL_refused_273 (by decide) ?_
    refine qVI (al := []) (As := [.int 0, .int (-1), .int 0]) (rest := []) X Y (k_stepOf_0 hI_51 (-1) 0 (-1) rfl) gL_refused_X7_stepOf rfl hdq_X7_stepOf ⟨Nat.le_of_ble_eq_true rfl, Nat.le_of_ble_eq_true rfl⟩ hI_51.head rfl rfl hl.1 (Nat.le_of_ble_eq_true rfl) ⟨Nat.le_of_ble_eq_true rfl, Nat.le_of_ble_eq_true rfl⟩ dL_refused_274 (fun wa_52 H locs hI_52 hw_52 Y => ?_)
    have hW_52 := hW_51.trans hw_52
    refine lv_iconst (v := (-1)) hx hb dL_refused_277 (by decide) ?_
    refine lv_icmp_ne (tgt := 425) hx hb dL_refused_278 (by decide) (fun c_ => absurd (by decide) c_) (fun _ => ?_)
    refine lv_aload_n hx hb dL_refused_281 rfl (lv_at hl 3 rfl) ?_
    refine lv_iconst (v := 0) hx hb dL_refused_282 (by decide) ?_
    refine lv_iconst (v := 0) hx hb dL_refused_283 (by decide) ?_
    refine lv_iconst (v := 2) hx hb dL_refused_284 (by decide) ?_
    refine qVI (al := []) (As := [.int 0, .int 0, .int 2]) (rest := []) X Y (k_stepOf_0 hI_52 0 2 (-1) rfl) gL_refused_X7_stepOf rfl hdq_X7_stepOf ⟨Nat.le_of_ble_eq_true rfl, Nat.le_of_ble_eq_true rfl⟩ hI_52.head rfl rfl hl.1 (Nat.le_of_ble_eq_true rfl) ⟨Nat.le_of_ble_eq_true rfl, Nat.le_of_ble_eq_true rfl⟩ dL_refused_285 (fun wa_53 H locs hI_53 hw_53 Y => ?_)
    have hW_53 := hW_52.trans hw_53
    refine lv_iconst (v := (-1)) hx hb dL_refused_288 (by decide) ?_
    refine lv_icmp_ne (tgt := 425) hx hb dL_refused_289 (by decide) (fun c_ => absurd (by decide) c_) (fun _ => ?_)
    refine lv_aload_n hx hb dL_refused_292 rfl (lv_at hl 3 rfl) ?_
    refine lv_iconst (v := 0) hx hb dL_refused_293 (by decide) ?_
    refine lv_iconst (v := 2) hx hb dL_refused_294 (by decide) ?_
    refine lv_iconst (v := 0) hx hb dL_refused_295 (by decide) ?_
    refine qVI (al := []) (As := [.int 0, .int 2, .int 0]) (rest := []) X Y (k_stepOf_0 hI_53 2 0 (-4) step2K) gL_refused_X7_stepOf rfl hdq_X7_stepOf ⟨Nat.le_of_ble_eq_true rfl, Nat.le_of_ble_eq_true rfl⟩ hI_53.head rfl rfl hl.1 (Nat.le_of_ble_eq_true rfl) ⟨Nat.le_of_ble_eq_true rfl, Nat.le_of_ble_eq_true rfl⟩ dL_refused_296 (fun wa_54 H locs hI_54 hw_54 Y => ?_)
    have hW_54 := hW_53.trans hw_54
    refine lv_bipush (v := (-4)) hx hb dL_refused_299 (by decide) ?_
    refine lv_icmp_ne (tgt := 425) hx hb dL_refused_301 (by decide) (fun c_ => absurd (by decide) c_) (fun _ => ?_)
    refine lv_aload_n hx hb dL_refused_304 rfl (lv_at hl 3 rfl) ?_
    refine lv_bipush (v := 41) hx hb dL_refused_305 (by decide) ?_
    refine qVI (al := []) (As := [.int 41]) (rest := []) X Y (k_stop hI_54 41 (-1) rfl) gL_refused_X7_stop rfl hdq_X7_stop ⟨Nat.le_of_ble_eq_true rfl, Nat.le_of_ble_eq_true rfl⟩ hI_54.head rfl rfl hl.1 (Nat.le_of_ble_eq_true rfl) ⟨Nat.le_of_ble_eq_true rfl, Nat.le_of_ble_eq_true rfl⟩ dL_refused_307 (fun wa_55 H locs hI_55 hw_55 Y => ?_)
    have hW_55 := hW_54.trans hw_55
    refine lv_iconst (v := (-1)) hx hb dL_refused_310 (by decide) ?_
    refine lv_icmp_ne (tgt := 425) hx hb dL_refused_311 (by decide) (fun c_ => absurd (by decide) c_) (fun _ => ?_)
    refine lv_aload_n hx hb dL_refused_314 rfl (lv_at hl 3 rfl) ?_
    refine lv_bipush (v := 9) hx hb dL_refused_315 (by decide) ?_
    refine qVI (al := []) (As := [.int 9]) (rest := []) X Y (k_half hI_55 9 (-1) rfl) gL_refused_X7_half rfl hdq_X7_half ⟨Nat.le_of_ble_eq_true rfl, Nat.le_of_ble_eq_true rfl⟩ hI_55.head rfl rfl hl.1 (Nat.le_of_ble_eq_true rfl) ⟨Nat.le_of_ble_eq_true rfl, Nat.le_of_ble_eq_true rfl⟩ dL_refused_317 (fun wa_56 H locs hI_56 hw_56 Y => ?_)
    have hW_56 := hW_55.trans hw_56
    refine lv_iconst (v := (-1)) hx hb dL_refused_320 (by decide) ?_
    refine lv_icmp_ne (tgt := 425) hx hb dL_refused_321 (by decide) (fun c_ => absurd (by decide) c_) (fun _ => ?_)
    refine lv_aload_n hx hb dL_refused_324 rfl (lv_at hl 3 rfl) ?_
    refine lv_bipush (v := 61) hx hb dL_refused_325 (by decide) ?_
    refine qVI (al := []) (As := [.int 61]) (rest := []) X Y (k_half hI_56 61 (-1) rfl) gL_refused_X7_half rfl hdq_X7_half ⟨Nat.le_of_ble_eq_true rfl, Nat.le_of_ble_eq_true rfl⟩ hI_56.head rfl rfl hl.1 (Nat.le_of_ble_eq_true rfl) ⟨Nat.le_of_ble_eq_true rfl, Nat.le_of_ble_eq_true rfl⟩ dL_refused_327 (fun wa_57 H locs hI_57 hw_57 Y => ?_)
    have hW_57 := hW_56.trans hw_57
    refine lv_iconst (v := (-1)) hx hb dL_refused_330 (by decide) ?_
    refine lv_icmp_ne (tgt := 425) hx hb dL_refused_331 (by decide) (fun c_ => absurd (by decide) c_) (fun _ => ?_)
    refine lv_aload_n hx hb dL_refused_334 rfl (lv_at hl 3 rfl) ?_
    refine lv_iconst (v := 2) hx hb dL_refused_335 (by decide) ?_
    refine lv_iconst (v := 0) hx hb dL_refused_336 (by decide) ?_
    refine lv_iconst (v := 0) hx hb dL_refused_337 (by decide) ?_
    refine qVI (al := []) (As := [.int 2, .int 0, .int 0]) (rest := []) X Y (k_spot_b hI_57 2 0 0 (-1) rfl (by decide) (by decide)) gL_refused_X7_spot rfl hdq_X7_spot ⟨Nat.le_of_ble_eq_true rfl, Nat.le_of_ble_eq_true rfl⟩ hI_57.head rfl rfl hl.1 (Nat.le_of_ble_eq_true rfl) ⟨Nat.le_of_ble_eq_true rfl, Nat.le_of_ble_eq_true rfl⟩ dL_refused_338 (fun wa_58 H locs hI_58 hw_58 Y => ?_)
    have hW_58 := hW_57.trans hw_58
    refine lv_iconst (v := (-1)) hx hb dL_refused_341 (by decide) ?_
    refine lv_icmp_ne (tgt := 425) hx hb dL_refused_342 (by decide) (fun c_ => absurd (by decide) c_) (fun _ => ?_)
    refine lv_aload_n hx hb dL_refused_345 rfl (lv_at hl 3 rfl) ?_
    refine lv_iconst (v := 0) hx hb dL_refused_346 (by decide) ?_
    refine lv_bipush (v := (-2)) hx hb dL_refused_347 (by decide) ?_
    refine lv_iconst (v := 0) hx hb dL_refused_349 (by decide) ?_
    refine qVI (al := []) (As := [.int 0, .int (-2), .int 0]) (rest := []) X Y (k_spot_0 hI_58 (-2) 0 (-1) rfl) gL_refused_X7_spot rfl hdq_X7_spot ⟨Nat.le_of_ble_eq_true rfl, Nat.le_of_ble_eq_true rfl⟩ hI_58.head rfl rfl hl.1 (Nat.le_of_ble_eq_true rfl) ⟨Nat.le_of_ble_eq_true rfl, Nat.le_of_ble_eq_true rfl⟩ dL_refused_350 (fun wa_59 H locs hI_59 hw_59 Y => ?_)
    have hW_59 := hW_58.trans hw_59
    refine lv_iconst (v := (-1)) hx hb dL_refused_353 (by decide) ?_
    refine lv_icmp_ne (tgt := 425) hx hb dL_refused_354 (by decide) (fun c_ => absurd (by decide) c_) (fun _ => ?_)
    refine lv_aload_n hx hb dL_refused_357 rfl (lv_at hl 3 rfl) ?_
    refine lv_iconst (v := 0) hx hb dL_refused_358 (by decide) ?_
    refine lv_iconst (v := (-1)) hx hb dL_refused_359 (by decide) ?_
    refine lv_iconst (v := 0) hx hb dL_refused_360 (by decide) ?_
    refine qVI (al := []) (As := [.int 0, .int (-1), .int 0]) (rest := []) X Y (k_been_0 hI_59 (-1) 0 (-1) rfl) gL_refused_X7_been rfl hdq_X7_been ⟨Nat.le_of_ble_eq_true rfl, Nat.le_of_ble_eq_true rfl⟩ hI_59.head rfl rfl hl.1 (Nat.le_of_ble_eq_true rfl) ⟨Nat.le_of_ble_eq_true rfl, Nat.le_of_ble_eq_true rfl⟩ dL_refused_361 (fun wa_60 H locs hI_60 hw_60 Y => ?_)
    have hW_60 := hW_59.trans hw_60
    refine lv_iconst (v := (-1)) hx hb dL_refused_364 (by decide) ?_
    refine lv_icmp_ne (tgt := 425) hx hb dL_refused_365 (by decide) (fun c_ => absurd (by decide) c_) (fun _ => ?_)
    refine lv_aload_n hx hb dL_refused_368 rfl (lv_at hl 3 rfl) ?_
    refine lv_iconst (v := 0) hx hb dL_refused_369 (by decide) ?_
    refine lv_iconst (v := 0) hx hb dL_refused_370 (by decide) ?_
    refine lv_bipush (v := 100) hx hb dL_refused_371 (by decide) ?_
    refine qVI (al := []) (As := [.int 0, .int 0, .int 100]) (rest := []) X Y (k_been_0 hI_60 0 100 (-1) rfl) gL_refused_X7_been rfl hdq_X7_been ⟨Nat.le_of_ble_eq_true rfl, Nat.le_of_ble_eq_true rfl⟩ hI_60.head rfl rfl hl.1 (Nat.le_of_ble_eq_true rfl) ⟨Nat.le_of_ble_eq_true rfl, Nat.le_of_ble_eq_true rfl⟩ dL_refused_373 (fun wa_61 H locs hI_61 hw_61 Y => ?_)
    have hW_61 := hW_60.trans hw_61
    refine lv_iconst (v := (-1)) hx hb dL_refused_376 (by decide) ?_
    refine lv_icmp_ne (tgt := 425) hx hb dL_refused_377 (by decide) (fun c_ => absurd (by decide) c_) (fun _ => ?_)
    refine lv_aload_n hx hb dL_refused_380 rfl (lv_at hl 3 rfl) ?_
    refine lv_iconst (v := 1) hx hb dL_refused_381 (by decide) ?_
    refine lv_iconst (v := 2) hx hb dL_refused_382 (by decide) ?_
    refine lv_iconst (v := 0) hx hb dL_refused_383 (by decide) ?_
    refine qVI (al := []) (As := [.int 1, .int 2, .int 0]) (rest := []) X Y (k_ahead_b hI_61 1 2 0 (-1) rfl (by decide) (by decide)) gL_refused_X7_ahead rfl hdq_X7_ahead ⟨Nat.le_of_ble_eq_true rfl, Nat.le_of_ble_eq_true rfl⟩ hI_61.head rfl rfl hl.1 (Nat.le_of_ble_eq_true rfl) ⟨Nat.le_of_ble_eq_true rfl, Nat.le_of_ble_eq_true rfl⟩ dL_refused_384 (fun wa_62 H locs hI_62 hw_62 Y => ?_)
    have hW_62 := hW_61.trans hw_62
    refine lv_iconst (v := (-1)) hx hb dL_refused_387 (by decide) ?_
    refine lv_icmp_ne (tgt := 425) hx hb dL_refused_388 (by decide) (fun c_ => absurd (by decide) c_) (fun _ => ?_)
    refine lv_aload_n hx hb dL_refused_391 rfl (lv_at hl 3 rfl) ?_
    refine lv_iconst (v := (-1)) hx hb dL_refused_392 (by decide) ?_
    refine qVI (al := []) (As := [.int (-1)]) (rest := []) X Y (k_quiet_b hI_62 (-1) (-1) rfl (by decide) (by decide)) gL_refused_X7_quiet rfl hdq_X7_quiet ⟨Nat.le_of_ble_eq_true rfl, Nat.le_of_ble_eq_true rfl⟩ hI_62.head rfl rfl hl.1 (Nat.le_of_ble_eq_true rfl) ⟨Nat.le_of_ble_eq_true rfl, Nat.le_of_ble_eq_true rfl⟩ dL_refused_393 (fun wa_63 H locs hI_63 hw_63 Y => ?_)
    have hW_63 := hW_62.trans hw_63
    refine lv_iconst (v := (-1)) hx hb dL_refused_396 (by decide) ?_
    refine lv_icmp_ne (tgt := 425) hx hb dL_refused_397 (by decide) (fun c_ => absurd (by decide) c_) (fun _ => ?_)
    refine lv_aload_n hx hb dL_refused_400 rfl (lv_at hl 3 rfl) ?_
    refine lv_iconst (v := 2) hx hb dL_refused_401 (by decide) ?_
    refine lv_iconst (v := 0) hx hb dL_refused_402 (by decide) ?_
    refine lv_iconst (v := 0) hx hb dL_refused_403 (by decide) ?_
    refine qVI (al := []) (As := [.int 2, .int 0, .int 0]) (rest := []) X Y (k_best_b hI_63 2 0 0 (-1) rfl (by decide) (by decide)) gL_refused_X7_best rfl hdq_X7_best ⟨Nat.le_of_ble_eq_true rfl, Nat.le_of_ble_eq_true rfl⟩ hI_63.head rfl rfl hl.1 (Nat.le_of_ble_eq_true rfl) ⟨Nat.le_of_ble_eq_true rfl, Nat.le_of_ble_eq_true rfl⟩ dL_refused_404 (fun wa_64 H locs hI_64 hw_64 Y => ?_)
    have hW_64 := hW_63.trans hw_64
    refine lv_iconst (v := (-1)) hx hb dL_refused_407 (by decide) ?_
    refine lv_icmp_ne (tgt := 425) hx hb dL_refused_408 (by decide) (fun c_ => absurd (by decide) c_) (fun _ => ?_)
    refine lv_aload_n hx hb dL_refused_411 rfl (lv_at hl 3 rfl) ?_
    refine lv_bipush (v := 10) hx hb dL_refused_412 (by decide) ?_
    refine qVI (al := []) (As := [.int 10]) (rest := []) X Y (k_count hI_64 10 (-1) rfl) gL_refused_X7_count rfl hdq_X7_count ⟨Nat.le_of_ble_eq_true rfl, Nat.le_of_ble_eq_true rfl⟩ hI_64.head rfl rfl hl.1 (Nat.le_of_ble_eq_true rfl) ⟨Nat.le_of_ble_eq_true rfl, Nat.le_of_ble_eq_true rfl⟩ dL_refused_414 (fun wa_65 H locs hI_65 hw_65 Y => ?_)
    have hW_65 := hW_64.trans hw_65
    refine lv_iconst (v := (-1)) hx hb dL_refused_417 (by decide) ?_
    refine lv_icmp_ne (tgt := 425) hx hb dL_refused_418 (by decide) (fun c_ => absurd (by decide) c_) (fun _ => ?_)
    refine lv_iconst (v := 1) hx hb dL_refused_421 (by decide) ?_
    refine lv_goto (tgt := 426) hx hb dL_refused_422 (by decide) ?_
    refine lv_istore (lv' := [(4, .int 1), (3, .int ud), (1, .long (wh r (S 0))), (0, .ref (Q 0))]) hx hb dL_refused_426 hl (by decide) rfl (fun ls hl => ?_)
    refine lv_iload hx hb dL_refused_428 (lv_at hl 0 rfl) ?_
    refine lv_if_eq (tgt := 456) hx hb dL_refused_430 (by decide) (fun c_ => absurd c_ (by decide)) (fun _ => ?_)
    refine lv_aload_n hx hb dL_refused_433 rfl (lv_at hl 3 rfl) ?_
    refine qSL (al := []) (wa := wa_65) (As := [.ref (Q 0)]) (rest := []) (c2 := 0) (s2 := 0) X Y (c_whole l D cyC cyI sb sL xs hI_65 hm) gL_refused_L_whole rfl ⟨rfl, rfl⟩ hdq_L_whole.2 ⟨Nat.le_of_ble_eq_true rfl, Nat.le_of_ble_eq_true rfl⟩ rfl rfl rfl rfl hl.1 (Nat.le_of_ble_eq_true rfl) ⟨Nat.le_of_ble_eq_true rfl, Nat.le_of_ble_eq_true rfl⟩ dL_refused_434 (fun r_67 wa_66 H locs hI_66 hw_66 Y => ?_)
    have hW_66 := hW_65.trans hw_66
    obtain ⟨er_67, hI_66⟩ := hI_66
    subst er_67
    refine lv_lload_n hx hb dL_refused_437 rfl (lv_at hl 2 rfl) ?_
    refine qCmp hx hb rfl dL_refused_438 ?_
    refine lv_if_ne (tgt := 456) hx hb dL_refused_439 (by decide) (fun c_ => absurd (by decide) c_) (fun _ => ?_)
    refine lv_aload_n hx hb dL_refused_442 rfl (lv_at hl 3 rfl) ?_
    refine lv_bipush (v := 7) hx hb dL_refused_443 (by decide) ?_
    refine qVI (al := []) (As := [.int 7]) (rest := []) X Y (k_count hI_66 7 ud rfl) gL_refused_X7_count rfl hdq_X7_count ⟨Nat.le_of_ble_eq_true rfl, Nat.le_of_ble_eq_true rfl⟩ hI_66.head rfl rfl hl.1 (Nat.le_of_ble_eq_true rfl) ⟨Nat.le_of_ble_eq_true rfl, Nat.le_of_ble_eq_true rfl⟩ dL_refused_445 (fun wa_68 H locs hI_68 hw_68 Y => ?_)
    have hW_68 := hW_66.trans hw_68
    refine lv_iload_n hx hb dL_refused_448 rfl (lv_at hl 1 rfl) ?_
    refine lv_icmp_ne (tgt := 456) hx hb dL_refused_449 (by decide) (fun c_69 => ?_) (fun c_69 => ?_)
    · exact absurd rfl (show ¬ (ud = ud) from c_69)
    · have c_69 : ud = ud := c_69
      refine lv_iconst (v := 1) hx hb dL_refused_452 (by decide) ?_
      refine lv_goto (tgt := 457) hx hb dL_refused_453 (by decide) ?_
      exact qEndZ X Y hr hlk dL_refused_457 rfl (⟨rfl, hI_68⟩) hW_68 (Nat.le_of_ble_eq_true rfl) (Nat.le_of_ble_eq_true rfl)
/-! the law's `isFault` and `faults` -/
theorem hdq_X7_fault : bD1 yX7_fault RX7 0 := by decide +kernel
theorem hdq_X7_lay : bD1 yX7_lay RX7 0 := by decide +kernel
theorem hdq_X7_wipe : bD1 yX7_wipe RX7 0 := by decide +kernel
set_option maxHeartbeats 4000000 in
set_option maxRecDepth 100000 in
theorem c_isFault (l : Launch) (D : va_G) (cyC cyI : ClassId) (sb sL : Nat) (xs : Nat → Int32) {Q : Nat → Nat} {r : Nat → Int32} {S : Nat → Sto} {ud : Int32} {T : List Int32} {wa : va_W} (hI : QW cyC cyI Q r S ud T wa) (pl : Int32) (hm : MmO (S 0)) (hR : (RD T).1 = pl) (hno : (RD T).1 = -4 → ¬ (s_holdsBoth (RD T).2.2.1 (RD T).2.2.2.1 (RD T).2.2.2.2.2.2.2.1 (RD T).2.2.2.2.2.2.2.2.2.2.1) = true) : QI l yL_isFault wsL_isFault { frames := 6, cells := 0, slots := 0, locals := 135 } D cyC cyI sb sL xs [.ref (Q 0), .int pl] wa 0 0 (fun rv w1 => rv = 1 ∧ QW cyC cyI Q r S ud [] w1) := by
  refine QI.of (cc := cL_isFault) (n := 7) (ret := (some .boolean)) (by decide +kernel) rfl (Nat.le_of_ble_eq_true rfl) ?_
  intro p_ e_ s_ m_ bl_ me_ cd_ A_ ls X Y hr hlk hl
  have hx := X.1.1.1
  have hb := X.1.1.2.1
  have hl : lv_has ls 7 [(0, .ref (Q 0)), (1, .int pl)] := hl
  have Y : bY D A_ s_.heap ([] ++ wa) s_.heap [] := Y
  have hW := Y.wpR
  refine lv_aload_n hx hb dL_isFault_0 rfl (lv_at hl 0 rfl) ?_
  refine qSL (al := []) (wa := wa) (As := [.ref (Q 0)]) (rest := []) (c2 := 0) (s2 := 0) X Y (c_whole l D cyC cyI sb sL xs hI hm) gL_isFault_L_whole rfl ⟨rfl, rfl⟩ hdq_L_whole.2 ⟨Nat.le_of_ble_eq_true rfl, Nat.le_of_ble_eq_true rfl⟩ rfl rfl rfl rfl hl.1 (Nat.le_of_ble_eq_true rfl) ⟨Nat.le_of_ble_eq_true rfl, Nat.le_of_ble_eq_true rfl⟩ dL_isFault_1 (fun r_2 wa_1 H locs hI_1 hw_1 Y => ?_)
  have hW_1 := hW.trans hw_1
  obtain ⟨er_2, hI_1⟩ := hI_1
  subst er_2
  refine lv_lstore_n (lv' := [(2, .long (wh r (S 0))), (0, .ref (Q 0)), (1, .int pl)]) hx hb dL_isFault_4 rfl hl (by decide) rfl (fun ls hl => ?_)
  refine lv_aload_n hx hb dL_isFault_5 rfl (lv_at hl 1 rfl) ?_
  refine lv_bipush (v := 8) hx hb dL_isFault_6 (by decide) ?_
  refine qVI (al := []) (As := [.int 8]) (rest := []) X Y (k_count hI_1 8 (nI (List.length T)) rfl) gL_isFault_X7_count rfl hdq_X7_count ⟨Nat.le_of_ble_eq_true rfl, Nat.le_of_ble_eq_true rfl⟩ hI_1.head rfl rfl hl.1 (Nat.le_of_ble_eq_true rfl) ⟨Nat.le_of_ble_eq_true rfl, Nat.le_of_ble_eq_true rfl⟩ dL_isFault_8 (fun wa_3 H locs hI_3 hw_3 Y => ?_)
  have hW_3 := hW_1.trans hw_3
  refine lv_istore (lv' := [(4, .int (nI (List.length T))), (2, .long (wh r (S 0))), (0, .ref (Q 0)), (1, .int pl)]) hx hb dL_isFault_11 hl (by decide) rfl (fun ls hl => ?_)
  refine lv_aload_n hx hb dL_isFault_13 rfl (lv_at hl 2 rfl) ?_
  refine lv_bipush (v := 7) hx hb dL_isFault_14 (by decide) ?_
  refine qVI (al := []) (As := [.int 7]) (rest := []) X Y (k_count hI_3 7 ud rfl) gL_isFault_X7_count rfl hdq_X7_count ⟨Nat.le_of_ble_eq_true rfl, Nat.le_of_ble_eq_true rfl⟩ hI_3.head rfl rfl hl.1 (Nat.le_of_ble_eq_true rfl) ⟨Nat.le_of_ble_eq_true rfl, Nat.le_of_ble_eq_true rfl⟩ dL_isFault_16 (fun wa_4 H locs hI_4 hw_4 Y => ?_)
  have hW_4 := hW_3.trans hw_4
  refine lv_istore (lv' := [(5, .int ud), (4, .int (nI (List.length T))), (2, .long (wh r (S 0))), (0, .ref (Q 0)), (1, .int pl)]) hx hb dL_isFault_19 hl (by decide) rfl (fun ls hl => ?_)
  refine lv_aload_n hx hb dL_isFault_21 rfl (lv_at hl 3 rfl) ?_
  refine qVI (al := []) (As := []) (rest := []) X Y (k_fault hI_4 pl hR) gL_isFault_X7_fault rfl hdq_X7_fault ⟨Nat.le_of_ble_eq_true rfl, Nat.le_of_ble_eq_true rfl⟩ hI_4.head rfl rfl hl.1 (Nat.le_of_ble_eq_true rfl) ⟨Nat.le_of_ble_eq_true rfl, Nat.le_of_ble_eq_true rfl⟩ dL_isFault_22 (fun wa_5 H locs hI_5 hw_5 Y => ?_)
  have hW_5 := hW_4.trans hw_5
  refine lv_iload_n hx hb dL_isFault_25 rfl (lv_at hl 4 rfl) ?_
  refine lv_icmp_ne (tgt := 73) hx hb dL_isFault_26 (by decide) (fun c_6 => ?_) (fun c_6 => ?_)
  · exact absurd rfl (show ¬ (pl = pl) from c_6)
  · have c_6 : pl = pl := c_6
    refine lv_aload_n hx hb dL_isFault_29 rfl (lv_at hl 3 rfl) ?_
    refine qVI (al := []) (As := []) (rest := []) X Y (k_lay_no hI_5 hno) gL_isFault_X7_lay rfl hdq_X7_lay ⟨Nat.le_of_ble_eq_true rfl, Nat.le_of_ble_eq_true rfl⟩ hI_5.head rfl rfl hl.1 (Nat.le_of_ble_eq_true rfl) ⟨Nat.le_of_ble_eq_true rfl, Nat.le_of_ble_eq_true rfl⟩ dL_isFault_30 (fun wa_7 H locs hI_7 hw_7 Y => ?_)
    have hW_7 := hW_5.trans hw_7
    refine lv_bipush (v := (-2)) hx hb dL_isFault_33 (by decide) ?_
    refine lv_icmp_ne (tgt := 73) hx hb dL_isFault_35 (by decide) (fun c_ => absurd (by decide) c_) (fun _ => ?_)
    refine lv_aload_n hx hb dL_isFault_38 rfl (lv_at hl 3 rfl) ?_
    refine qSL (al := []) (wa := wa_7) (As := [.ref (Q 0)]) (rest := []) (c2 := 0) (s2 := 0) X Y (c_whole l D cyC cyI sb sL xs hI_7 hm) gL_isFault_L_whole rfl ⟨rfl, rfl⟩ hdq_L_whole.2 ⟨Nat.le_of_ble_eq_true rfl, Nat.le_of_ble_eq_true rfl⟩ rfl rfl rfl rfl hl.1 (Nat.le_of_ble_eq_true rfl) ⟨Nat.le_of_ble_eq_true rfl, Nat.le_of_ble_eq_true rfl⟩ dL_isFault_39 (fun r_9 wa_8 H locs hI_8 hw_8 Y => ?_)
    have hW_8 := hW_7.trans hw_8
    obtain ⟨er_9, hI_8⟩ := hI_8
    subst er_9
    refine lv_lload_n hx hb dL_isFault_42 rfl (lv_at hl 2 rfl) ?_
    refine qCmp hx hb rfl dL_isFault_43 ?_
    refine lv_if_ne (tgt := 73) hx hb dL_isFault_44 (by decide) (fun c_ => absurd (by decide) c_) (fun _ => ?_)
    refine lv_aload_n hx hb dL_isFault_47 rfl (lv_at hl 3 rfl) ?_
    refine lv_bipush (v := 8) hx hb dL_isFault_48 (by decide) ?_
    refine qVI (al := []) (As := [.int 8]) (rest := []) X Y (k_count hI_8 8 (nI (List.length T)) rfl) gL_isFault_X7_count rfl hdq_X7_count ⟨Nat.le_of_ble_eq_true rfl, Nat.le_of_ble_eq_true rfl⟩ hI_8.head rfl rfl hl.1 (Nat.le_of_ble_eq_true rfl) ⟨Nat.le_of_ble_eq_true rfl, Nat.le_of_ble_eq_true rfl⟩ dL_isFault_50 (fun wa_10 H locs hI_10 hw_10 Y => ?_)
    have hW_10 := hW_8.trans hw_10
    refine lv_iload hx hb dL_isFault_53 (lv_at hl 1 rfl) ?_
    refine lv_icmp_ne (tgt := 73) hx hb dL_isFault_55 (by decide) (fun c_11 => ?_) (fun c_11 => ?_)
    · exact absurd rfl (show ¬ ((nI (List.length T)) = (nI (List.length T))) from c_11)
    · have c_11 : (nI (List.length T)) = (nI (List.length T)) := c_11
      refine lv_aload_n hx hb dL_isFault_58 rfl (lv_at hl 3 rfl) ?_
      refine lv_bipush (v := 7) hx hb dL_isFault_59 (by decide) ?_
      refine qVI (al := []) (As := [.int 7]) (rest := []) X Y (k_count hI_10 7 ud rfl) gL_isFault_X7_count rfl hdq_X7_count ⟨Nat.le_of_ble_eq_true rfl, Nat.le_of_ble_eq_true rfl⟩ hI_10.head rfl rfl hl.1 (Nat.le_of_ble_eq_true rfl) ⟨Nat.le_of_ble_eq_true rfl, Nat.le_of_ble_eq_true rfl⟩ dL_isFault_61 (fun wa_12 H locs hI_12 hw_12 Y => ?_)
      have hW_12 := hW_10.trans hw_12
      refine lv_iload hx hb dL_isFault_64 (lv_at hl 0 rfl) ?_
      refine lv_icmp_ne (tgt := 73) hx hb dL_isFault_66 (by decide) (fun c_13 => ?_) (fun c_13 => ?_)
      · exact absurd rfl (show ¬ (ud = ud) from c_13)
      · have c_13 : ud = ud := c_13
        refine lv_iconst (v := 1) hx hb dL_isFault_69 (by decide) ?_
        refine lv_goto (tgt := 74) hx hb dL_isFault_70 (by decide) ?_
        refine lv_istore (lv' := [(6, .int 1), (5, .int ud), (4, .int (nI (List.length T))), (2, .long (wh r (S 0))), (0, .ref (Q 0)), (1, .int pl)]) hx hb dL_isFault_74 hl (by decide) rfl (fun ls hl => ?_)
        refine lv_iload hx hb dL_isFault_76 (lv_at hl 0 rfl) ?_
        refine lv_if_eq (tgt := 103) hx hb dL_isFault_78 (by decide) (fun c_ => absurd c_ (by decide)) (fun _ => ?_)
        refine lv_aload_n hx hb dL_isFault_81 rfl (lv_at hl 4 rfl) ?_
        refine qVI (al := []) (As := []) (rest := []) X Y (k_wipe hI_12) gL_isFault_X7_wipe rfl hdq_X7_wipe ⟨Nat.le_of_ble_eq_true rfl, Nat.le_of_ble_eq_true rfl⟩ hI_12.head rfl rfl hl.1 (Nat.le_of_ble_eq_true rfl) ⟨Nat.le_of_ble_eq_true rfl, Nat.le_of_ble_eq_true rfl⟩ dL_isFault_82 (fun wa_14 H locs hI_14 hw_14 Y => ?_)
        have hW_14 := hW_12.trans hw_14
        refine lv_iload hx hb dL_isFault_85 (lv_at hl 2 rfl) ?_
        refine lv_icmp_ne (tgt := 103) hx hb dL_isFault_87 (by decide) (fun c_15 => ?_) (fun c_15 => ?_)
        · exact absurd rfl (show ¬ ((nI (List.length T)) = (nI (List.length T))) from c_15)
        · have c_15 : (nI (List.length T)) = (nI (List.length T)) := c_15
          refine lv_aload_n hx hb dL_isFault_90 rfl (lv_at hl 4 rfl) ?_
          refine lv_bipush (v := 8) hx hb dL_isFault_91 (by decide) ?_
          refine qVI (al := []) (As := [.int 8]) (rest := []) X Y (k_count hI_14 8 (nI (List.length ([]))) rfl) gL_isFault_X7_count rfl hdq_X7_count ⟨Nat.le_of_ble_eq_true rfl, Nat.le_of_ble_eq_true rfl⟩ hI_14.head rfl rfl hl.1 (Nat.le_of_ble_eq_true rfl) ⟨Nat.le_of_ble_eq_true rfl, Nat.le_of_ble_eq_true rfl⟩ dL_isFault_93 (fun wa_16 H locs hI_16 hw_16 Y => ?_)
          have hW_16 := hW_14.trans hw_16
          refine lv_if_ne (tgt := 103) hx hb dL_isFault_96 (by decide) (fun c_17 => ?_) (fun c_17 => ?_)
          · exact absurd rfl (show ¬ ((nI (List.length ([]))) = 0) from c_17)
          · have c_17 : (nI (List.length ([]))) = 0 := c_17
            refine lv_iconst (v := 1) hx hb dL_isFault_99 (by decide) ?_
            refine lv_goto (tgt := 104) hx hb dL_isFault_100 (by decide) ?_
            exact qEndZ X Y hr hlk dL_isFault_104 rfl (⟨rfl, hI_16⟩) hW_16 (Nat.le_of_ble_eq_true rfl) (Nat.le_of_ble_eq_true rfl)
theorem rdF_0 : (RD ([] ++ pre (f4 120 0 0 0) 4)).1 = 0 ∧ ((RD ([] ++ pre (f4 120 0 0 0) 4)).1 = -4 → ¬ (s_holdsBoth (RD ([] ++ pre (f4 120 0 0 0) 4)).2.2.1 (RD ([] ++ pre (f4 120 0 0 0) 4)).2.2.2.1 (RD ([] ++ pre (f4 120 0 0 0) 4)).2.2.2.2.2.2.2.1 (RD ([] ++ pre (f4 120 0 0 0) 4)).2.2.2.2.2.2.2.2.2.2.1) = true) := by decide +kernel
theorem rdF_1 : (RD (([] ++ pre (f4 101 49 57 57) 4) ++ [59])).1 = 0 ∧ ((RD (([] ++ pre (f4 101 49 57 57) 4) ++ [59])).1 = -4 → ¬ (s_holdsBoth (RD (([] ++ pre (f4 101 49 57 57) 4) ++ [59])).2.2.1 (RD (([] ++ pre (f4 101 49 57 57) 4) ++ [59])).2.2.2.1 (RD (([] ++ pre (f4 101 49 57 57) 4) ++ [59])).2.2.2.2.2.2.2.1 (RD (([] ++ pre (f4 101 49 57 57) 4) ++ [59])).2.2.2.2.2.2.2.2.2.2.1) = true) := by decide +kernel
theorem rdF_2 : (RD (([] ++ pre (f4 101 48 54 48) 4) ++ pre (f4 48 59 0 0) 4)).1 = 0 ∧ ((RD (([] ++ pre (f4 101 48 54 48) 4) ++ pre (f4 48 59 0 0) 4)).1 = -4 → ¬ (s_holdsBoth (RD (([] ++ pre (f4 101 48 54 48) 4) ++ pre (f4 48 59 0 0) 4)).2.2.1 (RD (([] ++ pre (f4 101 48 54 48) 4) ++ pre (f4 48 59 0 0) 4)).2.2.2.1 (RD (([] ++ pre (f4 101 48 54 48) 4) ++ pre (f4 48 59 0 0) 4)).2.2.2.2.2.2.2.1 (RD (([] ++ pre (f4 101 48 54 48) 4) ++ pre (f4 48 59 0 0) 4)).2.2.2.2.2.2.2.2.2.2.1) = true) := by decide +kernel
theorem rdF_3 : (RD ([] ++ pre (f4 103 57 59 0) 4)).1 = 0 ∧ ((RD ([] ++ pre (f4 103 57 59 0) 4)).1 = -4 → ¬ (s_holdsBoth (RD ([] ++ pre (f4 103 57 59 0) 4)).2.2.1 (RD ([] ++ pre (f4 103 57 59 0) 4)).2.2.2.1 (RD ([] ++ pre (f4 103 57 59 0) 4)).2.2.2.2.2.2.2.1 (RD ([] ++ pre (f4 103 57 59 0) 4)).2.2.2.2.2.2.2.2.2.2.1) = true) := by decide +kernel
theorem rdF_4 : (RD (([] ++ pre (f4 103 52 48 59) 4) ++ pre (f4 103 52 48 0) 4)).1 = 4 ∧ ((RD (([] ++ pre (f4 103 52 48 59) 4) ++ pre (f4 103 52 48 0) 4)).1 = -4 → ¬ (s_holdsBoth (RD (([] ++ pre (f4 103 52 48 59) 4) ++ pre (f4 103 52 48 0) 4)).2.2.1 (RD (([] ++ pre (f4 103 52 48 59) 4) ++ pre (f4 103 52 48 0) 4)).2.2.2.1 (RD (([] ++ pre (f4 103 52 48 59) 4) ++ pre (f4 103 52 48 0) 4)).2.2.2.2.2.2.2.1 (RD (([] ++ pre (f4 103 52 48 59) 4) ++ pre (f4 103 52 48 0) 4)).2.2.2.2.2.2.2.2.2.2.1) = true) := by decide +kernel
theorem rdF_5 : (RD ([] ++ crT 2 100 30 0)).1 = 0 ∧ ((RD ([] ++ crT 2 100 30 0)).1 = -4 → ¬ (s_holdsBoth (RD ([] ++ crT 2 100 30 0)).2.2.1 (RD ([] ++ crT 2 100 30 0)).2.2.2.1 (RD ([] ++ crT 2 100 30 0)).2.2.2.2.2.2.2.1 (RD ([] ++ crT 2 100 30 0)).2.2.2.2.2.2.2.2.2.2.1) = true) := by decide +kernel
theorem rdF_6 : (RD ([] ++ crT 0 100 9 0)).1 = 0 ∧ ((RD ([] ++ crT 0 100 9 0)).1 = -4 → ¬ (s_holdsBoth (RD ([] ++ crT 0 100 9 0)).2.2.1 (RD ([] ++ crT 0 100 9 0)).2.2.2.1 (RD ([] ++ crT 0 100 9 0)).2.2.2.2.2.2.2.1 (RD ([] ++ crT 0 100 9 0)).2.2.2.2.2.2.2.2.2.2.1) = true) := by decide +kernel
theorem rdF_7 : (RD ([] ++ crT 0 100 61 0)).1 = 0 ∧ ((RD ([] ++ crT 0 100 61 0)).1 = -4 → ¬ (s_holdsBoth (RD ([] ++ crT 0 100 61 0)).2.2.1 (RD ([] ++ crT 0 100 61 0)).2.2.2.1 (RD ([] ++ crT 0 100 61 0)).2.2.2.2.2.2.2.1 (RD ([] ++ crT 0 100 61 0)).2.2.2.2.2.2.2.2.2.2.1) = true) := by decide +kernel
theorem rdF_8 : (RD ([] ++ crT 0 100 30 100)).1 = 0 ∧ ((RD ([] ++ crT 0 100 30 100)).1 = -4 → ¬ (s_holdsBoth (RD ([] ++ crT 0 100 30 100)).2.2.1 (RD ([] ++ crT 0 100 30 100)).2.2.2.1 (RD ([] ++ crT 0 100 30 100)).2.2.2.2.2.2.2.1 (RD ([] ++ crT 0 100 30 100)).2.2.2.2.2.2.2.2.2.2.1) = true) := by decide +kernel
theorem rdF_9 : (RD (([] ++ crT 0 90 30 5) ++ moT 0 12 6)).1 = 11 ∧ ((RD (([] ++ crT 0 90 30 5) ++ moT 0 12 6)).1 = -4 → ¬ (s_holdsBoth (RD (([] ++ crT 0 90 30 5) ++ moT 0 12 6)).2.2.1 (RD (([] ++ crT 0 90 30 5) ++ moT 0 12 6)).2.2.2.1 (RD (([] ++ crT 0 90 30 5) ++ moT 0 12 6)).2.2.2.2.2.2.2.1 (RD (([] ++ crT 0 90 30 5) ++ moT 0 12 6)).2.2.2.2.2.2.2.2.2.2.1) = true) := by decide +kernel
theorem rdF_10 : (RD ([] ++ moT 10 12 6)).1 = 0 ∧ ((RD ([] ++ moT 10 12 6)).1 = -4 → ¬ (s_holdsBoth (RD ([] ++ moT 10 12 6)).2.2.1 (RD ([] ++ moT 10 12 6)).2.2.2.1 (RD ([] ++ moT 10 12 6)).2.2.2.2.2.2.2.1 (RD ([] ++ moT 10 12 6)).2.2.2.2.2.2.2.2.2.2.1) = true) := by decide +kernel
theorem rdF_11 : (RD ([] ++ moT 2 41 6)).1 = 0 ∧ ((RD ([] ++ moT 2 41 6)).1 = -4 → ¬ (s_holdsBoth (RD ([] ++ moT 2 41 6)).2.2.1 (RD ([] ++ moT 2 41 6)).2.2.2.1 (RD ([] ++ moT 2 41 6)).2.2.2.2.2.2.2.1 (RD ([] ++ moT 2 41 6)).2.2.2.2.2.2.2.2.2.2.1) = true) := by decide +kernel
theorem rdF_12 : (RD ([] ++ moT 2 0 6)).1 = 0 ∧ ((RD ([] ++ moT 2 0 6)).1 = -4 → ¬ (s_holdsBoth (RD ([] ++ moT 2 0 6)).2.2.1 (RD ([] ++ moT 2 0 6)).2.2.2.1 (RD ([] ++ moT 2 0 6)).2.2.2.2.2.2.2.1 (RD ([] ++ moT 2 0 6)).2.2.2.2.2.2.2.2.2.2.1) = true) := by decide +kernel
theorem rdF_13 : (RD ([] ++ moT 2 12 41)).1 = 0 ∧ ((RD ([] ++ moT 2 12 41)).1 = -4 → ¬ (s_holdsBoth (RD ([] ++ moT 2 12 41)).2.2.1 (RD ([] ++ moT 2 12 41)).2.2.2.1 (RD ([] ++ moT 2 12 41)).2.2.2.2.2.2.2.1 (RD ([] ++ moT 2 12 41)).2.2.2.2.2.2.2.2.2.2.1) = true) := by decide +kernel
theorem rdF_14 : (RD (([] ++ pre (f4 107 50 44 49) 4) ++ [59])).1 = 0 ∧ ((RD (([] ++ pre (f4 107 50 44 49) 4) ++ [59])).1 = -4 → ¬ (s_holdsBoth (RD (([] ++ pre (f4 107 50 44 49) 4) ++ [59])).2.2.1 (RD (([] ++ pre (f4 107 50 44 49) 4) ++ [59])).2.2.2.1 (RD (([] ++ pre (f4 107 50 44 49) 4) ++ [59])).2.2.2.2.2.2.2.1 (RD (([] ++ pre (f4 107 50 44 49) 4) ++ [59])).2.2.2.2.2.2.2.2.2.2.1) = true) := by decide +kernel
theorem rdF_15 : (RD (([] ++ pre (f4 103 32 52 48) 4) ++ [59])).1 = 0 ∧ ((RD (([] ++ pre (f4 103 32 52 48) 4) ++ [59])).1 = -4 → ¬ (s_holdsBoth (RD (([] ++ pre (f4 103 32 52 48) 4) ++ [59])).2.2.1 (RD (([] ++ pre (f4 103 32 52 48) 4) ++ [59])).2.2.2.1 (RD (([] ++ pre (f4 103 32 52 48) 4) ++ [59])).2.2.2.2.2.2.2.1 (RD (([] ++ pre (f4 103 32 52 48) 4) ++ [59])).2.2.2.2.2.2.2.2.2.2.1) = true) := by decide +kernel
theorem rdF_16 : (RD ([] ++ crT 0 470 30 0)).1 = (-4) ∧ ((RD ([] ++ crT 0 470 30 0)).1 = -4 → ¬ (s_holdsBoth (RD ([] ++ crT 0 470 30 0)).2.2.1 (RD ([] ++ crT 0 470 30 0)).2.2.2.1 (RD ([] ++ crT 0 470 30 0)).2.2.2.2.2.2.2.1 (RD ([] ++ crT 0 470 30 0)).2.2.2.2.2.2.2.2.2.2.1) = true) := by decide +kernel
theorem rdF_17 : (RD ([] ++ crT 1 601 30 0)).1 = (-4) ∧ ((RD ([] ++ crT 1 601 30 0)).1 = -4 → ¬ (s_holdsBoth (RD ([] ++ crT 1 601 30 0)).2.2.1 (RD ([] ++ crT 1 601 30 0)).2.2.2.1 (RD ([] ++ crT 1 601 30 0)).2.2.2.2.2.2.2.1 (RD ([] ++ crT 1 601 30 0)).2.2.2.2.2.2.2.2.2.2.1) = true) := by decide +kernel
theorem rdF_18 : (RD (([] ++ pre (f4 101 52 48 48) 4) ++ [59])).1 = (-4) ∧ ((RD (([] ++ pre (f4 101 52 48 48) 4) ++ [59])).1 = -4 → ¬ (s_holdsBoth (RD (([] ++ pre (f4 101 52 48 48) 4) ++ [59])).2.2.1 (RD (([] ++ pre (f4 101 52 48 48) 4) ++ [59])).2.2.2.1 (RD (([] ++ pre (f4 101 52 48 48) 4) ++ [59])).2.2.2.2.2.2.2.1 (RD (([] ++ pre (f4 101 52 48 48) 4) ++ [59])).2.2.2.2.2.2.2.2.2.2.1) = true) := by decide +kernel
theorem hdq_L_says : bD1 yL_says RL 5 := by decide +kernel
theorem hdq_L_isFault : bD1 yL_isFault RL 2 := by decide +kernel
theorem hdq_L_crane : bD1 yL_crane RL 5 := by decide +kernel
theorem hdq_L_most : bD1 yL_most RL 4 := by decide +kernel
set_option maxHeartbeats 4000000 in
set_option maxRecDepth 100000 in
theorem c_faults (l : Launch) (D : va_G) (cyC cyI : ClassId) (sb sL : Nat) (xs : Nat → Int32) {Q : Nat → Nat} {r : Nat → Int32} {S : Nat → Sto} {ud : Int32} {T : List Int32} {wa : va_W} (hI : QW cyC cyI Q r S ud T wa) (hm : MmO (S 0)) : QI l yL_faults wsL_faults { frames := 7, cells := 10, slots := 40, locals := 161 } D cyC cyI sb sL xs [.ref (Q 0)] wa 10 40 (fun rv w1 => rv = 1 ∧ QW cyC cyI Q r S ud [] w1) := by
  refine QI.of (cc := cL_faults) (n := 1) (ret := (some .boolean)) (by decide +kernel) rfl (Nat.le_of_ble_eq_true rfl) ?_
  intro p_ e_ s_ m_ bl_ me_ cd_ A_ ls X Y hr hlk hl
  have hx := X.1.1.1
  have hb := X.1.1.2.1
  have hl : lv_has ls 1 [(0, .ref (Q 0))] := hl
  have Y : bY D A_ s_.heap ([] ++ wa) s_.heap [] := Y
  have hW := Y.wpR
  refine lv_aload_n hx hb dL_faults_0 rfl (lv_at hl 0 rfl) ?_
  refine qVI (al := []) (As := []) (rest := []) X Y (k_wipe hI) gL_faults_X7_wipe rfl hdq_X7_wipe ⟨Nat.le_of_ble_eq_true rfl, Nat.le_of_ble_eq_true rfl⟩ hI.head rfl rfl hl.1 (Nat.le_of_ble_eq_true rfl) ⟨Nat.le_of_ble_eq_true rfl, Nat.le_of_ble_eq_true rfl⟩ dL_faults_1 (fun wa_1 H locs hI_1 hw_1 Y => ?_)
  have hW_1 := hW.trans hw_1
  refine lv_pop hx hb dL_faults_4 rfl ?_
  refine lv_aload_n hx hb dL_faults_5 rfl (lv_at hl 0 rfl) ?_
  refine lv_bipush (v := 120) hx hb dL_faults_6 (by decide) ?_
  refine lv_iconst (v := 0) hx hb dL_faults_8 (by decide) ?_
  refine lv_iconst (v := 0) hx hb dL_faults_9 (by decide) ?_
  refine lv_iconst (v := 0) hx hb dL_faults_10 (by decide) ?_
  refine qSV (al := []) (wa := wa_1) (As := [.ref (Q 0), .int 120, .int 0, .int 0, .int 0]) (rest := []) (c2 := 1) (s2 := 4) X Y (c_says l D cyC cyI sb sL xs hI_1 120 0 0 0 (by decide) (by decide)) gL_faults_L_says rfl ⟨rfl, rfl⟩ hdq_L_says.2 ⟨Nat.le_of_ble_eq_true rfl, Nat.le_of_ble_eq_true rfl⟩ rfl rfl rfl rfl hl.1 (Nat.le_of_ble_eq_true rfl) ⟨Nat.le_of_ble_eq_true rfl, Nat.le_of_ble_eq_true rfl⟩ dL_faults_11 (fun  wa_2 H locs hI_2 hw_2 Y => ?_)
  have hW_2 := hW_1.trans hw_2
  refine lv_aload_n hx hb dL_faults_14 rfl (lv_at hl 0 rfl) ?_
  refine lv_iconst (v := 0) hx hb dL_faults_15 (by decide) ?_
  refine qSI (al := []) (wa := wa_2) (As := [.ref (Q 0), .int 0]) (rest := []) (c2 := 1) (s2 := 4) X Y (c_isFault l D cyC cyI sb sL xs hI_2 0 hm rdF_0.1 rdF_0.2) gL_faults_L_isFault rfl ⟨rfl, rfl⟩ hdq_L_isFault.2 ⟨Nat.le_of_ble_eq_true rfl, Nat.le_of_ble_eq_true rfl⟩ rfl rfl rfl rfl hl.1 (Nat.le_of_ble_eq_true rfl) ⟨Nat.le_of_ble_eq_true rfl, Nat.le_of_ble_eq_true rfl⟩ dL_faults_16 (fun r_4 wa_3 H locs hI_3 hw_3 Y => ?_)
  have hW_3 := hW_2.trans hw_3
  obtain ⟨er_4, hI_3⟩ := hI_3
  subst er_4
  refine lv_if_ne (tgt := 24) hx hb dL_faults_19 (by decide) (fun _ => ?_) (fun c_ => absurd c_ (by decide))
  refine lv_aload_n hx hb dL_faults_24 rfl (lv_at hl 0 rfl) ?_
  refine lv_bipush (v := 101) hx hb dL_faults_25 (by decide) ?_
  refine lv_bipush (v := 49) hx hb dL_faults_27 (by decide) ?_
  refine lv_bipush (v := 57) hx hb dL_faults_29 (by decide) ?_
  refine lv_bipush (v := 57) hx hb dL_faults_31 (by decide) ?_
  refine qSV (al := []) (wa := wa_3) (As := [.ref (Q 0), .int 101, .int 49, .int 57, .int 57]) (rest := []) (c2 := 2) (s2 := 8) X Y (c_says l D cyC cyI sb sL xs hI_3 101 49 57 57 (by decide) (by decide)) gL_faults_L_says rfl ⟨rfl, rfl⟩ hdq_L_says.2 ⟨Nat.le_of_ble_eq_true rfl, Nat.le_of_ble_eq_true rfl⟩ rfl rfl rfl rfl hl.1 (Nat.le_of_ble_eq_true rfl) ⟨Nat.le_of_ble_eq_true rfl, Nat.le_of_ble_eq_true rfl⟩ dL_faults_33 (fun  wa_5 H locs hI_5 hw_5 Y => ?_)
  have hW_5 := hW_3.trans hw_5
  refine lv_aload_n hx hb dL_faults_36 rfl (lv_at hl 0 rfl) ?_
  refine lv_bipush (v := 59) hx hb dL_faults_37 (by decide) ?_
  refine qVI (al := []) (As := [.int 59]) (rest := []) X Y (k_write hI_5 59 (by decide) (by decide)) gL_faults_X7_write rfl hdq_X7_write ⟨Nat.le_of_ble_eq_true rfl, Nat.le_of_ble_eq_true rfl⟩ hI_5.head rfl rfl hl.1 (Nat.le_of_ble_eq_true rfl) ⟨Nat.le_of_ble_eq_true rfl, Nat.le_of_ble_eq_true rfl⟩ dL_faults_39 (fun wa_6 H locs hI_6 hw_6 Y => ?_)
  have hW_6 := hW_5.trans hw_6
  refine lv_pop hx hb dL_faults_42 rfl ?_
  refine lv_aload_n hx hb dL_faults_43 rfl (lv_at hl 0 rfl) ?_
  refine lv_iconst (v := 0) hx hb dL_faults_44 (by decide) ?_
  refine qSI (al := []) (wa := wa_6) (As := [.ref (Q 0), .int 0]) (rest := []) (c2 := 2) (s2 := 8) X Y (c_isFault l D cyC cyI sb sL xs hI_6 0 hm rdF_1.1 rdF_1.2) gL_faults_L_isFault rfl ⟨rfl, rfl⟩ hdq_L_isFault.2 ⟨Nat.le_of_ble_eq_true rfl, Nat.le_of_ble_eq_true rfl⟩ rfl rfl rfl rfl hl.1 (Nat.le_of_ble_eq_true rfl) ⟨Nat.le_of_ble_eq_true rfl, Nat.le_of_ble_eq_true rfl⟩ dL_faults_45 (fun r_8 wa_7 H locs hI_7 hw_7 Y => ?_)
  have hW_7 := hW_6.trans hw_7
  obtain ⟨er_8, hI_7⟩ := hI_7
  subst er_8
  refine lv_if_ne (tgt := 53) hx hb dL_faults_48 (by decide) (fun _ => ?_) (fun c_ => absurd c_ (by decide))
  refine lv_aload_n hx hb dL_faults_53 rfl (lv_at hl 0 rfl) ?_
  refine lv_bipush (v := 101) hx hb dL_faults_54 (by decide) ?_
  refine lv_bipush (v := 48) hx hb dL_faults_56 (by decide) ?_
  refine lv_bipush (v := 54) hx hb dL_faults_58 (by decide) ?_
  refine lv_bipush (v := 48) hx hb dL_faults_60 (by decide) ?_
  refine qSV (al := []) (wa := wa_7) (As := [.ref (Q 0), .int 101, .int 48, .int 54, .int 48]) (rest := []) (c2 := 3) (s2 := 12) X Y (c_says l D cyC cyI sb sL xs hI_7 101 48 54 48 (by decide) (by decide)) gL_faults_L_says rfl ⟨rfl, rfl⟩ hdq_L_says.2 ⟨Nat.le_of_ble_eq_true rfl, Nat.le_of_ble_eq_true rfl⟩ rfl rfl rfl rfl hl.1 (Nat.le_of_ble_eq_true rfl) ⟨Nat.le_of_ble_eq_true rfl, Nat.le_of_ble_eq_true rfl⟩ dL_faults_62 (fun  wa_9 H locs hI_9 hw_9 Y => ?_)
  have hW_9 := hW_7.trans hw_9
  refine lv_aload_n hx hb dL_faults_65 rfl (lv_at hl 0 rfl) ?_
  refine lv_bipush (v := 48) hx hb dL_faults_66 (by decide) ?_
  refine lv_bipush (v := 59) hx hb dL_faults_68 (by decide) ?_
  refine lv_iconst (v := 0) hx hb dL_faults_70 (by decide) ?_
  refine lv_iconst (v := 0) hx hb dL_faults_71 (by decide) ?_
  refine qSV (al := []) (wa := wa_9) (As := [.ref (Q 0), .int 48, .int 59, .int 0, .int 0]) (rest := []) (c2 := 4) (s2 := 16) X Y (c_says l D cyC cyI sb sL xs hI_9 48 59 0 0 (by decide) (by decide)) gL_faults_L_says rfl ⟨rfl, rfl⟩ hdq_L_says.2 ⟨Nat.le_of_ble_eq_true rfl, Nat.le_of_ble_eq_true rfl⟩ rfl rfl rfl rfl hl.1 (Nat.le_of_ble_eq_true rfl) ⟨Nat.le_of_ble_eq_true rfl, Nat.le_of_ble_eq_true rfl⟩ dL_faults_72 (fun  wa_10 H locs hI_10 hw_10 Y => ?_)
  have hW_10 := hW_9.trans hw_10
  refine lv_aload_n hx hb dL_faults_75 rfl (lv_at hl 0 rfl) ?_
  refine lv_iconst (v := 0) hx hb dL_faults_76 (by decide) ?_
  refine qSI (al := []) (wa := wa_10) (As := [.ref (Q 0), .int 0]) (rest := []) (c2 := 4) (s2 := 16) X Y (c_isFault l D cyC cyI sb sL xs hI_10 0 hm rdF_2.1 rdF_2.2) gL_faults_L_isFault rfl ⟨rfl, rfl⟩ hdq_L_isFault.2 ⟨Nat.le_of_ble_eq_true rfl, Nat.le_of_ble_eq_true rfl⟩ rfl rfl rfl rfl hl.1 (Nat.le_of_ble_eq_true rfl) ⟨Nat.le_of_ble_eq_true rfl, Nat.le_of_ble_eq_true rfl⟩ dL_faults_77 (fun r_12 wa_11 H locs hI_11 hw_11 Y => ?_)
  have hW_11 := hW_10.trans hw_11
  obtain ⟨er_12, hI_11⟩ := hI_11
  subst er_12
  refine lv_if_ne (tgt := 85) hx hb dL_faults_80 (by decide) (fun _ => ?_) (fun c_ => absurd c_ (by decide))
  refine lv_aload_n hx hb dL_faults_85 rfl (lv_at hl 0 rfl) ?_
  refine lv_bipush (v := 103) hx hb dL_faults_86 (by decide) ?_
  refine lv_bipush (v := 57) hx hb dL_faults_88 (by decide) ?_
  refine lv_bipush (v := 59) hx hb dL_faults_90 (by decide) ?_
  refine lv_iconst (v := 0) hx hb dL_faults_92 (by decide) ?_
  refine qSV (al := []) (wa := wa_11) (As := [.ref (Q 0), .int 103, .int 57, .int 59, .int 0]) (rest := []) (c2 := 5) (s2 := 20) X Y (c_says l D cyC cyI sb sL xs hI_11 103 57 59 0 (by decide) (by decide)) gL_faults_L_says rfl ⟨rfl, rfl⟩ hdq_L_says.2 ⟨Nat.le_of_ble_eq_true rfl, Nat.le_of_ble_eq_true rfl⟩ rfl rfl rfl rfl hl.1 (Nat.le_of_ble_eq_true rfl) ⟨Nat.le_of_ble_eq_true rfl, Nat.le_of_ble_eq_true rfl⟩ dL_faults_93 (fun  wa_13 H locs hI_13 hw_13 Y => ?_)
  have hW_13 := hW_11.trans hw_13
  refine lv_aload_n hx hb dL_faults_96 rfl (lv_at hl 0 rfl) ?_
  refine lv_iconst (v := 0) hx hb dL_faults_97 (by decide) ?_
  refine qSI (al := []) (wa := wa_13) (As := [.ref (Q 0), .int 0]) (rest := []) (c2 := 5) (s2 := 20) X Y (c_isFault l D cyC cyI sb sL xs hI_13 0 hm rdF_3.1 rdF_3.2) gL_faults_L_isFault rfl ⟨rfl, rfl⟩ hdq_L_isFault.2 ⟨Nat.le_of_ble_eq_true rfl, Nat.le_of_ble_eq_true rfl⟩ rfl rfl rfl rfl hl.1 (Nat.le_of_ble_eq_true rfl) ⟨Nat.le_of_ble_eq_true rfl, Nat.le_of_ble_eq_true rfl⟩ dL_faults_98 (fun r_15 wa_14 H locs hI_14 hw_14 Y => ?_)
  have hW_14 := hW_13.trans hw_14
  obtain ⟨er_15, hI_14⟩ := hI_14
  subst er_15
  refine lv_if_ne (tgt := 106) hx hb dL_faults_101 (by decide) (fun _ => ?_) (fun c_ => absurd c_ (by decide))
  refine lv_aload_n hx hb dL_faults_106 rfl (lv_at hl 0 rfl) ?_
  refine lv_bipush (v := 103) hx hb dL_faults_107 (by decide) ?_
  refine lv_bipush (v := 52) hx hb dL_faults_109 (by decide) ?_
  refine lv_bipush (v := 48) hx hb dL_faults_111 (by decide) ?_
  refine lv_bipush (v := 59) hx hb dL_faults_113 (by decide) ?_
  refine qSV (al := []) (wa := wa_14) (As := [.ref (Q 0), .int 103, .int 52, .int 48, .int 59]) (rest := []) (c2 := 6) (s2 := 24) X Y (c_says l D cyC cyI sb sL xs hI_14 103 52 48 59 (by decide) (by decide)) gL_faults_L_says rfl ⟨rfl, rfl⟩ hdq_L_says.2 ⟨Nat.le_of_ble_eq_true rfl, Nat.le_of_ble_eq_true rfl⟩ rfl rfl rfl rfl hl.1 (Nat.le_of_ble_eq_true rfl) ⟨Nat.le_of_ble_eq_true rfl, Nat.le_of_ble_eq_true rfl⟩ dL_faults_115 (fun  wa_16 H locs hI_16 hw_16 Y => ?_)
  have hW_16 := hW_14.trans hw_16
  refine lv_aload_n hx hb dL_faults_118 rfl (lv_at hl 0 rfl) ?_
  refine lv_bipush (v := 103) hx hb dL_faults_119 (by decide) ?_
  refine lv_bipush (v := 52) hx hb dL_faults_121 (by decide) ?_
  refine lv_bipush (v := 48) hx hb dL_faults_123 (by decide) ?_
  refine lv_iconst (v := 0) hx hb dL_faults_125 (by decide) ?_
  refine qSV (al := []) (wa := wa_16) (As := [.ref (Q 0), .int 103, .int 52, .int 48, .int 0]) (rest := []) (c2 := 7) (s2 := 28) X Y (c_says l D cyC cyI sb sL xs hI_16 103 52 48 0 (by decide) (by decide)) gL_faults_L_says rfl ⟨rfl, rfl⟩ hdq_L_says.2 ⟨Nat.le_of_ble_eq_true rfl, Nat.le_of_ble_eq_true rfl⟩ rfl rfl rfl rfl hl.1 (Nat.le_of_ble_eq_true rfl) ⟨Nat.le_of_ble_eq_true rfl, Nat.le_of_ble_eq_true rfl⟩ dL_faults_126 (fun  wa_17 H locs hI_17 hw_17 Y => ?_)
  have hW_17 := hW_16.trans hw_17
  refine lv_aload_n hx hb dL_faults_129 rfl (lv_at hl 0 rfl) ?_
  refine lv_iconst (v := 4) hx hb dL_faults_130 (by decide) ?_
  refine qSI (al := []) (wa := wa_17) (As := [.ref (Q 0), .int 4]) (rest := []) (c2 := 7) (s2 := 28) X Y (c_isFault l D cyC cyI sb sL xs hI_17 4 hm rdF_4.1 rdF_4.2) gL_faults_L_isFault rfl ⟨rfl, rfl⟩ hdq_L_isFault.2 ⟨Nat.le_of_ble_eq_true rfl, Nat.le_of_ble_eq_true rfl⟩ rfl rfl rfl rfl hl.1 (Nat.le_of_ble_eq_true rfl) ⟨Nat.le_of_ble_eq_true rfl, Nat.le_of_ble_eq_true rfl⟩ dL_faults_131 (fun r_19 wa_18 H locs hI_18 hw_18 Y => ?_)
  have hW_18 := hW_17.trans hw_18
  obtain ⟨er_19, hI_18⟩ := hI_18
  subst er_19
  refine lv_if_ne (tgt := 139) hx hb dL_faults_134 (by decide) (fun _ => ?_) (fun c_ => absurd c_ (by decide))
  refine lv_aload_n hx hb dL_faults_139 rfl (lv_at hl 0 rfl) ?_
  refine lv_iconst (v := 2) hx hb dL_faults_140 (by decide) ?_
  refine lv_bipush (v := 100) hx hb dL_faults_141 (by decide) ?_
  refine lv_bipush (v := 30) hx hb dL_faults_143 (by decide) ?_
  refine lv_iconst (v := 0) hx hb dL_faults_145 (by decide) ?_
  refine qSV (al := []) (wa := wa_18) (As := [.ref (Q 0), .int 2, .int 100, .int 30, .int 0]) (rest := []) (c2 := 7) (s2 := 28) X Y (c_crane l D cyC cyI sb sL xs hI_18 2 100 30 0 (by decide) (by decide) (by decide) (by decide) (by decide)) gL_faults_L_crane rfl ⟨rfl, rfl⟩ hdq_L_crane.2 ⟨Nat.le_of_ble_eq_true rfl, Nat.le_of_ble_eq_true rfl⟩ rfl rfl rfl rfl hl.1 (Nat.le_of_ble_eq_true rfl) ⟨Nat.le_of_ble_eq_true rfl, Nat.le_of_ble_eq_true rfl⟩ dL_faults_146 (fun  wa_20 H locs hI_20 hw_20 Y => ?_)
  have hW_20 := hW_18.trans hw_20
  refine lv_aload_n hx hb dL_faults_149 rfl (lv_at hl 0 rfl) ?_
  refine lv_iconst (v := 0) hx hb dL_faults_150 (by decide) ?_
  refine qSI (al := []) (wa := wa_20) (As := [.ref (Q 0), .int 0]) (rest := []) (c2 := 7) (s2 := 28) X Y (c_isFault l D cyC cyI sb sL xs hI_20 0 hm rdF_5.1 rdF_5.2) gL_faults_L_isFault rfl ⟨rfl, rfl⟩ hdq_L_isFault.2 ⟨Nat.le_of_ble_eq_true rfl, Nat.le_of_ble_eq_true rfl⟩ rfl rfl rfl rfl hl.1 (Nat.le_of_ble_eq_true rfl) ⟨Nat.le_of_ble_eq_true rfl, Nat.le_of_ble_eq_true rfl⟩ dL_faults_151 (fun r_22 wa_21 H locs hI_21 hw_21 Y => ?_)
  have hW_21 := hW_20.trans hw_21
  obtain ⟨er_22, hI_21⟩ := hI_21
  subst er_22
  refine lv_if_ne (tgt := 159) hx hb dL_faults_154 (by decide) (fun _ => ?_) (fun c_ => absurd c_ (by decide))
  refine lv_aload_n hx hb dL_faults_159 rfl (lv_at hl 0 rfl) ?_
  refine lv_iconst (v := 0) hx hb dL_faults_160 (by decide) ?_
  refine lv_bipush (v := 100) hx hb dL_faults_161 (by decide) ?_
  refine lv_bipush (v := 9) hx hb dL_faults_163 (by decide) ?_
  refine lv_iconst (v := 0) hx hb dL_faults_165 (by decide) ?_
  refine qSV (al := []) (wa := wa_21) (As := [.ref (Q 0), .int 0, .int 100, .int 9, .int 0]) (rest := []) (c2 := 7) (s2 := 28) X Y (c_crane l D cyC cyI sb sL xs hI_21 0 100 9 0 (by decide) (by decide) (by decide) (by decide) (by decide)) gL_faults_L_crane rfl ⟨rfl, rfl⟩ hdq_L_crane.2 ⟨Nat.le_of_ble_eq_true rfl, Nat.le_of_ble_eq_true rfl⟩ rfl rfl rfl rfl hl.1 (Nat.le_of_ble_eq_true rfl) ⟨Nat.le_of_ble_eq_true rfl, Nat.le_of_ble_eq_true rfl⟩ dL_faults_166 (fun  wa_23 H locs hI_23 hw_23 Y => ?_)
  have hW_23 := hW_21.trans hw_23
  refine lv_aload_n hx hb dL_faults_169 rfl (lv_at hl 0 rfl) ?_
  refine lv_iconst (v := 0) hx hb dL_faults_170 (by decide) ?_
  refine qSI (al := []) (wa := wa_23) (As := [.ref (Q 0), .int 0]) (rest := []) (c2 := 7) (s2 := 28) X Y (c_isFault l D cyC cyI sb sL xs hI_23 0 hm rdF_6.1 rdF_6.2) gL_faults_L_isFault rfl ⟨rfl, rfl⟩ hdq_L_isFault.2 ⟨Nat.le_of_ble_eq_true rfl, Nat.le_of_ble_eq_true rfl⟩ rfl rfl rfl rfl hl.1 (Nat.le_of_ble_eq_true rfl) ⟨Nat.le_of_ble_eq_true rfl, Nat.le_of_ble_eq_true rfl⟩ dL_faults_171 (fun r_25 wa_24 H locs hI_24 hw_24 Y => ?_)
  have hW_24 := hW_23.trans hw_24
  obtain ⟨er_25, hI_24⟩ := hI_24
  subst er_25
  refine lv_if_ne (tgt := 179) hx hb dL_faults_174 (by decide) (fun _ => ?_) (fun c_ => absurd c_ (by decide))
  refine lv_aload_n hx hb dL_faults_179 rfl (lv_at hl 0 rfl) ?_
  refine lv_iconst (v := 0) hx hb dL_faults_180 (by decide) ?_
  refine lv_bipush (v := 100) hx hb dL_faults_181 (by decide) ?_
  refine lv_bipush (v := 61) hx hb dL_faults_183 (by decide) ?_
  refine lv_iconst (v := 0) hx hb dL_faults_185 (by decide) ?_
  refine qSV (al := []) (wa := wa_24) (As := [.ref (Q 0), .int 0, .int 100, .int 61, .int 0]) (rest := []) (c2 := 7) (s2 := 28) X Y (c_crane l D cyC cyI sb sL xs hI_24 0 100 61 0 (by decide) (by decide) (by decide) (by decide) (by decide)) gL_faults_L_crane rfl ⟨rfl, rfl⟩ hdq_L_crane.2 ⟨Nat.le_of_ble_eq_true rfl, Nat.le_of_ble_eq_true rfl⟩ rfl rfl rfl rfl hl.1 (Nat.le_of_ble_eq_true rfl) ⟨Nat.le_of_ble_eq_true rfl, Nat.le_of_ble_eq_true rfl⟩ dL_faults_186 (fun  wa_26 H locs hI_26 hw_26 Y => ?_)
  have hW_26 := hW_24.trans hw_26
  refine lv_aload_n hx hb dL_faults_189 rfl (lv_at hl 0 rfl) ?_
  refine lv_iconst (v := 0) hx hb dL_faults_190 (by decide) ?_
  refine qSI (al := []) (wa := wa_26) (As := [.ref (Q 0), .int 0]) (rest := []) (c2 := 7) (s2 := 28) X Y (c_isFault l D cyC cyI sb sL xs hI_26 0 hm rdF_7.1 rdF_7.2) gL_faults_L_isFault rfl ⟨rfl, rfl⟩ hdq_L_isFault.2 ⟨Nat.le_of_ble_eq_true rfl, Nat.le_of_ble_eq_true rfl⟩ rfl rfl rfl rfl hl.1 (Nat.le_of_ble_eq_true rfl) ⟨Nat.le_of_ble_eq_true rfl, Nat.le_of_ble_eq_true rfl⟩ dL_faults_191 (fun r_28 wa_27 H locs hI_27 hw_27 Y => ?_)
  have hW_27 := hW_26.trans hw_27
  obtain ⟨er_28, hI_27⟩ := hI_27
  subst er_28
  refine lv_if_ne (tgt := 199) hx hb dL_faults_194 (by decide) (fun _ => ?_) (fun c_ => absurd c_ (by decide))
  refine lv_aload_n hx hb dL_faults_199 rfl (lv_at hl 0 rfl) ?_
  refine lv_iconst (v := 0) hx hb dL_faults_200 (by decide) ?_
  refine lv_bipush (v := 100) hx hb dL_faults_201 (by decide) ?_
  refine lv_bipush (v := 30) hx hb dL_faults_203 (by decide) ?_
  refine lv_bipush (v := 100) hx hb dL_faults_205 (by decide) ?_
  refine qSV (al := []) (wa := wa_27) (As := [.ref (Q 0), .int 0, .int 100, .int 30, .int 100]) (rest := []) (c2 := 7) (s2 := 28) X Y (c_crane l D cyC cyI sb sL xs hI_27 0 100 30 100 (by decide) (by decide) (by decide) (by decide) (by decide)) gL_faults_L_crane rfl ⟨rfl, rfl⟩ hdq_L_crane.2 ⟨Nat.le_of_ble_eq_true rfl, Nat.le_of_ble_eq_true rfl⟩ rfl rfl rfl rfl hl.1 (Nat.le_of_ble_eq_true rfl) ⟨Nat.le_of_ble_eq_true rfl, Nat.le_of_ble_eq_true rfl⟩ dL_faults_207 (fun  wa_29 H locs hI_29 hw_29 Y => ?_)
  have hW_29 := hW_27.trans hw_29
  refine lv_aload_n hx hb dL_faults_210 rfl (lv_at hl 0 rfl) ?_
  refine lv_iconst (v := 0) hx hb dL_faults_211 (by decide) ?_
  refine qSI (al := []) (wa := wa_29) (As := [.ref (Q 0), .int 0]) (rest := []) (c2 := 7) (s2 := 28) X Y (c_isFault l D cyC cyI sb sL xs hI_29 0 hm rdF_8.1 rdF_8.2) gL_faults_L_isFault rfl ⟨rfl, rfl⟩ hdq_L_isFault.2 ⟨Nat.le_of_ble_eq_true rfl, Nat.le_of_ble_eq_true rfl⟩ rfl rfl rfl rfl hl.1 (Nat.le_of_ble_eq_true rfl) ⟨Nat.le_of_ble_eq_true rfl, Nat.le_of_ble_eq_true rfl⟩ dL_faults_212 (fun r_31 wa_30 H locs hI_30 hw_30 Y => ?_)
  have hW_30 := hW_29.trans hw_30
  obtain ⟨er_31, hI_30⟩ := hI_30
  subst er_31
  refine lv_if_ne (tgt := 220) hx hb dL_faults_215 (by decide) (fun _ => ?_) (fun c_ => absurd c_ (by decide))
  refine lv_aload_n hx hb dL_faults_220 rfl (lv_at hl 0 rfl) ?_
  refine lv_iconst (v := 0) hx hb dL_faults_221 (by decide) ?_
  refine lv_bipush (v := 90) hx hb dL_faults_222 (by decide) ?_
  refine lv_bipush (v := 30) hx hb dL_faults_224 (by decide) ?_
  refine lv_iconst (v := 5) hx hb dL_faults_226 (by decide) ?_
  refine qSV (al := []) (wa := wa_30) (As := [.ref (Q 0), .int 0, .int 90, .int 30, .int 5]) (rest := []) (c2 := 7) (s2 := 28) X Y (c_crane l D cyC cyI sb sL xs hI_30 0 90 30 5 (by decide) (by decide) (by decide) (by decide) (by decide)) gL_faults_L_crane rfl ⟨rfl, rfl⟩ hdq_L_crane.2 ⟨Nat.le_of_ble_eq_true rfl, Nat.le_of_ble_eq_true rfl⟩ rfl rfl rfl rfl hl.1 (Nat.le_of_ble_eq_true rfl) ⟨Nat.le_of_ble_eq_true rfl, Nat.le_of_ble_eq_true rfl⟩ dL_faults_227 (fun  wa_32 H locs hI_32 hw_32 Y => ?_)
  have hW_32 := hW_30.trans hw_32
  refine lv_aload_n hx hb dL_faults_230 rfl (lv_at hl 0 rfl) ?_
  refine lv_iconst (v := 0) hx hb dL_faults_231 (by decide) ?_
  refine lv_bipush (v := 12) hx hb dL_faults_232 (by decide) ?_
  refine lv_bipush (v := 6) hx hb dL_faults_234 (by decide) ?_
  refine qSV (al := []) (wa := wa_32) (As := [.ref (Q 0), .int 0, .int 12, .int 6]) (rest := []) (c2 := 7) (s2 := 28) X Y (c_most l D cyC cyI sb sL xs hI_32 0 12 6 (by decide) (by decide) (by decide) (by decide)) gL_faults_L_most rfl ⟨rfl, rfl⟩ hdq_L_most.2 ⟨Nat.le_of_ble_eq_true rfl, Nat.le_of_ble_eq_true rfl⟩ rfl rfl rfl rfl hl.1 (Nat.le_of_ble_eq_true rfl) ⟨Nat.le_of_ble_eq_true rfl, Nat.le_of_ble_eq_true rfl⟩ dL_faults_236 (fun  wa_33 H locs hI_33 hw_33 Y => ?_)
  have hW_33 := hW_32.trans hw_33
  refine lv_aload_n hx hb dL_faults_239 rfl (lv_at hl 0 rfl) ?_
  refine lv_bipush (v := 11) hx hb dL_faults_240 (by decide) ?_
  refine qSI (al := []) (wa := wa_33) (As := [.ref (Q 0), .int 11]) (rest := []) (c2 := 7) (s2 := 28) X Y (c_isFault l D cyC cyI sb sL xs hI_33 11 hm rdF_9.1 rdF_9.2) gL_faults_L_isFault rfl ⟨rfl, rfl⟩ hdq_L_isFault.2 ⟨Nat.le_of_ble_eq_true rfl, Nat.le_of_ble_eq_true rfl⟩ rfl rfl rfl rfl hl.1 (Nat.le_of_ble_eq_true rfl) ⟨Nat.le_of_ble_eq_true rfl, Nat.le_of_ble_eq_true rfl⟩ dL_faults_242 (fun r_35 wa_34 H locs hI_34 hw_34 Y => ?_)
  have hW_34 := hW_33.trans hw_34
  obtain ⟨er_35, hI_34⟩ := hI_34
  subst er_35
  refine lv_if_ne (tgt := 250) hx hb dL_faults_245 (by decide) (fun _ => ?_) (fun c_ => absurd c_ (by decide))
  refine lv_aload_n hx hb dL_faults_250 rfl (lv_at hl 0 rfl) ?_
  refine lv_bipush (v := 10) hx hb dL_faults_251 (by decide) ?_
  refine lv_bipush (v := 12) hx hb dL_faults_253 (by decide) ?_
  refine lv_bipush (v := 6) hx hb dL_faults_255 (by decide) ?_
  refine qSV (al := []) (wa := wa_34) (As := [.ref (Q 0), .int 10, .int 12, .int 6]) (rest := []) (c2 := 7) (s2 := 28) X Y (c_most l D cyC cyI sb sL xs hI_34 10 12 6 (by decide) (by decide) (by decide) (by decide)) gL_faults_L_most rfl ⟨rfl, rfl⟩ hdq_L_most.2 ⟨Nat.le_of_ble_eq_true rfl, Nat.le_of_ble_eq_true rfl⟩ rfl rfl rfl rfl hl.1 (Nat.le_of_ble_eq_true rfl) ⟨Nat.le_of_ble_eq_true rfl, Nat.le_of_ble_eq_true rfl⟩ dL_faults_257 (fun  wa_36 H locs hI_36 hw_36 Y => ?_)
  have hW_36 := hW_34.trans hw_36
  refine lv_aload_n hx hb dL_faults_260 rfl (lv_at hl 0 rfl) ?_
  refine lv_iconst (v := 0) hx hb dL_faults_261 (by decide) ?_
  refine qSI (al := []) (wa := wa_36) (As := [.ref (Q 0), .int 0]) (rest := []) (c2 := 7) (s2 := 28) X Y (c_isFault l D cyC cyI sb sL xs hI_36 0 hm rdF_10.1 rdF_10.2) gL_faults_L_isFault rfl ⟨rfl, rfl⟩ hdq_L_isFault.2 ⟨Nat.le_of_ble_eq_true rfl, Nat.le_of_ble_eq_true rfl⟩ rfl rfl rfl rfl hl.1 (Nat.le_of_ble_eq_true rfl) ⟨Nat.le_of_ble_eq_true rfl, Nat.le_of_ble_eq_true rfl⟩ dL_faults_262 (fun r_38 wa_37 H locs hI_37 hw_37 Y => ?_)
  have hW_37 := hW_36.trans hw_37
  obtain ⟨er_38, hI_37⟩ := hI_37
  subst er_38
  refine lv_if_ne (tgt := 270) hx hb dL_faults_265 (by decide) (fun _ => ?_) (fun c_ => absurd c_ (by decide))
  refine lv_aload_n hx hb dL_faults_270 rfl (lv_at hl 0 rfl) ?_
  refine lv_iconst (v := 2) hx hb dL_faults_271 (by decide) ?_
  refine lv_bipush (v := 41) hx hb dL_faults_272 (by decide) ?_
  refine lv_bipush (v := 6) hx hb dL_faults_274 (by decide) ?_
  refine qSV (al := []) (wa := wa_37) (As := [.ref (Q 0), .int 2, .int 41, .int 6]) (rest := []) (c2 := 7) (s2 := 28) X Y (c_most l D cyC cyI sb sL xs hI_37 2 41 6 (by decide) (by decide) (by decide) (by decide)) gL_faults_L_most rfl ⟨rfl, rfl⟩ hdq_L_most.2 ⟨Nat.le_of_ble_eq_true rfl, Nat.le_of_ble_eq_true rfl⟩ rfl rfl rfl rfl hl.1 (Nat.le_of_ble_eq_true rfl) ⟨Nat.le_of_ble_eq_true rfl, Nat.le_of_ble_eq_true rfl⟩ dL_faults_276 (fun  wa_39 H locs hI_39 hw_39 Y => ?_)
  have hW_39 := hW_37.trans hw_39
  refine lv_aload_n hx hb dL_faults_279 rfl (lv_at hl 0 rfl) ?_
  refine lv_iconst (v := 0) hx hb dL_faults_280 (by decide) ?_
  refine qSI (al := []) (wa := wa_39) (As := [.ref (Q 0), .int 0]) (rest := []) (c2 := 7) (s2 := 28) X Y (c_isFault l D cyC cyI sb sL xs hI_39 0 hm rdF_11.1 rdF_11.2) gL_faults_L_isFault rfl ⟨rfl, rfl⟩ hdq_L_isFault.2 ⟨Nat.le_of_ble_eq_true rfl, Nat.le_of_ble_eq_true rfl⟩ rfl rfl rfl rfl hl.1 (Nat.le_of_ble_eq_true rfl) ⟨Nat.le_of_ble_eq_true rfl, Nat.le_of_ble_eq_true rfl⟩ dL_faults_281 (fun r_41 wa_40 H locs hI_40 hw_40 Y => ?_)
  have hW_40 := hW_39.trans hw_40
  obtain ⟨er_41, hI_40⟩ := hI_40
  subst er_41
  refine lv_if_ne (tgt := 289) hx hb dL_faults_284 (by decide) (fun _ => ?_) (fun c_ => absurd c_ (by decide))
  refine lv_aload_n hx hb dL_faults_289 rfl (lv_at hl 0 rfl) ?_
  refine lv_iconst (v := 2) hx hb dL_faults_290 (by decide) ?_
  refine lv_iconst (v := 0) hx hb dL_faults_291 (by decide) ?_
  refine lv_bipush (v := 6) hx hb dL_faults_292 (by decide) ?_
  refine qSV (al := []) (wa := wa_40) (As := [.ref (Q 0), .int 2, .int 0, .int 6]) (rest := []) (c2 := 7) (s2 := 28) X Y (c_most l D cyC cyI sb sL xs hI_40 2 0 6 (by decide) (by decide) (by decide) (by decide)) gL_faults_L_most rfl ⟨rfl, rfl⟩ hdq_L_most.2 ⟨Nat.le_of_ble_eq_true rfl, Nat.le_of_ble_eq_true rfl⟩ rfl rfl rfl rfl hl.1 (Nat.le_of_ble_eq_true rfl) ⟨Nat.le_of_ble_eq_true rfl, Nat.le_of_ble_eq_true rfl⟩ dL_faults_294 (fun  wa_42 H locs hI_42 hw_42 Y => ?_)
  have hW_42 := hW_40.trans hw_42
  refine lv_aload_n hx hb dL_faults_297 rfl (lv_at hl 0 rfl) ?_
  refine lv_iconst (v := 0) hx hb dL_faults_298 (by decide) ?_
  refine qSI (al := []) (wa := wa_42) (As := [.ref (Q 0), .int 0]) (rest := []) (c2 := 7) (s2 := 28) X Y (c_isFault l D cyC cyI sb sL xs hI_42 0 hm rdF_12.1 rdF_12.2) gL_faults_L_isFault rfl ⟨rfl, rfl⟩ hdq_L_isFault.2 ⟨Nat.le_of_ble_eq_true rfl, Nat.le_of_ble_eq_true rfl⟩ rfl rfl rfl rfl hl.1 (Nat.le_of_ble_eq_true rfl) ⟨Nat.le_of_ble_eq_true rfl, Nat.le_of_ble_eq_true rfl⟩ dL_faults_299 (fun r_44 wa_43 H locs hI_43 hw_43 Y => ?_)
  have hW_43 := hW_42.trans hw_43
  obtain ⟨er_44, hI_43⟩ := hI_43
  subst er_44
  refine lv_if_ne (tgt := 307) hx hb dL_faults_302 (by decide) (fun _ => ?_) (fun c_ => absurd c_ (by decide))
  refine lv_aload_n hx hb dL_faults_307 rfl (lv_at hl 0 rfl) ?_
  refine lv_iconst (v := 2) hx hb dL_faults_308 (by decide) ?_
  refine lv_bipush (v := 12) hx hb dL_faults_309 (by decide) ?_
  refine lv_bipush (v := 41) hx hb dL_faults_311 (by decide) ?_
  refine qSV (al := []) (wa := wa_43) (As := [.ref (Q 0), .int 2, .int 12, .int 41]) (rest := []) (c2 := 7) (s2 := 28) X Y (c_most l D cyC cyI sb sL xs hI_43 2 12 41 (by decide) (by decide) (by decide) (by decide)) gL_faults_L_most rfl ⟨rfl, rfl⟩ hdq_L_most.2 ⟨Nat.le_of_ble_eq_true rfl, Nat.le_of_ble_eq_true rfl⟩ rfl rfl rfl rfl hl.1 (Nat.le_of_ble_eq_true rfl) ⟨Nat.le_of_ble_eq_true rfl, Nat.le_of_ble_eq_true rfl⟩ dL_faults_313 (fun  wa_45 H locs hI_45 hw_45 Y => ?_)
  have hW_45 := hW_43.trans hw_45
  refine lv_aload_n hx hb dL_faults_316 rfl (lv_at hl 0 rfl) ?_
  refine lv_iconst (v := 0) hx hb dL_faults_317 (by decide) ?_
  refine qSI (al := []) (wa := wa_45) (As := [.ref (Q 0), .int 0]) (rest := []) (c2 := 7) (s2 := 28) X Y (c_isFault l D cyC cyI sb sL xs hI_45 0 hm rdF_13.1 rdF_13.2) gL_faults_L_isFault rfl ⟨rfl, rfl⟩ hdq_L_isFault.2 ⟨Nat.le_of_ble_eq_true rfl, Nat.le_of_ble_eq_true rfl⟩ rfl rfl rfl rfl hl.1 (Nat.le_of_ble_eq_true rfl) ⟨Nat.le_of_ble_eq_true rfl, Nat.le_of_ble_eq_true rfl⟩ dL_faults_318 (fun r_47 wa_46 H locs hI_46 hw_46 Y => ?_)
  have hW_46 := hW_45.trans hw_46
  obtain ⟨er_47, hI_46⟩ := hI_46
  subst er_47
  refine lv_if_ne (tgt := 326) hx hb dL_faults_321 (by decide) (fun _ => ?_) (fun c_ => absurd c_ (by decide))
  refine lv_aload_n hx hb dL_faults_326 rfl (lv_at hl 0 rfl) ?_
  refine lv_bipush (v := 107) hx hb dL_faults_327 (by decide) ?_
  refine lv_bipush (v := 50) hx hb dL_faults_329 (by decide) ?_
  refine lv_bipush (v := 44) hx hb dL_faults_331 (by decide) ?_
  refine lv_bipush (v := 49) hx hb dL_faults_333 (by decide) ?_
  refine qSV (al := []) (wa := wa_46) (As := [.ref (Q 0), .int 107, .int 50, .int 44, .int 49]) (rest := []) (c2 := 8) (s2 := 32) X Y (c_says l D cyC cyI sb sL xs hI_46 107 50 44 49 (by decide) (by decide)) gL_faults_L_says rfl ⟨rfl, rfl⟩ hdq_L_says.2 ⟨Nat.le_of_ble_eq_true rfl, Nat.le_of_ble_eq_true rfl⟩ rfl rfl rfl rfl hl.1 (Nat.le_of_ble_eq_true rfl) ⟨Nat.le_of_ble_eq_true rfl, Nat.le_of_ble_eq_true rfl⟩ dL_faults_335 (fun  wa_48 H locs hI_48 hw_48 Y => ?_)
  have hW_48 := hW_46.trans hw_48
  refine lv_aload_n hx hb dL_faults_338 rfl (lv_at hl 0 rfl) ?_
  refine lv_bipush (v := 59) hx hb dL_faults_339 (by decide) ?_
  refine qVI (al := []) (As := [.int 59]) (rest := []) X Y (k_write hI_48 59 (by decide) (by decide)) gL_faults_X7_write rfl hdq_X7_write ⟨Nat.le_of_ble_eq_true rfl, Nat.le_of_ble_eq_true rfl⟩ hI_48.head rfl rfl hl.1 (Nat.le_of_ble_eq_true rfl) ⟨Nat.le_of_ble_eq_true rfl, Nat.le_of_ble_eq_true rfl⟩ dL_faults_341 (fun wa_49 H locs hI_49 hw_49 Y => ?_)
  have hW_49 := hW_48.trans hw_49
  refine lv_pop hx hb dL_faults_344 rfl ?_
  refine lv_aload_n hx hb dL_faults_345 rfl (lv_at hl 0 rfl) ?_
  refine lv_iconst (v := 0) hx hb dL_faults_346 (by decide) ?_
  refine qSI (al := []) (wa := wa_49) (As := [.ref (Q 0), .int 0]) (rest := []) (c2 := 8) (s2 := 32) X Y (c_isFault l D cyC cyI sb sL xs hI_49 0 hm rdF_14.1 rdF_14.2) gL_faults_L_isFault rfl ⟨rfl, rfl⟩ hdq_L_isFault.2 ⟨Nat.le_of_ble_eq_true rfl, Nat.le_of_ble_eq_true rfl⟩ rfl rfl rfl rfl hl.1 (Nat.le_of_ble_eq_true rfl) ⟨Nat.le_of_ble_eq_true rfl, Nat.le_of_ble_eq_true rfl⟩ dL_faults_347 (fun r_51 wa_50 H locs hI_50 hw_50 Y => ?_)
  have hW_50 := hW_49.trans hw_50
  obtain ⟨er_51, hI_50⟩ := hI_50
  subst er_51
  refine lv_if_ne (tgt := 355) hx hb dL_faults_350 (by decide) (fun _ => ?_) (fun c_ => absurd c_ (by decide))
  refine lv_aload_n hx hb dL_faults_355 rfl (lv_at hl 0 rfl) ?_
  refine lv_bipush (v := 103) hx hb dL_faults_356 (by decide) ?_
  refine lv_bipush (v := 32) hx hb dL_faults_358 (by decide) ?_
  refine lv_bipush (v := 52) hx hb dL_faults_360 (by decide) ?_
  refine lv_bipush (v := 48) hx hb dL_faults_362 (by decide) ?_
  refine qSV (al := []) (wa := wa_50) (As := [.ref (Q 0), .int 103, .int 32, .int 52, .int 48]) (rest := []) (c2 := 9) (s2 := 36) X Y (c_says l D cyC cyI sb sL xs hI_50 103 32 52 48 (by decide) (by decide)) gL_faults_L_says rfl ⟨rfl, rfl⟩ hdq_L_says.2 ⟨Nat.le_of_ble_eq_true rfl, Nat.le_of_ble_eq_true rfl⟩ rfl rfl rfl rfl hl.1 (Nat.le_of_ble_eq_true rfl) ⟨Nat.le_of_ble_eq_true rfl, Nat.le_of_ble_eq_true rfl⟩ dL_faults_364 (fun  wa_52 H locs hI_52 hw_52 Y => ?_)
  have hW_52 := hW_50.trans hw_52
  refine lv_aload_n hx hb dL_faults_367 rfl (lv_at hl 0 rfl) ?_
  refine lv_bipush (v := 59) hx hb dL_faults_368 (by decide) ?_
  refine qVI (al := []) (As := [.int 59]) (rest := []) X Y (k_write hI_52 59 (by decide) (by decide)) gL_faults_X7_write rfl hdq_X7_write ⟨Nat.le_of_ble_eq_true rfl, Nat.le_of_ble_eq_true rfl⟩ hI_52.head rfl rfl hl.1 (Nat.le_of_ble_eq_true rfl) ⟨Nat.le_of_ble_eq_true rfl, Nat.le_of_ble_eq_true rfl⟩ dL_faults_370 (fun wa_53 H locs hI_53 hw_53 Y => ?_)
  have hW_53 := hW_52.trans hw_53
  refine lv_pop hx hb dL_faults_373 rfl ?_
  refine lv_aload_n hx hb dL_faults_374 rfl (lv_at hl 0 rfl) ?_
  refine lv_iconst (v := 0) hx hb dL_faults_375 (by decide) ?_
  refine qSI (al := []) (wa := wa_53) (As := [.ref (Q 0), .int 0]) (rest := []) (c2 := 9) (s2 := 36) X Y (c_isFault l D cyC cyI sb sL xs hI_53 0 hm rdF_15.1 rdF_15.2) gL_faults_L_isFault rfl ⟨rfl, rfl⟩ hdq_L_isFault.2 ⟨Nat.le_of_ble_eq_true rfl, Nat.le_of_ble_eq_true rfl⟩ rfl rfl rfl rfl hl.1 (Nat.le_of_ble_eq_true rfl) ⟨Nat.le_of_ble_eq_true rfl, Nat.le_of_ble_eq_true rfl⟩ dL_faults_376 (fun r_55 wa_54 H locs hI_54 hw_54 Y => ?_)
  have hW_54 := hW_53.trans hw_54
  obtain ⟨er_55, hI_54⟩ := hI_54
  subst er_55
  refine lv_if_ne (tgt := 384) hx hb dL_faults_379 (by decide) (fun _ => ?_) (fun c_ => absurd c_ (by decide))
  refine lv_aload_n hx hb dL_faults_384 rfl (lv_at hl 0 rfl) ?_
  refine lv_iconst (v := 0) hx hb dL_faults_385 (by decide) ?_
  refine lv_sipush (v := 470) hx hb dL_faults_386 (by decide) ?_
  refine lv_bipush (v := 30) hx hb dL_faults_389 (by decide) ?_
  refine lv_iconst (v := 0) hx hb dL_faults_391 (by decide) ?_
  refine qSV (al := []) (wa := wa_54) (As := [.ref (Q 0), .int 0, .int 470, .int 30, .int 0]) (rest := []) (c2 := 9) (s2 := 36) X Y (c_crane l D cyC cyI sb sL xs hI_54 0 470 30 0 (by decide) (by decide) (by decide) (by decide) (by decide)) gL_faults_L_crane rfl ⟨rfl, rfl⟩ hdq_L_crane.2 ⟨Nat.le_of_ble_eq_true rfl, Nat.le_of_ble_eq_true rfl⟩ rfl rfl rfl rfl hl.1 (Nat.le_of_ble_eq_true rfl) ⟨Nat.le_of_ble_eq_true rfl, Nat.le_of_ble_eq_true rfl⟩ dL_faults_392 (fun  wa_56 H locs hI_56 hw_56 Y => ?_)
  have hW_56 := hW_54.trans hw_56
  refine lv_aload_n hx hb dL_faults_395 rfl (lv_at hl 0 rfl) ?_
  refine lv_bipush (v := (-4)) hx hb dL_faults_396 (by decide) ?_
  refine qSI (al := []) (wa := wa_56) (As := [.ref (Q 0), .int (-4)]) (rest := []) (c2 := 9) (s2 := 36) X Y (c_isFault l D cyC cyI sb sL xs hI_56 (-4) hm rdF_16.1 rdF_16.2) gL_faults_L_isFault rfl ⟨rfl, rfl⟩ hdq_L_isFault.2 ⟨Nat.le_of_ble_eq_true rfl, Nat.le_of_ble_eq_true rfl⟩ rfl rfl rfl rfl hl.1 (Nat.le_of_ble_eq_true rfl) ⟨Nat.le_of_ble_eq_true rfl, Nat.le_of_ble_eq_true rfl⟩ dL_faults_398 (fun r_58 wa_57 H locs hI_57 hw_57 Y => ?_)
  have hW_57 := hW_56.trans hw_57
  obtain ⟨er_58, hI_57⟩ := hI_57
  subst er_58
  refine lv_if_ne (tgt := 406) hx hb dL_faults_401 (by decide) (fun _ => ?_) (fun c_ => absurd c_ (by decide))
  refine lv_aload_n hx hb dL_faults_406 rfl (lv_at hl 0 rfl) ?_
  refine lv_iconst (v := 1) hx hb dL_faults_407 (by decide) ?_
  refine lv_sipush (v := 601) hx hb dL_faults_408 (by decide) ?_
  refine lv_bipush (v := 30) hx hb dL_faults_411 (by decide) ?_
  refine lv_iconst (v := 0) hx hb dL_faults_413 (by decide) ?_
  refine qSV (al := []) (wa := wa_57) (As := [.ref (Q 0), .int 1, .int 601, .int 30, .int 0]) (rest := []) (c2 := 9) (s2 := 36) X Y (c_crane l D cyC cyI sb sL xs hI_57 1 601 30 0 (by decide) (by decide) (by decide) (by decide) (by decide)) gL_faults_L_crane rfl ⟨rfl, rfl⟩ hdq_L_crane.2 ⟨Nat.le_of_ble_eq_true rfl, Nat.le_of_ble_eq_true rfl⟩ rfl rfl rfl rfl hl.1 (Nat.le_of_ble_eq_true rfl) ⟨Nat.le_of_ble_eq_true rfl, Nat.le_of_ble_eq_true rfl⟩ dL_faults_414 (fun  wa_59 H locs hI_59 hw_59 Y => ?_)
  have hW_59 := hW_57.trans hw_59
  refine lv_aload_n hx hb dL_faults_417 rfl (lv_at hl 0 rfl) ?_
  refine lv_bipush (v := (-4)) hx hb dL_faults_418 (by decide) ?_
  refine qSI (al := []) (wa := wa_59) (As := [.ref (Q 0), .int (-4)]) (rest := []) (c2 := 9) (s2 := 36) X Y (c_isFault l D cyC cyI sb sL xs hI_59 (-4) hm rdF_17.1 rdF_17.2) gL_faults_L_isFault rfl ⟨rfl, rfl⟩ hdq_L_isFault.2 ⟨Nat.le_of_ble_eq_true rfl, Nat.le_of_ble_eq_true rfl⟩ rfl rfl rfl rfl hl.1 (Nat.le_of_ble_eq_true rfl) ⟨Nat.le_of_ble_eq_true rfl, Nat.le_of_ble_eq_true rfl⟩ dL_faults_420 (fun r_61 wa_60 H locs hI_60 hw_60 Y => ?_)
  have hW_60 := hW_59.trans hw_60
  obtain ⟨er_61, hI_60⟩ := hI_60
  subst er_61
  refine lv_if_ne (tgt := 428) hx hb dL_faults_423 (by decide) (fun _ => ?_) (fun c_ => absurd c_ (by decide))
  refine lv_aload_n hx hb dL_faults_428 rfl (lv_at hl 0 rfl) ?_
  refine lv_bipush (v := 101) hx hb dL_faults_429 (by decide) ?_
  refine lv_bipush (v := 52) hx hb dL_faults_431 (by decide) ?_
  refine lv_bipush (v := 48) hx hb dL_faults_433 (by decide) ?_
  refine lv_bipush (v := 48) hx hb dL_faults_435 (by decide) ?_
  refine qSV (al := []) (wa := wa_60) (As := [.ref (Q 0), .int 101, .int 52, .int 48, .int 48]) (rest := []) (c2 := 10) (s2 := 40) X Y (c_says l D cyC cyI sb sL xs hI_60 101 52 48 48 (by decide) (by decide)) gL_faults_L_says rfl ⟨rfl, rfl⟩ hdq_L_says.2 ⟨Nat.le_of_ble_eq_true rfl, Nat.le_of_ble_eq_true rfl⟩ rfl rfl rfl rfl hl.1 (Nat.le_of_ble_eq_true rfl) ⟨Nat.le_of_ble_eq_true rfl, Nat.le_of_ble_eq_true rfl⟩ dL_faults_437 (fun  wa_62 H locs hI_62 hw_62 Y => ?_)
  have hW_62 := hW_60.trans hw_62
  refine lv_aload_n hx hb dL_faults_440 rfl (lv_at hl 0 rfl) ?_
  refine lv_bipush (v := 59) hx hb dL_faults_441 (by decide) ?_
  refine qVI (al := []) (As := [.int 59]) (rest := []) X Y (k_write hI_62 59 (by decide) (by decide)) gL_faults_X7_write rfl hdq_X7_write ⟨Nat.le_of_ble_eq_true rfl, Nat.le_of_ble_eq_true rfl⟩ hI_62.head rfl rfl hl.1 (Nat.le_of_ble_eq_true rfl) ⟨Nat.le_of_ble_eq_true rfl, Nat.le_of_ble_eq_true rfl⟩ dL_faults_443 (fun wa_63 H locs hI_63 hw_63 Y => ?_)
  have hW_63 := hW_62.trans hw_63
  refine lv_pop hx hb dL_faults_446 rfl ?_
  refine lv_aload_n hx hb dL_faults_447 rfl (lv_at hl 0 rfl) ?_
  refine lv_bipush (v := (-4)) hx hb dL_faults_448 (by decide) ?_
  refine qSI (al := []) (wa := wa_63) (As := [.ref (Q 0), .int (-4)]) (rest := []) (c2 := 10) (s2 := 40) X Y (c_isFault l D cyC cyI sb sL xs hI_63 (-4) hm rdF_18.1 rdF_18.2) gL_faults_L_isFault rfl ⟨rfl, rfl⟩ hdq_L_isFault.2 ⟨Nat.le_of_ble_eq_true rfl, Nat.le_of_ble_eq_true rfl⟩ rfl rfl rfl rfl hl.1 (Nat.le_of_ble_eq_true rfl) ⟨Nat.le_of_ble_eq_true rfl, Nat.le_of_ble_eq_true rfl⟩ dL_faults_450 (fun r_65 wa_64 H locs hI_64 hw_64 Y => ?_)
  have hW_64 := hW_63.trans hw_64
  obtain ⟨er_65, hI_64⟩ := hI_64
  subst er_65
  exact qEndZ X Y hr hlk dL_faults_453 rfl (⟨rfl, hI_64⟩) hW_64 (Nat.le_of_ble_eq_true rfl) (Nat.le_of_ble_eq_true rfl)
