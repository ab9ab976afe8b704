/-! the law's small methods, walked -/
theorem hdq_X7_write : bD1 yX7_write RX7 1 := by decide +kernel
set_option maxHeartbeats 4000000 in
set_option maxRecDepth 100000 in
theorem c_number (l : Launch) (D : va_G) (cyC cyI : ClassId) (sb sL : Nat) (xs : Nat → Int32) {Q : Nat → Nat} {r : Nat → Int32} {S : Nat → Sto} {ud : Int32} {T : List Int32} {wa : va_W} (hI : QW cyC cyI Q r S ud T wa) (v sg : Int32) (hv : 0 ≤ v.toInt ∧ v.toInt ≤ 999) (hs : 32 ≤ sg.toInt ∧ sg.toInt ≤ 126) (hT : T.length + 4 ≤ 200) : QV l yL_number wsL_number { frames := 2, cells := 0, slots := 0, locals := 43 } D cyC cyI sb sL xs [.ref (Q 0), .int v, .int sg] wa 0 0 (fun w1 => QW cyC cyI Q r S ud (T ++ dg v ++ [sg]) w1) := by
  refine QV.of (cc := cL_number) (n := 3) (ret := none) (by decide +kernel) rfl (Nat.le_of_ble_eq_true rfl) ?_
  intro p_ e_ s_ m_ bl_ me_ cd_ A_ ls X Y hr hlk hl
  have hx := X.1.1.1
  have hb := X.1.1.2.1
  have hl : lv_has ls 3 [(0, .ref (Q 0)), (1, .int v), (2, .int sg)] := hl
  have Y : bY D A_ s_.heap ([] ++ wa) s_.heap [] := Y
  have hW := Y.wpR
  refine lv_iload_n hx hb dL_number_0 rfl (lv_at hl 1 rfl) ?_
  refine lv_bipush (v := 99) hx hb dL_number_1 (by decide) ?_
  refine lv_icmp_le (tgt := 18) hx hb dL_number_3 (by decide) (fun c_1 => ?_) (fun c_1 => ?_)
  · have c_1 : v ≤ 99 := c_1
    refine lv_iload_n hx hb dL_number_18 rfl (lv_at hl 1 rfl) ?_
    refine lv_bipush (v := 9) hx hb dL_number_19 (by decide) ?_
    refine lv_icmp_le (tgt := 39) hx hb dL_number_21 (by decide) (fun c_2 => ?_) (fun c_2 => ?_)
    · have c_2 : v ≤ 9 := c_2
      refine lv_aload_n hx hb dL_number_39 rfl (lv_at hl 0 rfl) ?_
      refine lv_bipush (v := 48) hx hb dL_number_40 (by decide) ?_
      refine lv_iload_n hx hb dL_number_42 rfl (lv_at hl 1 rfl) ?_
      refine lv_bipush (v := 10) hx hb dL_number_43 (by decide) ?_
      refine bRem (v := v - v / 10 * 10) X.1 dL_number_45 (by decide) rfl ?_
      refine bAdd (v := 48 + (v - v / 10 * 10)) X.1 dL_number_46 rfl ?_
      refine qVI (al := []) (As := [.int (48 + (v - v / 10 * 10))]) (rest := []) X Y (k_write hI (48 + (v - v / 10 * 10)) (by (try simp only [List.length_append, List.length_cons, List.length_nil]); omega) (by have := (dg_b hv).2.2.2; omega)) gL_number_X7_write rfl hdq_X7_write ⟨Nat.le_of_ble_eq_true rfl, Nat.le_of_ble_eq_true rfl⟩ hI.head rfl rfl hl.1 (Nat.le_of_ble_eq_true rfl) ⟨Nat.le_of_ble_eq_true rfl, Nat.le_of_ble_eq_true rfl⟩ dL_number_47 (fun wa_3 H locs hI_3 hw_3 Y => ?_)
      have hW_3 := hW.trans hw_3
      refine lv_pop hx hb dL_number_50 rfl ?_
      refine lv_aload_n hx hb dL_number_51 rfl (lv_at hl 0 rfl) ?_
      refine lv_iload_n hx hb dL_number_52 rfl (lv_at hl 2 rfl) ?_
      refine qVI (al := []) (As := [.int sg]) (rest := []) X Y (k_write hI_3 sg (by (try simp only [List.length_append, List.length_cons, List.length_nil]); omega) hs) gL_number_X7_write rfl hdq_X7_write ⟨Nat.le_of_ble_eq_true rfl, Nat.le_of_ble_eq_true rfl⟩ hI_3.head rfl rfl hl.1 (Nat.le_of_ble_eq_true rfl) ⟨Nat.le_of_ble_eq_true rfl, Nat.le_of_ble_eq_true rfl⟩ dL_number_53 (fun wa_4 H locs hI_4 hw_4 Y => ?_)
      have hW_4 := hW_3.trans hw_4
      refine lv_pop hx hb dL_number_56 rfl ?_
      have eT : T ++ dg v ++ [sg] = ((T ++ [48 + (v - v / 10 * 10)]) ++ [sg]) := by
        unfold dg
        rw [if_pos c_1, if_pos c_2]
        simp only [List.append_assoc, List.cons_append, List.nil_append]
      exact qEndV X Y hr hlk dL_number_57 (by rw [eT]; exact hI_4) hW_4 (Nat.le_of_ble_eq_true rfl) (Nat.le_of_ble_eq_true rfl)
    · have c_2 : ¬ (v ≤ 9) := c_2
      refine lv_aload_n hx hb dL_number_24 rfl (lv_at hl 0 rfl) ?_
      refine lv_bipush (v := 48) hx hb dL_number_25 (by decide) ?_
      refine lv_iload_n hx hb dL_number_27 rfl (lv_at hl 1 rfl) ?_
      refine lv_bipush (v := 10) hx hb dL_number_28 (by decide) ?_
      refine bDiv (v := v / 10) X.1 dL_number_30 (by decide) rfl ?_
      refine lv_bipush (v := 10) hx hb dL_number_31 (by decide) ?_
      refine bRem (v := (v / 10) - (v / 10) / 10 * 10) X.1 dL_number_33 (by decide) rfl ?_
      refine bAdd (v := 48 + ((v / 10) - (v / 10) / 10 * 10)) X.1 dL_number_34 rfl ?_
      refine qVI (al := []) (As := [.int (48 + ((v / 10) - (v / 10) / 10 * 10))]) (rest := []) X Y (k_write hI (48 + ((v / 10) - (v / 10) / 10 * 10)) (by (try simp only [List.length_append, List.length_cons, List.length_nil]); omega) (by have := (dg_b hv).2.2.1; omega)) gL_number_X7_write rfl hdq_X7_write ⟨Nat.le_of_ble_eq_true rfl, Nat.le_of_ble_eq_true rfl⟩ hI.head rfl rfl hl.1 (Nat.le_of_ble_eq_true rfl) ⟨Nat.le_of_ble_eq_true rfl, Nat.le_of_ble_eq_true rfl⟩ dL_number_35 (fun wa_5 H locs hI_5 hw_5 Y => ?_)
      have hW_5 := hW.trans hw_5
      refine lv_pop hx hb dL_number_38 rfl ?_
      refine lv_aload_n hx hb dL_number_39 rfl (lv_at hl 0 rfl) ?_
      refine lv_bipush (v := 48) hx hb dL_number_40 (by decide) ?_
      refine lv_iload_n hx hb dL_number_42 rfl (lv_at hl 1 rfl) ?_
      refine lv_bipush (v := 10) hx hb dL_number_43 (by decide) ?_
      refine bRem (v := v - v / 10 * 10) X.1 dL_number_45 (by decide) rfl ?_
      refine bAdd (v := 48 + (v - v / 10 * 10)) X.1 dL_number_46 rfl ?_
      refine qVI (al := []) (As := [.int (48 + (v - v / 10 * 10))]) (rest := []) X Y (k_write hI_5 (48 + (v - v / 10 * 10)) (by (try simp only [List.length_append, List.length_cons, List.length_nil]); omega) (by have := (dg_b hv).2.2.2; omega)) gL_number_X7_write rfl hdq_X7_write ⟨Nat.le_of_ble_eq_true rfl, Nat.le_of_ble_eq_true rfl⟩ hI_5.head rfl rfl hl.1 (Nat.le_of_ble_eq_true rfl) ⟨Nat.le_of_ble_eq_true rfl, Nat.le_of_ble_eq_true rfl⟩ dL_number_47 (fun wa_6 H locs hI_6 hw_6 Y => ?_)
      have hW_6 := hW_5.trans hw_6
      refine lv_pop hx hb dL_number_50 rfl ?_
      refine lv_aload_n hx hb dL_number_51 rfl (lv_at hl 0 rfl) ?_
      refine lv_iload_n hx hb dL_number_52 rfl (lv_at hl 2 rfl) ?_
      refine qVI (al := []) (As := [.int sg]) (rest := []) X Y (k_write hI_6 sg (by (try simp only [List.length_append, List.length_cons, List.length_nil]); omega) hs) gL_number_X7_write rfl hdq_X7_write ⟨Nat.le_of_ble_eq_true rfl, Nat.le_of_ble_eq_true rfl⟩ hI_6.head rfl rfl hl.1 (Nat.le_of_ble_eq_true rfl) ⟨Nat.le_of_ble_eq_true rfl, Nat.le_of_ble_eq_true rfl⟩ dL_number_53 (fun wa_7 H locs hI_7 hw_7 Y => ?_)
      have hW_7 := hW_6.trans hw_7
      refine lv_pop hx hb dL_number_56 rfl ?_
      have eT : T ++ dg v ++ [sg] = (((T ++ [48 + ((v / 10) - (v / 10) / 10 * 10)]) ++ [48 + (v - v / 10 * 10)]) ++ [sg]) := by
        unfold dg
        rw [if_pos c_1, if_neg c_2]
        simp only [List.append_assoc, List.cons_append, List.nil_append]
      exact qEndV X Y hr hlk dL_number_57 (by rw [eT]; exact hI_7) hW_7 (Nat.le_of_ble_eq_true rfl) (Nat.le_of_ble_eq_true rfl)
  · have c_1 : ¬ (v ≤ 99) := c_1
    refine lv_aload_n hx hb dL_number_6 rfl (lv_at hl 0 rfl) ?_
    refine lv_bipush (v := 48) hx hb dL_number_7 (by decide) ?_
    refine lv_iload_n hx hb dL_number_9 rfl (lv_at hl 1 rfl) ?_
    refine lv_bipush (v := 100) hx hb dL_number_10 (by decide) ?_
    refine bDiv (v := v / 100) X.1 dL_number_12 (by decide) rfl ?_
    refine bAdd (v := 48 + (v / 100)) X.1 dL_number_13 rfl ?_
    refine qVI (al := []) (As := [.int (48 + (v / 100))]) (rest := []) X Y (k_write hI (48 + (v / 100)) (by (try simp only [List.length_append, List.length_cons, List.length_nil]); omega) (by have := (dg_b hv).2.1; omega)) gL_number_X7_write rfl hdq_X7_write ⟨Nat.le_of_ble_eq_true rfl, Nat.le_of_ble_eq_true rfl⟩ hI.head rfl rfl hl.1 (Nat.le_of_ble_eq_true rfl) ⟨Nat.le_of_ble_eq_true rfl, Nat.le_of_ble_eq_true rfl⟩ dL_number_14 (fun wa_8 H locs hI_8 hw_8 Y => ?_)
    have hW_8 := hW.trans hw_8
    refine lv_pop hx hb dL_number_17 rfl ?_
    refine lv_iload_n hx hb dL_number_18 rfl (lv_at hl 1 rfl) ?_
    refine lv_bipush (v := 9) hx hb dL_number_19 (by decide) ?_
    refine lv_icmp_le (tgt := 39) hx hb dL_number_21 (by decide) (fun c_9 => ?_) (fun c_9 => ?_)
    · exact absurd (show v ≤ 9 from c_9) (fun q => c_1 (by rw [leI, show (99 : Int32).toInt = 99 by decide]; rw [leI, show (9 : Int32).toInt = 9 by decide] at q; omega))
    · have c_9 : ¬ (v ≤ 9) := c_9
      refine lv_aload_n hx hb dL_number_24 rfl (lv_at hl 0 rfl) ?_
      refine lv_bipush (v := 48) hx hb dL_number_25 (by decide) ?_
      refine lv_iload_n hx hb dL_number_27 rfl (lv_at hl 1 rfl) ?_
      refine lv_bipush (v := 10) hx hb dL_number_28 (by decide) ?_
      refine bDiv (v := v / 10) X.1 dL_number_30 (by decide) rfl ?_
      refine lv_bipush (v := 10) hx hb dL_number_31 (by decide) ?_
      refine bRem (v := (v / 10) - (v / 10) / 10 * 10) X.1 dL_number_33 (by decide) rfl ?_
      refine bAdd (v := 48 + ((v / 10) - (v / 10) / 10 * 10)) X.1 dL_number_34 rfl ?_
      refine qVI (al := []) (As := [.int (48 + ((v / 10) - (v / 10) / 10 * 10))]) (rest := []) X Y (k_write hI_8 (48 + ((v / 10) - (v / 10) / 10 * 10)) (by (try simp only [List.length_append, List.length_cons, List.length_nil]); omega) (by have := (dg_b hv).2.2.1; omega)) gL_number_X7_write rfl hdq_X7_write ⟨Nat.le_of_ble_eq_true rfl, Nat.le_of_ble_eq_true rfl⟩ hI_8.head rfl rfl hl.1 (Nat.le_of_ble_eq_true rfl) ⟨Nat.le_of_ble_eq_true rfl, Nat.le_of_ble_eq_true rfl⟩ dL_number_35 (fun wa_10 H locs hI_10 hw_10 Y => ?_)
      have hW_10 := hW_8.trans hw_10
      refine lv_pop hx hb dL_number_38 rfl ?_
      refine lv_aload_n hx hb dL_number_39 rfl (lv_at hl 0 rfl) ?_
      refine lv_bipush (v := 48) hx hb dL_number_40 (by decide) ?_
      refine lv_iload_n hx hb dL_number_42 rfl (lv_at hl 1 rfl) ?_
      refine lv_bipush (v := 10) hx hb dL_number_43 (by decide) ?_
      refine bRem (v := v - v / 10 * 10) X.1 dL_number_45 (by decide) rfl ?_
      refine bAdd (v := 48 + (v - v / 10 * 10)) X.1 dL_number_46 rfl ?_
      refine qVI (al := []) (As := [.int (48 + (v - v / 10 * 10))]) (rest := []) X Y (k_write hI_10 (48 + (v - v / 10 * 10)) (by (try simp only [List.length_append, List.length_cons, List.length_nil]); omega) (by have := (dg_b hv).2.2.2; omega)) gL_number_X7_write rfl hdq_X7_write ⟨Nat.le_of_ble_eq_true rfl, Nat.le_of_ble_eq_true rfl⟩ hI_10.head rfl rfl hl.1 (Nat.le_of_ble_eq_true rfl) ⟨Nat.le_of_ble_eq_true rfl, Nat.le_of_ble_eq_true rfl⟩ dL_number_47 (fun wa_11 H locs hI_11 hw_11 Y => ?_)
      have hW_11 := hW_10.trans hw_11
      refine lv_pop hx hb dL_number_50 rfl ?_
      refine lv_aload_n hx hb dL_number_51 rfl (lv_at hl 0 rfl) ?_
      refine lv_iload_n hx hb dL_number_52 rfl (lv_at hl 2 rfl) ?_
      refine qVI (al := []) (As := [.int sg]) (rest := []) X Y (k_write hI_11 sg (by (try simp only [List.length_append, List.length_cons, List.length_nil]); omega) hs) gL_number_X7_write rfl hdq_X7_write ⟨Nat.le_of_ble_eq_true rfl, Nat.le_of_ble_eq_true rfl⟩ hI_11.head rfl rfl hl.1 (Nat.le_of_ble_eq_true rfl) ⟨Nat.le_of_ble_eq_true rfl, Nat.le_of_ble_eq_true rfl⟩ dL_number_53 (fun wa_12 H locs hI_12 hw_12 Y => ?_)
      have hW_12 := hW_11.trans hw_12
      refine lv_pop hx hb dL_number_56 rfl ?_
      have eT : T ++ dg v ++ [sg] = ((((T ++ [48 + (v / 100)]) ++ [48 + ((v / 10) - (v / 10) / 10 * 10)]) ++ [48 + (v - v / 10 * 10)]) ++ [sg]) := by
        unfold dg
        rw [if_neg c_1, if_neg c_9]
        simp only [List.append_assoc, List.cons_append, List.nil_append]
      exact qEndV X Y hr hlk dL_number_57 (by rw [eT]; exact hI_12) hW_12 (Nat.le_of_ble_eq_true rfl) (Nat.le_of_ble_eq_true rfl)
theorem cell_in {k : Int32} {sL : Nat} (hk : 0 ≤ k.toInt) (hs : sL ≤ 260) (hne : ¬ Int32.ofNat sL = 0) : vp_in (k - k / Int32.ofNat sL * Int32.ofNat sL) sL := by
  have e1 : (Int32.ofNat sL).toInt = (sL : Int) := nIt (k := sL) (by omega)
  have h0 : (sL : Int) ≠ 0 := fun q => hne (by rw [eqI, e1, zI]; exact q)
  have hk2 := k.toInt_lt
  have e2 : (k / Int32.ofNat sL).toInt = k.toInt / (sL : Int) := by
    rw [Int32.toInt_div_of_ne_right _ _ (by intro q; rw [q] at e1; have : (-1 : Int32).toInt = -1 := by decide
                                            omega), e1]
    exact Int.tdiv_eq_ediv_of_nonneg hk
  have d1 : 0 ≤ k.toInt / (sL : Int) := Int.ediv_nonneg hk (by omega)
  have d2 : k.toInt / (sL : Int) * (sL : Int) ≤ k.toInt := Int.ediv_mul_le _ h0
  have d3 : 0 ≤ k.toInt / (sL : Int) * (sL : Int) := Int.mul_nonneg d1 (by omega)
  have e3 : (k / Int32.ofNat sL * Int32.ofNat sL).toInt = k.toInt / (sL : Int) * (sL : Int) := by
    rw [Int32.toInt_mul, e2, e1, bmodS (by omega) (by omega)]
  have e4 : (k - k / Int32.ofNat sL * Int32.ofNat sL).toInt = k.toInt - k.toInt / (sL : Int) * (sL : Int) := by rw [subI (by rw [e3]; omega) (by rw [e3]; omega), e3]
  have m1 := Int.emod_nonneg k.toInt h0
  have m2 := Int.emod_lt_of_pos k.toInt (show 0 < (sL : Int) by omega)
  have m3 := Int.emod_def k.toInt (sL : Int)
  rw [Int.mul_comm] at m3
  intro h
  rcases h with h | h
  · rw [ltI, e4, zI] at h; omega
  · have e5 : (k - k / Int32.ofNat sL * Int32.ofNat sL).toNatClampNeg = (k - k / Int32.ofNat sL * Int32.ofNat sL).toInt.toNat := rfl
    rw [e5, e4] at h
    omega
theorem k_L_cell_8 : Cond.constant RL 8 (2654435) ∈ wsL_cell := by decide +kernel
set_option maxHeartbeats 4000000 in
set_option maxRecDepth 100000 in
theorem c_cell (l : Launch) (D : va_G) (cyC cyI : ClassId) (sb sL : Nat) (xs : Nat → Int32) {wa : va_W}  (k : Int32) (hk : 0 ≤ k.toInt) (hsL : sL ≤ 260) : QI l yL_cell wsL_cell { frames := 0, cells := 0, slots := 0, locals := 0 } D cyC cyI sb sL xs [.ref sb, .int k] wa 0 0 (fun _ w1 => w1 = wa) := by
  refine QI.of (cc := cL_cell) (n := 2) (ret := (some .int)) (by decide +kernel) rfl (Nat.le_of_ble_eq_true rfl) ?_
  intro p_ e_ s_ m_ bl_ me_ cd_ A_ ls X Y hr hlk hl
  have hx := X.1.1.1
  have hb := X.1.1.2.1
  have hl : lv_has ls 2 [(0, .ref sb), (1, .int k)] := hl
  have Y : bY D A_ s_.heap ([] ++ wa) s_.heap [] := Y
  have hW := Y.wpR
  refine lv_aload_n hx hb dL_cell_0 rfl (lv_at hl 0 rfl) ?_
  refine qLen X Y dL_cell_1 ?_
  refine lv_if_ne (tgt := 15) hx hb dL_cell_2 (by decide) (fun c_1 => ?_) (fun c_1 => ?_)
  · have c_1 : ¬ ((Int32.ofNat sL) = 0) := c_1
    refine lv_aload_n hx hb dL_cell_15 rfl (lv_at hl 0 rfl) ?_
    refine lv_iload_n hx hb dL_cell_16 rfl (lv_at hl 1 rfl) ?_
    refine lv_aload_n hx hb dL_cell_17 rfl (lv_at hl 0 rfl) ?_
    refine qLen X Y dL_cell_18 ?_
    refine bRem (v := k - k / (Int32.ofNat sL) * (Int32.ofNat sL)) X.1 dL_cell_19 c_1 rfl ?_
    refine qSld X Y (cell_in hk hsL c_1) dL_cell_20 ?_
    refine lv_iload_n hx hb dL_cell_21 rfl (lv_at hl 1 rfl) ?_
    refine lv_bipush (v := 7) hx hb dL_cell_22 (by decide) ?_
    refine bRem (v := k - k / 7 * 7) X.1 dL_cell_24 (by decide) rfl ?_
    refine bShr (v := (xs (k - k / (Int32.ofNat sL) * (Int32.ofNat sL)).toNatClampNeg) >>> ((k - k / 7 * 7) &&& 31)) X.1 dL_cell_25 rfl ?_
    refine lv_iload_n hx hb dL_cell_26 rfl (lv_at hl 1 rfl) ?_
    refine lv_aload_n hx hb dL_cell_27 rfl (lv_at hl 0 rfl) ?_
    refine qLen X Y dL_cell_28 ?_
    refine bDiv (v := k / (Int32.ofNat sL)) X.1 dL_cell_29 c_1 rfl ?_
    refine lv_bipush (v := 31) hx hb dL_cell_30 (by decide) ?_
    refine bMul (v := (k / (Int32.ofNat sL)) * 31) X.1 dL_cell_32 rfl ?_
    refine bXor (v := ((xs (k - k / (Int32.ofNat sL) * (Int32.ofNat sL)).toNatClampNeg) >>> ((k - k / 7 * 7) &&& 31)) ^^^ ((k / (Int32.ofNat sL)) * 31)) X.1 dL_cell_33 rfl ?_
    refine lv_iload_n hx hb dL_cell_34 rfl (lv_at hl 1 rfl) ?_
    refine lv_ldc (v := 2654435) hx hb X.1.1.2.2.2.1 (X.1.1.2.2.2.2 _ k_L_cell_8) dL_cell_35 ?_
    refine bMul (v := k * 2654435) X.1 dL_cell_37 rfl ?_
    refine bXor (v := (((xs (k - k / (Int32.ofNat sL) * (Int32.ofNat sL)).toNatClampNeg) >>> ((k - k / 7 * 7) &&& 31)) ^^^ ((k / (Int32.ofNat sL)) * 31)) ^^^ (k * 2654435)) X.1 dL_cell_38 rfl ?_
    exact qEndI X Y hr hlk dL_cell_39 rfl hW (Nat.le_of_ble_eq_true rfl) (Nat.le_of_ble_eq_true rfl)
  · have c_1 : (Int32.ofNat sL) = 0 := c_1
    refine lv_sipush (v := 7919) hx hb dL_cell_5 (by decide) ?_
    refine lv_iload_n hx hb dL_cell_8 rfl (lv_at hl 1 rfl) ?_
    refine bMul (v := 7919 * k) X.1 dL_cell_9 rfl ?_
    refine lv_iconst (v := 3) hx hb dL_cell_10 (by decide) ?_
    refine bAdd (v := (7919 * k) + 3) X.1 dL_cell_11 rfl ?_
    refine lv_goto (tgt := 39) hx hb dL_cell_12 (by decide) ?_
    exact qEndI X Y hr hlk dL_cell_39 rfl hW (Nat.le_of_ble_eq_true rfl) (Nat.le_of_ble_eq_true rfl)
def pre (f : Nat → Int32) : Nat → List Int32
  | 0 => []
  | k + 1 => pre f k ++ (if f k = 0 then [] else [f k])
theorem pre_len (f : Nat → Int32) : ∀ k, (pre f k).length ≤ k := by
  intro k
  induction k with
  | zero => exact Nat.le_refl _
  | succ k ih =>
    rw [pre, List.length_append]
    split
    · show _ + 0 ≤ _; omega
    · show _ + 1 ≤ _; omega
def f4 (a b c d : Int32) : Nat → Int32 := upd (upd (upd (upd (fun _ => 0) 0 a) 1 b) 2 c) 3 d
set_option maxHeartbeats 4000000 in
set_option maxRecDepth 100000 in
theorem lp_says {p_ : Program} {e_ : Env} {s_ : State} {m_ : MethodId} {bl_ : List Frame} {me_ : Method} {cd_ : Code} {A_ : Nat → Prop} (l : Launch) (D : va_G) (cyC cyI : ClassId) (sb sL : Nat) (xs : Nat → Int32) {Q : Nat → Nat} {r : Nat → Int32} {S : Nat → Sto} {ud : Int32} {T : List Int32} {wc : va_W} (a b c d : Int32) (hf : ∀ k, k < 4 → f4 a b c d k = 0 ∨ (32 ≤ (f4 a b c d k).toInt ∧ (f4 a b c d k).toInt ≤ 126)) (hT : T.length + 4 ≤ 200) (X : qX p_ s_ m_ ([.ref (Q 0), .int a, .int b, .int c, .int d] : List Value).toArray cd_ cL_says 7 wsL_says yL_says.cls D cyC cyI sb sL xs A_) (hr : me_.sig.returnType = none) (hlk : me_.locks = false) (q : Nat) : ∀ (n k : Nat), 5 ≤ k + n → k ≤ 4 → ∀ (wa : va_W) (H : Heap) (locs : List Loc) (ls : Array Slot), QW cyC cyI Q r S ud (T ++ pre (f4 a b c d) k) wa → wPerm wc wa → lv_has ls 7 [(0, .ref (Q 0)), (1, .int a), (2, .int b), (3, .int c), (4, .int d), (5, .ref q), (6, .int (nI k))] → bY D A_ s_.heap ([(q, .inl (cyI, 4, .inl (f4 a b c d)))] ++ wa) H locs → W p_ l e_ ({ frames := 2, cells := 1, slots := 4, locals := 43 } : Room) s_ m_ ([.ref (Q 0), .int a, .int b, .int c, .int d] : List Value).toArray bl_ me_ cd_ H locs 1 4 (qQV bl_ ([.ref (Q 0), .int a, .int b, .int c, .int d] : List Value).toArray s_ D wc (fun w1 => QW cyC cyI Q r S ud (T ++ pre (f4 a b c d) 4) w1) 1 4 A_) (F0 m_ 29 ls []) := by
  have hx := X.1.1.1
  have hb := X.1.1.2.1
  intro n
  induction n with
  | zero => intro k h1 h2; omega
  | succ n ih =>
    intro k h1 h2 wa H locs ls hI hW hl Y
    refine lv_iload hx hb dL_says_29 (lv_at hl 6 rfl) ?_
    refine lv_iconst (v := 4) hx hb dL_says_31 (by decide) ?_
    refine lv_icmp_ge (tgt := 59) hx hb dL_says_32 (by decide) (fun c_1 => ?_) (fun c_1 => ?_)
    · have c_1 : 4 ≤ (nI k) := c_1
      have e4 : k = 4 := by
        have c9 : 4 ≤ k := Nat.le_of_not_lt (fun q => nI_ge q (by omega) c_1)
        omega
      subst e4
      exact qEndV X Y hr hlk dL_says_59 hI hW (Nat.le_of_ble_eq_true rfl) (Nat.le_of_ble_eq_true rfl)
    · have c_1 : ¬ (4 ≤ (nI k)) := c_1
      have hk4 : k < 4 := (bLtN (by omega) (by decide)).mp (bLtN2 c_1)
      have hpl := pre_len (f4 a b c d) k
      refine lv_aload hx hb dL_says_35 (lv_at hl 5 rfl) ?_
      refine lv_iload hx hb dL_says_37 (lv_at hl 6 rfl) ?_
      refine bIald (v := f4 a b c d k) X.1 Y 0 rfl (bIn hk4 (by decide)) dL_says_39 (bIdx (by omega)) ?_
      refine lv_if_eq (tgt := 53) hx hb dL_says_40 (by decide) (fun c_2 => ?_) (fun c_2 => ?_)
      · have c_2 : (f4 a b c d k) = 0 := c_2
        refine lv_iinc (v := nI (k + 1)) (lv' := [(6, .int (nI (k + 1))), (0, .ref (Q 0)), (1, .int a), (2, .int b), (3, .int c), (4, .int d), (5, .ref q)]) hx hb dL_says_53 hl (k := 6) rfl (nI_inc _) (by decide) rfl (fun ls hl => ?_)
        refine lv_goto (tgt := 29) hx hb dL_says_56 (by decide) ?_
        have eT : T ++ pre (f4 a b c d) (k + 1) = T ++ pre (f4 a b c d) k := by
          rw [pre, if_pos c_2]
          simp only [List.append_assoc, List.append_nil]
        exact ih (k + 1) (by omega) (by omega) _ _ _ _ (by rw [eT]; exact hI) hW (lv_sub hl [1, 2, 3, 4, 5, 6, 0] rfl) Y
      · have c_2 : ¬ ((f4 a b c d k) = 0) := c_2
        refine lv_aload_n hx hb dL_says_43 rfl (lv_at hl 0 rfl) ?_
        refine lv_aload hx hb dL_says_44 (lv_at hl 5 rfl) ?_
        refine lv_iload hx hb dL_says_46 (lv_at hl 6 rfl) ?_
        refine bIald (v := f4 a b c d k) X.1 Y 0 rfl (bIn hk4 (by decide)) dL_says_48 (bIdx (by omega)) ?_
        refine qVI (al := [(q, .inl (cyI, 4, .inl (f4 a b c d)))]) (As := [.int (f4 a b c d k)]) (rest := []) X Y (k_write hI (f4 a b c d k) (by (try simp only [List.length_append, List.length_cons, List.length_nil]); omega) ((hf k hk4).resolve_left c_2)) gL_says_X7_write rfl hdq_X7_write ⟨Nat.le_of_ble_eq_true rfl, Nat.le_of_ble_eq_true rfl⟩ hI.head rfl rfl hl.1 (Nat.le_of_ble_eq_true rfl) ⟨Nat.le_of_ble_eq_true rfl, Nat.le_of_ble_eq_true rfl⟩ dL_says_49 (fun wa_3 H locs hI_3 hw_3 Y => ?_)
        have hW_3 := hW.trans hw_3
        refine lv_pop hx hb dL_says_52 rfl ?_
        refine lv_iinc (v := nI (k + 1)) (lv' := [(6, .int (nI (k + 1))), (0, .ref (Q 0)), (1, .int a), (2, .int b), (3, .int c), (4, .int d), (5, .ref q)]) hx hb dL_says_53 hl (k := 6) rfl (nI_inc _) (by decide) rfl (fun ls hl => ?_)
        refine lv_goto (tgt := 29) hx hb dL_says_56 (by decide) ?_
        have eT : T ++ pre (f4 a b c d) (k + 1) = (T ++ pre (f4 a b c d) k ++ [f4 a b c d k]) := by
          rw [pre, if_neg c_2]
          simp only [List.append_assoc, List.append_nil]
        exact ih (k + 1) (by omega) (by omega) _ _ _ _ (by rw [eT]; exact hI_3) hW_3 (lv_sub hl [1, 2, 3, 4, 5, 6, 0] rfl) Y
theorem ac_L_says_I : Cond.arrayClass .int ∈ wsL_says := by decide +kernel
set_option maxHeartbeats 4000000 in
set_option maxRecDepth 100000 in
theorem c_says (l : Launch) (D : va_G) (cyC cyI : ClassId) (sb sL : Nat) (xs : Nat → Int32) {Q : Nat → Nat} {r : Nat → Int32} {S : Nat → Sto} {ud : Int32} {T : List Int32} {wa : va_W} (hI : QW cyC cyI Q r S ud T wa) (a b c d : Int32) (hf : ∀ k, k < 4 → f4 a b c d k = 0 ∨ (32 ≤ (f4 a b c d k).toInt ∧ (f4 a b c d k).toInt ≤ 126)) (hT : T.length + 4 ≤ 200) : QV l yL_says wsL_says { frames := 2, cells := 1, slots := 4, locals := 43 } D cyC cyI sb sL xs [.ref (Q 0), .int a, .int b, .int c, .int d] wa 1 4 (fun w1 => QW cyC cyI Q r S ud (T ++ pre (f4 a b c d) 4) w1) := by
  refine QV.of (cc := cL_says) (n := 7) (ret := none) (by decide +kernel) rfl (Nat.le_of_ble_eq_true rfl) ?_
  intro p_ e_ s_ m_ bl_ me_ cd_ A_ ls X Y hr hlk hl
  have hx := X.1.1.1
  have hb := X.1.1.2.1
  have hl : lv_has ls 7 [(0, .ref (Q 0)), (1, .int a), (2, .int b), (3, .int c), (4, .int d)] := hl
  have Y : bY D A_ s_.heap ([] ++ wa) s_.heap [] := Y
  have hW := Y.wpR
  refine lv_iconst (v := 4) hx hb dL_says_0 (by decide) ?_
  refine qNewI (N := 4) (c2 := 1) (s2 := 4) X Y ac_L_says_I (by decide) (by decide) (Nat.le_of_ble_eq_true rfl) (Nat.le_of_ble_eq_true rfl) (Nat.le_of_ble_eq_true rfl) rfl rfl dL_says_1 (fun q_1 H Y => ?_)
  refine lv_astore (lv' := [(5, .ref q_1), (0, .ref (Q 0)), (1, .int a), (2, .int b), (3, .int c), (4, .int d)]) hx hb dL_says_3 hl (by decide) rfl (fun ls hl => ?_)
  refine lv_aload hx hb dL_says_5 (lv_at hl 0 rfl) ?_
  refine lv_iconst (v := 0) hx hb dL_says_7 (by decide) ?_
  refine lv_iload_n hx hb dL_says_8 rfl (lv_at hl 2 rfl) ?_
  refine bIast (f' := upd (fun _ => 0) 0 a) (ws' := [(q_1, .inl (cyI, 4, .inl (upd (fun _ => 0) 0 a)))] ++ wa) X.1 Y 0 rfl (bInD (by decide)) rfl rfl dL_says_9 (fun H locs Y => ?_)
  refine lv_aload hx hb dL_says_10 (lv_at hl 0 rfl) ?_
  refine lv_iconst (v := 1) hx hb dL_says_12 (by decide) ?_
  refine lv_iload_n hx hb dL_says_13 rfl (lv_at hl 3 rfl) ?_
  refine bIast (f' := upd (upd (fun _ => 0) 0 a) 1 b) (ws' := [(q_1, .inl (cyI, 4, .inl (upd (upd (fun _ => 0) 0 a) 1 b)))] ++ wa) X.1 Y 0 rfl (bInD (by decide)) rfl rfl dL_says_14 (fun H locs Y => ?_)
  refine lv_aload hx hb dL_says_15 (lv_at hl 0 rfl) ?_
  refine lv_iconst (v := 2) hx hb dL_says_17 (by decide) ?_
  refine lv_iload_n hx hb dL_says_18 rfl (lv_at hl 4 rfl) ?_
  refine bIast (f' := upd (upd (upd (fun _ => 0) 0 a) 1 b) 2 c) (ws' := [(q_1, .inl (cyI, 4, .inl (upd (upd (upd (fun _ => 0) 0 a) 1 b) 2 c)))] ++ wa) X.1 Y 0 rfl (bInD (by decide)) rfl rfl dL_says_19 (fun H locs Y => ?_)
  refine lv_aload hx hb dL_says_20 (lv_at hl 0 rfl) ?_
  refine lv_iconst (v := 3) hx hb dL_says_22 (by decide) ?_
  refine lv_iload hx hb dL_says_23 (lv_at hl 5 rfl) ?_
  refine bIast (f' := upd (upd (upd (upd (fun _ => 0) 0 a) 1 b) 2 c) 3 d) (ws' := [(q_1, .inl (cyI, 4, .inl (upd (upd (upd (upd (fun _ => 0) 0 a) 1 b) 2 c) 3 d)))] ++ wa) X.1 Y 0 rfl (bInD (by decide)) rfl rfl dL_says_25 (fun H locs Y => ?_)
  refine lv_iconst (v := 0) hx hb dL_says_26 (by decide) ?_
  refine lv_istore (lv' := [(6, .int 0), (5, .ref q_1), (0, .ref (Q 0)), (1, .int a), (2, .int b), (3, .int c), (4, .int d)]) hx hb dL_says_27 hl (by decide) rfl (fun ls hl => ?_)
  exact lp_says l D cyC cyI sb sL xs a b c d hf hT X hr hlk q_1 5 0 (by omega) (by omega) _ _ _ _ (by rw [show T ++ pre (f4 a b c d) 0 = T from List.append_nil T]; exact hI) hW (lv_sub hl [2, 3, 4, 5, 6, 1, 0] rfl) Y
def crT (cc x ll lo : Int32) : List Int32 := [99] ++ dg cc ++ [44] ++ dg x ++ [44] ++ dg ll ++ [44] ++ dg lo ++ [59]
def moT (aa vv hh : Int32) : List Int32 := [107] ++ dg aa ++ [44] ++ dg vv ++ [44] ++ dg hh ++ [59]
theorem hdq_L_number : bD1 yL_number RL 3 := by decide +kernel
set_option maxHeartbeats 4000000 in
set_option maxRecDepth 100000 in
theorem c_crane (l : Launch) (D : va_G) (cyC cyI : ClassId) (sb sL : Nat) (xs : Nat → Int32) {Q : Nat → Nat} {r : Nat → Int32} {S : Nat → Sto} {ud : Int32} {T : List Int32} {wa : va_W} (hI : QW cyC cyI Q r S ud T wa) (cc x ll lo : Int32) (hc0 : 0 ≤ cc.toInt ∧ cc.toInt ≤ 999) (hx0 : 0 ≤ x.toInt ∧ x.toInt ≤ 999) (hl0 : 0 ≤ ll.toInt ∧ ll.toInt ≤ 999) (hm0 : 0 ≤ lo.toInt ∧ lo.toInt ≤ 999) (hT : T.length + 20 ≤ 200) : QV l yL_crane wsL_crane { frames := 3, cells := 0, slots := 0, locals := 65 } D cyC cyI sb sL xs [.ref (Q 0), .int cc, .int x, .int ll, .int lo] wa 0 0 (fun w1 => QW cyC cyI Q r S ud (T ++ crT cc x ll lo) w1) := by
  refine QV.of (cc := cL_crane) (n := 5) (ret := none) (by decide +kernel) rfl (Nat.le_of_ble_eq_true rfl) ?_
  intro p_ e_ s_ m_ bl_ me_ cd_ A_ ls X Y hr hlk hl
  have hx := X.1.1.1
  have hb := X.1.1.2.1
  have hl : lv_has ls 5 [(0, .ref (Q 0)), (1, .int cc), (2, .int x), (3, .int ll), (4, .int lo)] := hl
  have Y : bY D A_ s_.heap ([] ++ wa) s_.heap [] := Y
  have hW := Y.wpR
  refine lv_aload_n hx hb dL_crane_0 rfl (lv_at hl 0 rfl) ?_
  refine lv_bipush (v := 99) hx hb dL_crane_1 (by decide) ?_
  refine qVI (al := []) (As := [.int 99]) (rest := []) X Y (k_write hI 99 (by (try simp only [List.length_append, List.length_cons, List.length_nil]); omega) (by decide)) gL_crane_X7_write rfl hdq_X7_write ⟨Nat.le_of_ble_eq_true rfl, Nat.le_of_ble_eq_true rfl⟩ hI.head rfl rfl hl.1 (Nat.le_of_ble_eq_true rfl) ⟨Nat.le_of_ble_eq_true rfl, Nat.le_of_ble_eq_true rfl⟩ dL_crane_3 (fun wa_1 H locs hI_1 hw_1 Y => ?_)
  have hW_1 := hW.trans hw_1
  refine lv_pop hx hb dL_crane_6 rfl ?_
  refine lv_aload_n hx hb dL_crane_7 rfl (lv_at hl 0 rfl) ?_
  refine lv_iload_n hx hb dL_crane_8 rfl (lv_at hl 1 rfl) ?_
  refine lv_bipush (v := 44) hx hb dL_crane_9 (by decide) ?_
  refine qSV (al := []) (wa := wa_1) (As := [.ref (Q 0), .int cc, .int 44]) (rest := []) (c2 := 0) (s2 := 0) X Y (c_number l D cyC cyI sb sL xs hI_1 cc 44 hc0 (by decide) (by have := (dg_b hc0).1; have := (dg_b hx0).1; have := (dg_b hl0).1; have := (dg_b hm0).1;  simp only [List.length_append, List.length_cons, List.length_nil]; omega)) gL_crane_L_number rfl ⟨rfl, rfl⟩ hdq_L_number.2 ⟨Nat.le_of_ble_eq_true rfl, Nat.le_of_ble_eq_true rfl⟩ rfl rfl rfl rfl hl.1 (Nat.le_of_ble_eq_true rfl) ⟨Nat.le_of_ble_eq_true rfl, Nat.le_of_ble_eq_true rfl⟩ dL_crane_11 (fun  wa_2 H locs hI_2 hw_2 Y => ?_)
  have hW_2 := hW_1.trans hw_2
  refine lv_aload_n hx hb dL_crane_14 rfl (lv_at hl 0 rfl) ?_
  refine lv_iload_n hx hb dL_crane_15 rfl (lv_at hl 2 rfl) ?_
  refine lv_bipush (v := 44) hx hb dL_crane_16 (by decide) ?_
  refine qSV (al := []) (wa := wa_2) (As := [.ref (Q 0), .int x, .int 44]) (rest := []) (c2 := 0) (s2 := 0) X Y (c_number l D cyC cyI sb sL xs hI_2 x 44 hx0 (by decide) (by have := (dg_b hc0).1; have := (dg_b hx0).1; have := (dg_b hl0).1; have := (dg_b hm0).1;  simp only [List.length_append, List.length_cons, List.length_nil]; omega)) gL_crane_L_number rfl ⟨rfl, rfl⟩ hdq_L_number.2 ⟨Nat.le_of_ble_eq_true rfl, Nat.le_of_ble_eq_true rfl⟩ rfl rfl rfl rfl hl.1 (Nat.le_of_ble_eq_true rfl) ⟨Nat.le_of_ble_eq_true rfl, Nat.le_of_ble_eq_true rfl⟩ dL_crane_18 (fun  wa_3 H locs hI_3 hw_3 Y => ?_)
  have hW_3 := hW_2.trans hw_3
  refine lv_aload_n hx hb dL_crane_21 rfl (lv_at hl 0 rfl) ?_
  refine lv_iload_n hx hb dL_crane_22 rfl (lv_at hl 3 rfl) ?_
  refine lv_bipush (v := 44) hx hb dL_crane_23 (by decide) ?_
  refine qSV (al := []) (wa := wa_3) (As := [.ref (Q 0), .int ll, .int 44]) (rest := []) (c2 := 0) (s2 := 0) X Y (c_number l D cyC cyI sb sL xs hI_3 ll 44 hl0 (by decide) (by have := (dg_b hc0).1; have := (dg_b hx0).1; have := (dg_b hl0).1; have := (dg_b hm0).1;  simp only [List.length_append, List.length_cons, List.length_nil]; omega)) gL_crane_L_number rfl ⟨rfl, rfl⟩ hdq_L_number.2 ⟨Nat.le_of_ble_eq_true rfl, Nat.le_of_ble_eq_true rfl⟩ rfl rfl rfl rfl hl.1 (Nat.le_of_ble_eq_true rfl) ⟨Nat.le_of_ble_eq_true rfl, Nat.le_of_ble_eq_true rfl⟩ dL_crane_25 (fun  wa_4 H locs hI_4 hw_4 Y => ?_)
  have hW_4 := hW_3.trans hw_4
  refine lv_aload_n hx hb dL_crane_28 rfl (lv_at hl 0 rfl) ?_
  refine lv_iload hx hb dL_crane_29 (lv_at hl 4 rfl) ?_
  refine lv_bipush (v := 59) hx hb dL_crane_31 (by decide) ?_
  refine qSV (al := []) (wa := wa_4) (As := [.ref (Q 0), .int lo, .int 59]) (rest := []) (c2 := 0) (s2 := 0) X Y (c_number l D cyC cyI sb sL xs hI_4 lo 59 hm0 (by decide) (by have := (dg_b hc0).1; have := (dg_b hx0).1; have := (dg_b hl0).1; have := (dg_b hm0).1;  simp only [List.length_append, List.length_cons, List.length_nil]; omega)) gL_crane_L_number rfl ⟨rfl, rfl⟩ hdq_L_number.2 ⟨Nat.le_of_ble_eq_true rfl, Nat.le_of_ble_eq_true rfl⟩ rfl rfl rfl rfl hl.1 (Nat.le_of_ble_eq_true rfl) ⟨Nat.le_of_ble_eq_true rfl, Nat.le_of_ble_eq_true rfl⟩ dL_crane_33 (fun  wa_5 H locs hI_5 hw_5 Y => ?_)
  have hW_5 := hW_4.trans hw_5
  have eT : T ++ crT cc x ll lo = (((((T ++ [99]) ++ dg cc ++ [44]) ++ dg x ++ [44]) ++ dg ll ++ [44]) ++ dg lo ++ [59]) := by
    unfold crT
    simp only [List.append_assoc, List.cons_append, List.nil_append]
  exact qEndV X Y hr hlk dL_crane_36 (by rw [eT]; exact hI_5) hW_5 (Nat.le_of_ble_eq_true rfl) (Nat.le_of_ble_eq_true rfl)
set_option maxHeartbeats 4000000 in
set_option maxRecDepth 100000 in
theorem c_most (l : Launch) (D : va_G) (cyC cyI : ClassId) (sb sL : Nat) (xs : Nat → Int32) {Q : Nat → Nat} {r : Nat → Int32} {S : Nat → Sto} {ud : Int32} {T : List Int32} {wa : va_W} (hI : QW cyC cyI Q r S ud T wa) (aa vv hh : Int32) (ha0 : 0 ≤ aa.toInt ∧ aa.toInt ≤ 999) (hv0 : 0 ≤ vv.toInt ∧ vv.toInt ≤ 999) (hh0 : 0 ≤ hh.toInt ∧ hh.toInt ≤ 999) (hT : T.length + 20 ≤ 200) : QV l yL_most wsL_most { frames := 3, cells := 0, slots := 0, locals := 65 } D cyC cyI sb sL xs [.ref (Q 0), .int aa, .int vv, .int hh] wa 0 0 (fun w1 => QW cyC cyI Q r S ud (T ++ moT aa vv hh) w1) := by
  refine QV.of (cc := cL_most) (n := 4) (ret := none) (by decide +kernel) rfl (Nat.le_of_ble_eq_true rfl) ?_
  intro p_ e_ s_ m_ bl_ me_ cd_ A_ ls X Y hr hlk hl
  have hx := X.1.1.1
  have hb := X.1.1.2.1
  have hl : lv_has ls 4 [(0, .ref (Q 0)), (1, .int aa), (2, .int vv), (3, .int hh)] := hl
  have Y : bY D A_ s_.heap ([] ++ wa) s_.heap [] := Y
  have hW := Y.wpR
  refine lv_aload_n hx hb dL_most_0 rfl (lv_at hl 0 rfl) ?_
  refine lv_bipush (v := 107) hx hb dL_most_1 (by decide) ?_
  refine qVI (al := []) (As := [.int 107]) (rest := []) X Y (k_write hI 107 (by (try simp only [List.length_append, List.length_cons, List.length_nil]); omega) (by decide)) gL_most_X7_write rfl hdq_X7_write ⟨Nat.le_of_ble_eq_true rfl, Nat.le_of_ble_eq_true rfl⟩ hI.head rfl rfl hl.1 (Nat.le_of_ble_eq_true rfl) ⟨Nat.le_of_ble_eq_true rfl, Nat.le_of_ble_eq_true rfl⟩ dL_most_3 (fun wa_1 H locs hI_1 hw_1 Y => ?_)
  have hW_1 := hW.trans hw_1
  refine lv_pop hx hb dL_most_6 rfl ?_
  refine lv_aload_n hx hb dL_most_7 rfl (lv_at hl 0 rfl) ?_
  refine lv_iload_n hx hb dL_most_8 rfl (lv_at hl 1 rfl) ?_
  refine lv_bipush (v := 44) hx hb dL_most_9 (by decide) ?_
  refine qSV (al := []) (wa := wa_1) (As := [.ref (Q 0), .int aa, .int 44]) (rest := []) (c2 := 0) (s2 := 0) X Y (c_number l D cyC cyI sb sL xs hI_1 aa 44 ha0 (by decide) (by have := (dg_b ha0).1; have := (dg_b hv0).1; have := (dg_b hh0).1;  simp only [List.length_append, List.length_cons, List.length_nil]; omega)) gL_most_L_number rfl ⟨rfl, rfl⟩ hdq_L_number.2 ⟨Nat.le_of_ble_eq_true rfl, Nat.le_of_ble_eq_true rfl⟩ rfl rfl rfl rfl hl.1 (Nat.le_of_ble_eq_true rfl) ⟨Nat.le_of_ble_eq_true rfl, Nat.le_of_ble_eq_true rfl⟩ dL_most_11 (fun  wa_2 H locs hI_2 hw_2 Y => ?_)
  have hW_2 := hW_1.trans hw_2
  refine lv_aload_n hx hb dL_most_14 rfl (lv_at hl 0 rfl) ?_
  refine lv_iload_n hx hb dL_most_15 rfl (lv_at hl 2 rfl) ?_
  refine lv_bipush (v := 44) hx hb dL_most_16 (by decide) ?_
  refine qSV (al := []) (wa := wa_2) (As := [.ref (Q 0), .int vv, .int 44]) (rest := []) (c2 := 0) (s2 := 0) X Y (c_number l D cyC cyI sb sL xs hI_2 vv 44 hv0 (by decide) (by have := (dg_b ha0).1; have := (dg_b hv0).1; have := (dg_b hh0).1;  simp only [List.length_append, List.length_cons, List.length_nil]; omega)) gL_most_L_number rfl ⟨rfl, rfl⟩ hdq_L_number.2 ⟨Nat.le_of_ble_eq_true rfl, Nat.le_of_ble_eq_true rfl⟩ rfl rfl rfl rfl hl.1 (Nat.le_of_ble_eq_true rfl) ⟨Nat.le_of_ble_eq_true rfl, Nat.le_of_ble_eq_true rfl⟩ dL_most_18 (fun  wa_3 H locs hI_3 hw_3 Y => ?_)
  have hW_3 := hW_2.trans hw_3
  refine lv_aload_n hx hb dL_most_21 rfl (lv_at hl 0 rfl) ?_
  refine lv_iload_n hx hb dL_most_22 rfl (lv_at hl 3 rfl) ?_
  refine lv_bipush (v := 59) hx hb dL_most_23 (by decide) ?_
  refine qSV (al := []) (wa := wa_3) (As := [.ref (Q 0), .int hh, .int 59]) (rest := []) (c2 := 0) (s2 := 0) X Y (c_number l D cyC cyI sb sL xs hI_3 hh 59 hh0 (by decide) (by have := (dg_b ha0).1; have := (dg_b hv0).1; have := (dg_b hh0).1;  simp only [List.length_append, List.length_cons, List.length_nil]; omega)) gL_most_L_number rfl ⟨rfl, rfl⟩ hdq_L_number.2 ⟨Nat.le_of_ble_eq_true rfl, Nat.le_of_ble_eq_true rfl⟩ rfl rfl rfl rfl hl.1 (Nat.le_of_ble_eq_true rfl) ⟨Nat.le_of_ble_eq_true rfl, Nat.le_of_ble_eq_true rfl⟩ dL_most_25 (fun  wa_4 H locs hI_4 hw_4 Y => ?_)
  have hW_4 := hW_3.trans hw_4
  have eT : T ++ moT aa vv hh = ((((T ++ [107]) ++ dg aa ++ [44]) ++ dg vv ++ [44]) ++ dg hh ++ [59]) := by
    unfold moT
    simp only [List.append_assoc, List.cons_append, List.nil_append]
  exact qEndV X Y hr hlk dL_most_28 (by rw [eT]; exact hI_4) hW_4 (Nat.le_of_ble_eq_true rfl) (Nat.le_of_ble_eq_true rfl)
