set_option maxHeartbeats 4000000 in
set_option maxRecDepth 100000 in
theorem law_loop {p : Program} {e : Env} {s : State} {m : MethodId} {below : List Frame} {meth : Method} {c : Code} (l : Launch) {b L : Nat} {xs : Nat → Int32} (hL : L ≤ 2048) (C0 : lw_At p s m meth c b L xs) {D : va_G} {cyC cyI : ClassId} {Q K : Nat → Nat} (X : bX p s m #[Value.ref b] c cL_law 4 wsL_law RL D cyC cyI) : ∀ (n i : Nat) (wa wb : va_W) (H : Heap) (locs : List Loc) (ls : Array Slot), 3000 ≤ i + n → i ≤ 2048 → Inv cyC cyI Q K wa wb → bY D (fun q : Nat => s.heap.size ≤ q) s.heap (wa ++ wb) H locs → lv_has ls 4 [(0, .ref b), (1, .ref (Q 0)), (2, .ref (K 0)), (3, .int (nI i))] → W p l e room_1 s m #[Value.ref b] below meth c H locs 69 6199 (lw_Z below #[Value.ref b] s) (F0 m 18 ls []) := by
  obtain ⟨hx, hb, hr, hml, hown, hts, hX, hbl, hlocks, hgv⟩ := C0
  have hbA : ¬ (fun q : Nat => s.heap.size ≤ q) b := Nat.not_le.mpr hbl
  intro n
  induction n with
  | zero => intro i wa wb H locs ls h1 h2; omega
  | succ n ih =>
    intro i wa wb H locs ls h1 h2 hI Y hl
    have nIi : (nI i).toInt = (i : Int) := nI_toInt (by omega)
    have hofL : (Int32.ofNat L).toInt = (L : Int) := nI_toInt (by omega)
    have hsub : (Int32.ofNat L - 4).toInt = (L : Int) - 4 := by
      rw [subI (by rw [hofL, show (4 : Int32).toInt = 4 by decide]; omega) (by rw [hofL, show (4 : Int32).toInt = 4 by decide]; omega), hofL, show (4 : Int32).toInt = 4 by decide]
    refine lv_iload_n hx hb dL_law_18 rfl (lv_at hl 3 rfl) ?_
    refine lv_aload_n hx hb dL_law_19 rfl (lv_at hl 0 rfl) ?_
    refine va_slen hx hb hX hbl hbA Y.2.2.1 dL_law_20 ?_
    refine lv_iconst (v := 4) hx hb dL_law_21 (by decide) ?_
    refine bSub (v := Int32.ofNat L - 4) X dL_law_22 rfl ?_
    refine lv_icmp_gt (tgt := 741) hx hb dL_law_23 (by decide) (fun cg => ?_) (fun cg => ?_)
    · refine lv_iconst (v := 1) hx hb dL_law_741 (by decide) ?_
      refine va_forget (fun q hq => Y.2.2.1.2.2 q hq) ?_
      exact lw_ret hx hb hr hlocks dL_law_742
    have hi4 : i + 4 ≤ L := by
      have cg2 : ¬ (Int32.ofNat L - 4 < nI i) := cg
      rw [ltI, hsub, nIi] at cg2
      omega
    have nx : Nx p l e s m below meth c (lw_Z below #[Value.ref b] s) b D cyC cyI Q K i := by
      intro wa1 wb1 H1 locs1 ls1 hI1 Y1 hl1
      refine lv_iinc (v := nI (i + 4)) (lv' := [(3, .int (nI (i + 4))), (0, .ref b), (1, .ref (Q 0)), (2, .ref (K 0))]) hx hb dL_law_735 hl1 (k := 3) rfl (nI_sum (a := i) (b := 4) rfl (by decide) rfl) (by decide) rfl (fun ls2 hl2 => ?_)
      refine lv_goto (tgt := 18) hx hb dL_law_738 (by decide) ?_
      exact ih (i + 4) wa1 wb1 H1 locs1 ls2 (by omega) (by omega) hI1 Y1 (lv_sub hl2 [1, 2, 3, 0] rfl)
    refine lv_aload_n hx hb dL_law_26 rfl (lv_at hl 0 rfl) ?_
    refine lv_iload_n hx hb dL_law_27 rfl (lv_at hl 3 rfl) ?_
    refine va_sld hx hb hX hbl hbA Y.2.2.1 (bIn (by omega) (by omega)) dL_law_28 ?_
    refine lv_bipush (v := 31) hx hb dL_law_29 (by decide) ?_
    refine bAnd (v := (xs (nI i).toNatClampNeg) &&& (31 : Int32)) X dL_law_31 rfl ?_
    by_cases c0 : (xs (nI i).toNatClampNeg) &&& (31 : Int32) = 0
    · refine lv_tableIn (tgt := 132) (off := 100) hx hb dL_law_32 (by rw [c0]; decide) (by rw [c0]; decide) (by rw [c0]; decide +kernel) (by decide) ?_
      exact arm_0 X hX hbl hL hi4 Y hI hl nx
    by_cases c1 : (xs (nI i).toNatClampNeg) &&& (31 : Int32) = 1
    · refine lv_tableIn (tgt := 155) (off := 123) hx hb dL_law_32 (by rw [c1]; decide) (by rw [c1]; decide) (by rw [c1]; decide +kernel) (by decide) ?_
      exact arm_1 X hX hbl hL hi4 Y hI hl nx
    by_cases c2 : (xs (nI i).toNatClampNeg) &&& (31 : Int32) = 2
    · refine lv_tableIn (tgt := 168) (off := 136) hx hb dL_law_32 (by rw [c2]; decide) (by rw [c2]; decide) (by rw [c2]; decide +kernel) (by decide) ?_
      exact arm_2 X hX hbl hL hi4 Y hI hl nx
    by_cases c3 : (xs (nI i).toNatClampNeg) &&& (31 : Int32) = 3
    · refine lv_tableIn (tgt := 181) (off := 149) hx hb dL_law_32 (by rw [c3]; decide) (by rw [c3]; decide) (by rw [c3]; decide +kernel) (by decide) ?_
      exact arm_3 X hX hbl hL hi4 Y hI hl nx
    by_cases c4 : (xs (nI i).toNatClampNeg) &&& (31 : Int32) = 4
    · refine lv_tableIn (tgt := 194) (off := 162) hx hb dL_law_32 (by rw [c4]; decide) (by rw [c4]; decide) (by rw [c4]; decide +kernel) (by decide) ?_
      exact arm_4 X hX hbl hL hi4 Y hI hl nx
    by_cases c5 : (xs (nI i).toNatClampNeg) &&& (31 : Int32) = 5
    · refine lv_tableIn (tgt := 227) (off := 195) hx hb dL_law_32 (by rw [c5]; decide) (by rw [c5]; decide) (by rw [c5]; decide +kernel) (by decide) ?_
      exact arm_5 X hX hbl hL hi4 Y hI hl nx
    by_cases c6 : (xs (nI i).toNatClampNeg) &&& (31 : Int32) = 6
    · refine lv_tableIn (tgt := 270) (off := 238) hx hb dL_law_32 (by rw [c6]; decide) (by rw [c6]; decide) (by rw [c6]; decide +kernel) (by decide) ?_
      exact arm_6 X hX hbl hL hi4 Y hI hl nx
    by_cases c7 : (xs (nI i).toNatClampNeg) &&& (31 : Int32) = 7
    · refine lv_tableIn (tgt := 303) (off := 271) hx hb dL_law_32 (by rw [c7]; decide) (by rw [c7]; decide) (by rw [c7]; decide +kernel) (by decide) ?_
      exact arm_7 X hX hbl hL hi4 Y hI hl nx
    by_cases c8 : (xs (nI i).toNatClampNeg) &&& (31 : Int32) = 8
    · refine lv_tableIn (tgt := 336) (off := 304) hx hb dL_law_32 (by rw [c8]; decide) (by rw [c8]; decide) (by rw [c8]; decide +kernel) (by decide) ?_
      exact arm_8 X hX hbl hL hi4 Y hI hl nx
    by_cases c9 : (xs (nI i).toNatClampNeg) &&& (31 : Int32) = 9
    · refine lv_tableIn (tgt := 359) (off := 327) hx hb dL_law_32 (by rw [c9]; decide) (by rw [c9]; decide) (by rw [c9]; decide +kernel) (by decide) ?_
      exact arm_9 X hX hbl hL hi4 Y hI hl nx
    by_cases c10 : (xs (nI i).toNatClampNeg) &&& (31 : Int32) = 10
    · refine lv_tableIn (tgt := 382) (off := 350) hx hb dL_law_32 (by rw [c10]; decide) (by rw [c10]; decide) (by rw [c10]; decide +kernel) (by decide) ?_
      exact arm_10 X hX hbl hL hi4 Y hI hl nx
    by_cases c11 : (xs (nI i).toNatClampNeg) &&& (31 : Int32) = 11
    · refine lv_tableIn (tgt := 395) (off := 363) hx hb dL_law_32 (by rw [c11]; decide) (by rw [c11]; decide) (by rw [c11]; decide +kernel) (by decide) ?_
      exact arm_11 X hX hbl hL hi4 Y hI hl nx
    by_cases c12 : (xs (nI i).toNatClampNeg) &&& (31 : Int32) = 12
    · refine lv_tableIn (tgt := 428) (off := 396) hx hb dL_law_32 (by rw [c12]; decide) (by rw [c12]; decide) (by rw [c12]; decide +kernel) (by decide) ?_
      exact arm_12 X hX hbl hL hi4 Y hI hl nx
    by_cases c13 : (xs (nI i).toNatClampNeg) &&& (31 : Int32) = 13
    · refine lv_tableIn (tgt := 471) (off := 439) hx hb dL_law_32 (by rw [c13]; decide) (by rw [c13]; decide) (by rw [c13]; decide +kernel) (by decide) ?_
      exact arm_13 X hX hbl hL hi4 Y hI hl nx
    by_cases c14 : (xs (nI i).toNatClampNeg) &&& (31 : Int32) = 14
    · refine lv_tableIn (tgt := 494) (off := 462) hx hb dL_law_32 (by rw [c14]; decide) (by rw [c14]; decide) (by rw [c14]; decide +kernel) (by decide) ?_
      exact arm_14 X hX hbl hL hi4 Y hI hl nx
    by_cases c15 : (xs (nI i).toNatClampNeg) &&& (31 : Int32) = 15
    · refine lv_tableIn (tgt := 517) (off := 485) hx hb dL_law_32 (by rw [c15]; decide) (by rw [c15]; decide) (by rw [c15]; decide +kernel) (by decide) ?_
      exact arm_15 X hX hbl hL hi4 Y hI hl nx
    by_cases c16 : (xs (nI i).toNatClampNeg) &&& (31 : Int32) = 16
    · refine lv_tableIn (tgt := 560) (off := 528) hx hb dL_law_32 (by rw [c16]; decide) (by rw [c16]; decide) (by rw [c16]; decide +kernel) (by decide) ?_
      exact arm_16 X hX hbl hL hi4 Y hI hl nx
    by_cases c17 : (xs (nI i).toNatClampNeg) &&& (31 : Int32) = 17
    · refine lv_tableIn (tgt := 603) (off := 571) hx hb dL_law_32 (by rw [c17]; decide) (by rw [c17]; decide) (by rw [c17]; decide +kernel) (by decide) ?_
      exact arm_17 X hX hbl hL hi4 Y hI hl nx
    by_cases c18 : (xs (nI i).toNatClampNeg) &&& (31 : Int32) = 18
    · refine lv_tableIn (tgt := 646) (off := 614) hx hb dL_law_32 (by rw [c18]; decide) (by rw [c18]; decide) (by rw [c18]; decide +kernel) (by decide) ?_
      exact arm_18 X hX hbl hL hi4 Y hI hl nx
    by_cases c19 : (xs (nI i).toNatClampNeg) &&& (31 : Int32) = 19
    · refine lv_tableIn (tgt := 669) (off := 637) hx hb dL_law_32 (by rw [c19]; decide) (by rw [c19]; decide) (by rw [c19]; decide +kernel) (by decide) ?_
      exact arm_19 X hX hbl hL hi4 Y hI hl nx
    by_cases c20 : (xs (nI i).toNatClampNeg) &&& (31 : Int32) = 20
    · refine lv_tableIn (tgt := 712) (off := 680) hx hb dL_law_32 (by rw [c20]; decide) (by rw [c20]; decide) (by rw [c20]; decide +kernel) (by decide) ?_
      exact arm_20 X hX hbl hL hi4 Y hI hl nx
    refine lv_tableOut (tgt := 735) hx hb dL_law_32 (by have n0 := bNeI c0 (show (0 : Int32).toInt = 0 by decide); have n1 := bNeI c1 (show (1 : Int32).toInt = 1 by decide); have n2 := bNeI c2 (show (2 : Int32).toInt = 2 by decide); have n3 := bNeI c3 (show (3 : Int32).toInt = 3 by decide); have n4 := bNeI c4 (show (4 : Int32).toInt = 4 by decide); have n5 := bNeI c5 (show (5 : Int32).toInt = 5 by decide); have n6 := bNeI c6 (show (6 : Int32).toInt = 6 by decide); have n7 := bNeI c7 (show (7 : Int32).toInt = 7 by decide); have n8 := bNeI c8 (show (8 : Int32).toInt = 8 by decide); have n9 := bNeI c9 (show (9 : Int32).toInt = 9 by decide); have n10 := bNeI c10 (show (10 : Int32).toInt = 10 by decide); have n11 := bNeI c11 (show (11 : Int32).toInt = 11 by decide); have n12 := bNeI c12 (show (12 : Int32).toInt = 12 by decide); have n13 := bNeI c13 (show (13 : Int32).toInt = 13 by decide); have n14 := bNeI c14 (show (14 : Int32).toInt = 14 by decide); have n15 := bNeI c15 (show (15 : Int32).toInt = 15 by decide); have n16 := bNeI c16 (show (16 : Int32).toInt = 16 by decide); have n17 := bNeI c17 (show (17 : Int32).toInt = 17 by decide); have n18 := bNeI c18 (show (18 : Int32).toInt = 18 by decide); have n19 := bNeI c19 (show (19 : Int32).toInt = 19 by decide); have n20 := bNeI c20 (show (20 : Int32).toInt = 20 by decide); omega) (by decide) ?_
    exact nx wa wb H locs ls hI Y hl
theorem cll_X7 : Cond.classLink RL 7 RX7 ∈ wsL_law := List.mem_of_getElem? (i := 0) (by decide +kernel)
theorem isl_X7 : Cond.instantiable RX7 10 ∈ wsL_law := List.mem_of_getElem? (i := 1) (by decide +kernel)
theorem nil_X7 : Cond.initialized RX7 ∈ wsL_law := List.mem_of_getElem? (i := 2) (by decide +kernel)
theorem lkl_X7 : Cond.methodLink RL 9 yX7_init ∈ wsL_law := List.mem_of_getElem? (i := 6) (by decide +kernel)
theorem iml_X7 : Cond.instanceMethod yX7_init ∈ wsL_law := List.mem_of_getElem? (i := 7) (by decide +kernel)
theorem hdl_X7_init : bD1 yX7_init RX7 0 := by decide +kernel
theorem cll_X8 : Cond.classLink RL 10 RX8 ∈ wsL_law := List.mem_of_getElem? (i := 3) (by decide +kernel)
theorem isl_X8 : Cond.instantiable RX8 9 ∈ wsL_law := List.mem_of_getElem? (i := 4) (by decide +kernel)
theorem nil_X8 : Cond.initialized RX8 ∈ wsL_law := List.mem_of_getElem? (i := 5) (by decide +kernel)
theorem lkl_X8 : Cond.methodLink RL 12 yX8_init ∈ wsL_law := List.mem_of_getElem? (i := 130) (by decide +kernel)
theorem iml_X8 : Cond.instanceMethod yX8_init ∈ wsL_law := List.mem_of_getElem? (i := 131) (by decide +kernel)
theorem hdl_X8_init : bD1 yX8_init RX8 0 := by decide +kernel
set_option maxHeartbeats 8000000 in
set_option maxRecDepth 100000 in
theorem whole_start {p : Program} {e : Env} {s : State} {m : MethodId} {below : List Frame} {meth : Method} {c : Code} (l : Launch) (hflags : l.flags = flags0) {b L : Nat} {xs : Nat → Int32} (hL : L ≤ 2048) (C0 : lw_At p s m meth c b L xs) : W p l e room_1 s m #[Value.ref b] below meth c s.heap [] 0 0 (lw_Z below #[Value.ref b] s) (entryFrame m ([Value.ref b] : List Value).toArray 4) := by
  obtain ⟨D, cyC, cyI, X⟩ := lw_X C0
  have hx := X.1.1
  have hb := X.1.2.1
  have Y : bY D (fun q : Nat => s.heap.size ≤ q) s.heap [] s.heap [] := ⟨fun k q h => by simp at h, ⟨fun i j p q h => by simp at h, fun k q h => by simp at h⟩, va_S.rf, fun q h => h⟩
  have hl := lv_entry ([.ref b]) (n := 4) (Nat.le_of_ble_eq_true rfl)
  rw [lg_entry_eq]
  generalize (lg_sl ([.ref b]) ++ List.replicate (4 - (lg_sl ([.ref b])).length) Slot.unset).toArray = ls at hl ⊢
  have hl : lv_has ls 4 [(0, .ref b)] := hl
  refine bNew (T := TX7) (N := 10) (ci := 7) (fs := [.null, .null, .null, .null, .null, .null, .null, .null, .null, .int 0]) (c2 := 1) (s2 := 10) X Y inlX7 tyX7 tyX7_ok cll_X7 isl_X7 nil_X7 rfl (fun j hj => by rcases (show j = 0 ∨ j = 1 ∨ j = 2 ∨ j = 3 ∨ j = 4 ∨ j = 5 ∨ j = 6 ∨ j = 7 ∨ j = 8 ∨ j = 9 by omega) with rfl | rfl | rfl | rfl | rfl | rfl | rfl | rfl | rfl | rfl <;> rfl) (Nat.le_of_ble_eq_true rfl) (Nat.le_of_ble_eq_true rfl) rfl rfl dL_law_0 (fun qx H Y => ?_)
  refine lv_dup hx hb dL_law_3 rfl ?_
  refine bIO (As := []) (rest := [.ref qx]) (wc := [(qx, .inr (7, [.null, .null, .null, .null, .null, .null, .null, .null, .null, .int 0]))]) (wr := []) (c2 := 62) (s2 := 2863) X Y (c_initMain l D cyC cyI qx) gL_law_X7_init rfl ⟨rfl, rfl⟩ nil_X7 lkl_X7 iml_X7 rfl hdl_X7_init.2 ⟨Nat.le_of_ble_eq_true rfl, Nat.le_of_ble_eq_true rfl⟩ [0] [] rfl rfl rfl rfl (by decide) rfl rfl rfl rfl hl.1 (Nat.le_of_ble_eq_true rfl) ⟨Nat.le_of_ble_eq_true rfl, Nat.le_of_ble_eq_true rfl⟩ dL_law_4 (fun w H locs hw Y => ?_)
  obtain ⟨q_1, q_2, q_3, q_4, q_5, q_6, q_7, q_8, q_9, q_10, q_11, q_12, q_13, q_14, q_15, q_16, q_17, q_18, q_19, q_20, q_21, q_22, q_23, q_24, q_25, q_26, q_27, q_28, q_29, q_30, q_31, q_32, q_33, q_34, q_35, q_36, q_37, q_38, q_39, q_40, q_41, q_42, q_43, q_44, q_45, q_46, q_47, q_48, q_49, q_50, q_51, q_52, q_53, q_54, q_55, q_56, q_57, q_58, q_59, q_60, q_61, hw⟩ := hw
  subst hw
  refine lv_astore_n (lv' := [(1, .ref qx), (0, .ref b)]) hx hb dL_law_7 rfl hl (by decide) rfl (fun ls hl => ?_)
  refine bNew (T := TX8) (N := 9) (ci := 8) (fs := [.null, .null, .null, .null, .int 0, .null, .int 0, .int 0, .null]) (c2 := 63) (s2 := 2872) X Y inlX8 tyX8 tyX8_ok cll_X8 isl_X8 nil_X8 rfl (fun j hj => by rcases (show j = 0 ∨ j = 1 ∨ j = 2 ∨ j = 3 ∨ j = 4 ∨ j = 5 ∨ j = 6 ∨ j = 7 ∨ j = 8 by omega) with rfl | rfl | rfl | rfl | rfl | rfl | rfl | rfl | rfl <;> rfl) (Nat.le_of_ble_eq_true rfl) (Nat.le_of_ble_eq_true rfl) rfl rfl dL_law_8 (fun qm H Y => ?_)
  refine lv_dup hx hb dL_law_11 rfl ?_
  refine bIO (As := []) (rest := [.ref qm]) (wc := [(qm, .inr (8, [.null, .null, .null, .null, .int 0, .null, .int 0, .int 0, .null]))]) (wr := [(qx, .inr (7, [.ref q_1, .ref q_3, .ref q_6, .ref q_9, .ref q_12, .ref q_22, .ref q_32, .ref q_42, .ref q_52, .int 0])), (q_1, .inr (6, [.ref q_2, .int 0, .int 0])), (q_2, .inl (cyC, 200, .inl (fun _ => 0))), (q_3, .inr (2, [.ref q_4, .ref q_5, .int (-4)])), (q_4, .inr (0, [.int 0, .int 0, .int 0, .int 0, .int 0, .int 0, .int 0, .int 0, .int 0, .int 0, .int 0, .int 0, .int (bB false)])), (q_5, .inr (0, [.int 0, .int 0, .int 0, .int 0, .int 0, .int 0, .int 0, .int 0, .int 0, .int 0, .int 0, .int 0, .int (bB false)])), (q_6, .inr (1, [.int 600, .int 40, .int 2, .int 12, .int 6, .ref q_7, .ref q_8])), (q_7, .inr (4, [.int 100, .int 30, .int 0])), (q_8, .inr (4, [.int 500, .int 30, .int 0])), (q_9, .inr (1, [.int 600, .int 40, .int 2, .int 12, .int 6, .ref q_10, .ref q_11])), (q_10, .inr (4, [.int 100, .int 30, .int 0])), (q_11, .inr (4, [.int 500, .int 30, .int 0])), (q_12, .inr (5, [.ref q_13, .ref q_16, .ref q_19, .int 0])), (q_13, .inr (2, [.ref q_14, .ref q_15, .int (-4)])), (q_14, .inr (0, [.int 100, .int 0, .int 30, .int 0, .int 0, .int 0, .int 0, .int 30, .int 1, .int 0, .int (1 + 0), .int 0, .int (bB false)])), (q_15, .inr (0, [.int 500, .int 0, .int 30, .int 0, .int 0, .int 0, .int 0, .int 30, .int 1, .int 0, .int (1 + 0), .int 0, .int (bB false)])), (q_16, .inr (3, [.ref q_17, .ref q_18, .int 0])), (q_17, .inl (cyI, 120, .inl (fun _ => 0))), (q_18, .inl (cyI, 120, .inl (fun _ => 0))), (q_19, .inr (3, [.ref q_20, .ref q_21, .int 0])), (q_20, .inl (cyI, 120, .inl (fun _ => 0))), (q_21, .inl (cyI, 120, .inl (fun _ => 0))), (q_22, .inr (5, [.ref q_23, .ref q_26, .ref q_29, .int 0])), (q_23, .inr (2, [.ref q_24, .ref q_25, .int (-4)])), (q_24, .inr (0, [.int 0, .int 0, .int 0, .int 0, .int 0, .int 0, .int 0, .int 0, .int 0, .int 0, .int 0, .int 0, .int (bB false)])), (q_25, .inr (0, [.int 0, .int 0, .int 0, .int 0, .int 0, .int 0, .int 0, .int 0, .int 0, .int 0, .int 0, .int 0, .int (bB false)])), (q_26, .inr (3, [.ref q_27, .ref q_28, .int 0])), (q_27, .inl (cyI, 120, .inl (fun _ => 0))), (q_28, .inl (cyI, 120, .inl (fun _ => 0))), (q_29, .inr (3, [.ref q_30, .ref q_31, .int 0])), (q_30, .inl (cyI, 120, .inl (fun _ => 0))), (q_31, .inl (cyI, 120, .inl (fun _ => 0))), (q_32, .inr (5, [.ref q_33, .ref q_36, .ref q_39, .int 0])), (q_33, .inr (2, [.ref q_34, .ref q_35, .int (-4)])), (q_34, .inr (0, [.int 0, .int 0, .int 0, .int 0, .int 0, .int 0, .int 0, .int 0, .int 0, .int 0, .int 0, .int 0, .int (bB false)])), (q_35, .inr (0, [.int 0, .int 0, .int 0, .int 0, .int 0, .int 0, .int 0, .int 0, .int 0, .int 0, .int 0, .int 0, .int (bB false)])), (q_36, .inr (3, [.ref q_37, .ref q_38, .int 0])), (q_37, .inl (cyI, 120, .inl (fun _ => 0))), (q_38, .inl (cyI, 120, .inl (fun _ => 0))), (q_39, .inr (3, [.ref q_40, .ref q_41, .int 0])), (q_40, .inl (cyI, 120, .inl (fun _ => 0))), (q_41, .inl (cyI, 120, .inl (fun _ => 0))), (q_42, .inr (5, [.ref q_43, .ref q_46, .ref q_49, .int 0])), (q_43, .inr (2, [.ref q_44, .ref q_45, .int (-4)])), (q_44, .inr (0, [.int 0, .int 0, .int 0, .int 0, .int 0, .int 0, .int 0, .int 0, .int 0, .int 0, .int 0, .int 0, .int (bB false)])), (q_45, .inr (0, [.int 0, .int 0, .int 0, .int 0, .int 0, .int 0, .int 0, .int 0, .int 0, .int 0, .int 0, .int 0, .int (bB false)])), (q_46, .inr (3, [.ref q_47, .ref q_48, .int 0])), (q_47, .inl (cyI, 120, .inl (fun _ => 0))), (q_48, .inl (cyI, 120, .inl (fun _ => 0))), (q_49, .inr (3, [.ref q_50, .ref q_51, .int 0])), (q_50, .inl (cyI, 120, .inl (fun _ => 0))), (q_51, .inl (cyI, 120, .inl (fun _ => 0))), (q_52, .inr (5, [.ref q_53, .ref q_56, .ref q_59, .int 0])), (q_53, .inr (2, [.ref q_54, .ref q_55, .int (-4)])), (q_54, .inr (0, [.int 0, .int 0, .int 0, .int 0, .int 0, .int 0, .int 0, .int 0, .int 0, .int 0, .int 0, .int 0, .int (bB false)])), (q_55, .inr (0, [.int 0, .int 0, .int 0, .int 0, .int 0, .int 0, .int 0, .int 0, .int 0, .int 0, .int 0, .int 0, .int (bB false)])), (q_56, .inr (3, [.ref q_57, .ref q_58, .int 0])), (q_57, .inl (cyI, 120, .inl (fun _ => 0))), (q_58, .inl (cyI, 120, .inl (fun _ => 0))), (q_59, .inr (3, [.ref q_60, .ref q_61, .int 0])), (q_60, .inl (cyI, 120, .inl (fun _ => 0))), (q_61, .inl (cyI, 120, .inl (fun _ => 0)))]) (c2 := 69) (s2 := 6199) X Y (c_initModel l D cyC cyI qm) gL_law_X8_init rfl ⟨rfl, rfl⟩ nil_X8 lkl_X8 iml_X8 rfl hdl_X8_init.2 ⟨Nat.le_of_ble_eq_true rfl, Nat.le_of_ble_eq_true rfl⟩ [62] [0, 1, 2, 3, 4, 5, 6, 7, 8, 9, 10, 11, 12, 13, 14, 15, 16, 17, 18, 19, 20, 21, 22, 23, 24, 25, 26, 27, 28, 29, 30, 31, 32, 33, 34, 35, 36, 37, 38, 39, 40, 41, 42, 43, 44, 45, 46, 47, 48, 49, 50, 51, 52, 53, 54, 55, 56, 57, 58, 59, 60, 61] rfl rfl rfl rfl (by decide) rfl rfl rfl rfl hl.1 (Nat.le_of_ble_eq_true rfl) ⟨Nat.le_of_ble_eq_true rfl, Nat.le_of_ble_eq_true rfl⟩ dL_law_12 (fun w H locs hw Y => ?_)
  obtain ⟨k_1, k_2, k_3, k_4, k_5, k_6, u1, u2, hu1, hu2, hw⟩ := hw
  subst hw
  refine lv_astore_n (lv' := [(2, .ref qm), (1, .ref qx), (0, .ref b)]) hx hb dL_law_15 rfl hl (by decide) rfl (fun ls hl => ?_)
  refine lv_iconst (v := 0) hx hb dL_law_16 (by decide) ?_
  refine lv_istore_n (lv' := [(3, .int 0), (2, .ref qm), (1, .ref qx), (0, .ref b)]) hx hb dL_law_17 rfl hl (by decide) rfl (fun ls hl => ?_)
  refine law_loop l hL C0 (Q := (fun z => [qx, q_1, q_2, q_3, q_4, q_5].getD z 0)) (K := (fun z => [qm, k_1, k_2, k_3, k_4, k_5, k_6].getD z 0)) X 3000 0 _ _ _ _ _ (by omega) (by omega) ⟨(fun z => [q_6, q_7, q_8].getD z 0), (fun z => [q_9, q_10, q_11].getD z 0), (fun z => [q_12, q_13, q_14, q_15, q_16, q_17, q_18, q_19, q_20, q_21].getD z 0), (fun z => [q_22, q_23, q_24, q_25, q_26, q_27, q_28, q_29, q_30, q_31].getD z 0), (fun z => [q_32, q_33, q_34, q_35, q_36, q_37, q_38, q_39, q_40, q_41].getD z 0), (fun z => [q_42, q_43, q_44, q_45, q_46, q_47, q_48, q_49, q_50, q_51].getD z 0), (fun z => [q_52, q_53, q_54, q_55, q_56, q_57, q_58, q_59, q_60, q_61].getD z 0), (mk11 600 40 2 12 6 100 30 0 500 30 0), (mk11 600 40 2 12 6 100 30 0 500 30 0), (mk28 0 (-4) 100 0 30 0 0 0 0 30 1 0 (1 + 0) 0 500 0 30 0 0 0 0 30 1 0 (1 + 0) 0 0 0, mkB false false, mk4 (fun _ => 0) (fun _ => 0) (fun _ => 0) (fun _ => 0)), (mk28 0 (-4) 0 0 0 0 0 0 0 0 0 0 0 0 0 0 0 0 0 0 0 0 0 0 0 0 0 0, mkB false false, mk4 (fun _ => 0) (fun _ => 0) (fun _ => 0) (fun _ => 0)), (mk28 0 (-4) 0 0 0 0 0 0 0 0 0 0 0 0 0 0 0 0 0 0 0 0 0 0 0 0 0 0, mkB false false, mk4 (fun _ => 0) (fun _ => 0) (fun _ => 0) (fun _ => 0)), (mk28 0 (-4) 0 0 0 0 0 0 0 0 0 0 0 0 0 0 0 0 0 0 0 0 0 0 0 0 0 0, mkB false false, mk4 (fun _ => 0) (fun _ => 0) (fun _ => 0) (fun _ => 0)), (mk28 0 (-4) 0 0 0 0 0 0 0 0 0 0 0 0 0 0 0 0 0 0 0 0 0 0 0 0 0 0, mkB false false, mk4 (fun _ => 0) (fun _ => 0) (fun _ => 0) (fun _ => 0)), (mk25 (-4) 0 0 0 0 0 0 0 0 0 0 0 0 0 0 0 0 0 0 0 0 0 0 0 0), mkB false false, 0, 0, 0, (fun _ => 0), u2, u1, (fun _ => 0), (fun _ => 0), (fun _ => 0), (fun _ => 0), 0, 0, 0, rfl, rfl, ?_⟩ Y (lv_sub hl [3, 2, 1, 0] rfl)
  unfold s_begins8 at hu1
  unfold s_takes8 at hu2
  have hL1 := begins_G (rd := fun _ => 0) 516 0 (fun _ => 0) (by omega) (by omega) (fun i hi => rfl) hu1
  have hA1 := takes_G 516 0 (fun _ => 0) (by omega) (by omega) (fun i hi => by omega) hu2
  exact ⟨lay_S hL1 hA1 (by decide), rfl, Or.inl rfl, 0, by omega, rfl, rfl, fun i hi => by omega⟩
