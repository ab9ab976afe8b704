/-! the law's `lays` -/
theorem pt_add {a v n : Int32} (ha : 0 ≤ a.toInt ∧ a.toInt ≤ 1000) (hn : 1 ≤ n.toInt ∧ n.toInt ≤ 1000) : a.toInt ≤ (a + pt v n).toInt ∧ (a + pt v n).toInt ≤ a.toInt + n.toInt - 1 := by
  have h := pt_b (v := v) hn.1
  rw [addI (by omega) (by omega)]
  omega
theorem pt_rng {x a v n : Int32} {A N : Int} (e : x = a + pt v n) (hA : a.toInt = A) (hN : n.toInt = N) (h1 : 0 ≤ A ∧ A ≤ 1000) (h2 : 1 ≤ N ∧ N ≤ 1000) : A ≤ x.toInt ∧ x.toInt ≤ A + N - 1 := by
  have h := pt_add (a := a) (v := v) (n := n) (by omega) (by omega)
  rw [e]
  omega
theorem nz_of {n : Int32} (h : 1 ≤ n.toInt) : ¬ n = 0 := fun q => by rw [q, zI] at h; omega
def LY (cyC cyI : ClassId) (Q : Nat → Nat) (bm : Nat) (w1 : va_W) : Prop := ∃ (wa' : va_W) (g' r' : Nat → Int32) (S' : Nat → Sto) (T' : List Int32), w1 = [(bm, .inl (cyI, 40, .inl g'))] ++ wa' ∧ QW cyC cyI Q r' S' 0 T' wa' ∧ OkS r' (S' 0) ∧ ((S' 0).1 2 = g' 8 ∧ (S' 0).1 4 = g' 10 ∧ (S' 0).1 5 = g' 11) ∧ ((S' 0).1 14 = g' 20 ∧ (S' 0).1 16 = g' 22 ∧ (S' 0).1 17 = g' 23) ∧ (S' 0).1 26 = 0 ∧ (S' 0).1 27 = 0
theorem layS_ok {m0 m1 m2 m3 m4 x1 la na x2 lb nb : Int32} (A : Nat → Nat → Int32) (h0 : 200 ≤ m0.toInt ∧ m0.toInt ≤ 999) (h1 : 10 ≤ m1.toInt ∧ m1.toInt ≤ 99) (h2 : 1 ≤ m2.toInt ∧ m2.toInt ≤ 9) (h3 : 1 ≤ m3.toInt ∧ m3.toInt ≤ 40) (h4 : 0 ≤ m4.toInt ∧ m4.toInt ≤ 40) (ha : 10 ≤ la.toInt ∧ la.toInt ≤ 60) (hb : 10 ≤ lb.toInt ∧ lb.toInt ≤ 60) (hna : 0 ≤ na.toInt ∧ na.toInt ≤ 99) (hnb : 0 ≤ nb.toInt ∧ nb.toInt ≤ 99) (hx : 0 ≤ x1.toInt ∧ x1.toInt + m1.toInt ≤ x2.toInt ∧ x2.toInt ≤ m0.toInt) : OkS (mk11 m0 m1 m2 m3 m4 x1 la na x2 lb nb) (layS x1 la na x2 lb nb A) := by
  have z0 : (0 : Int32).toInt = 0 := zI
  refine ⟨⟨⟨h0, h1, h2, h3, h4, Or.inl rfl⟩, ⟨⟨?_, ?_⟩, ha, hna, ha, ⟨?_, ?_⟩, ⟨?_, ?_⟩⟩, ⟨⟨?_, ?_⟩, hb, hnb, hb, ⟨?_, ?_⟩, ⟨?_, ?_⟩⟩, hx⟩, ⟨?_, ?_⟩, ⟨0, ?_⟩, ⟨0, ?_⟩⟩
  · show -m3.toInt ≤ (0 : Int32).toInt; omega
  · show (0 : Int32).toInt ≤ m3.toInt; omega
  · show -9999 ≤ (0 : Int32).toInt; omega
  · show (0 : Int32).toInt ≤ 9999; omega
  · show -9999 ≤ (0 : Int32).toInt; omega
  · show (0 : Int32).toInt ≤ 9999; omega
  · show -m3.toInt ≤ (0 : Int32).toInt; omega
  · show (0 : Int32).toInt ≤ m3.toInt; omega
  · show -9999 ≤ (0 : Int32).toInt; omega
  · show (0 : Int32).toInt ≤ 9999; omega
  · show -9999 ≤ (0 : Int32).toInt; omega
  · show (0 : Int32).toInt ≤ 9999; omega
  · show 0 ≤ (0 : Int32).toInt; omega
  · show (0 : Int32).toInt ≤ 9999; omega
  · exact ⟨Nat.zero_le _, rfl, fun k hk => absurd hk (Nat.not_lt_zero k), fun j k hj hk => absurd hk (Nat.not_lt_zero k), fun k hk => absurd hk (Nat.not_lt_zero k), rfl⟩
  · exact ⟨Nat.zero_le _, rfl, fun k hk => absurd hk (Nat.not_lt_zero k), fun j k hj hk => absurd hk (Nat.not_lt_zero k), fun k hk => absurd hk (Nat.not_lt_zero k), rfl⟩
theorem both_ok {m0 m1 x1 x2 : Int32} (h0 : 200 ≤ m0.toInt ∧ m0.toInt ≤ 999) (h1 : 10 ≤ m1.toInt ∧ m1.toInt ≤ 99) (hx : 0 ≤ x1.toInt ∧ x1.toInt + m1.toInt ≤ x2.toInt ∧ x2.toInt ≤ m0.toInt) : s_holdsBoth m0 m1 x1 x2 = true := by
  have e : (x2 - x1).toInt = x2.toInt - x1.toInt := subI (by omega) (by omega)
  unfold s_holdsBoth
  rw [if_neg (by rw [ltI]; omega), if_neg (by rw [ltI]; omega), if_neg (by rw [ltI, e]; omega)]
set_option maxHeartbeats 4000000 in
set_option maxRecDepth 100000 in
theorem la_c {p_ : Program} {e_ : Env} {s_ : State} {m_ : MethodId} {bl_ : List Frame} {me_ : Method} {cd_ : Code} {A_ : Nat → Prop} (l : Launch) (D : va_G) (cyC cyI : ClassId) (sb sL : Nat) (xs : Nat → Int32) {Q : Nat → Nat} {r : Nat → Int32} {S : Nat → Sto} {ud : Int32} {wc : va_W} (hsL : sL ≤ 260) (f : Nat) (hf : f ≤ 500) (bm : Nat) (X : qX p_ s_ m_ ([.ref (Q 0), .ref sb, .int (nI f), .ref bm] : List Value).toArray cd_ cL_lays 9 wsL_lays yL_lays.cls D cyC cyI sb sL xs A_) (hr : me_.sig.returnType = (some .boolean)) (hlk : me_.locks = false) (g0 : Nat → Int32) (m0 m1 m2 m3 m4 : Int32) (h0 : 200 ≤ m0.toInt ∧ m0.toInt ≤ 999) (h1 : 10 ≤ m1.toInt ∧ m1.toInt ≤ 99) (h2 : 1 ≤ m2.toInt ∧ m2.toInt ≤ 9) (h3 : 1 ≤ m3.toInt ∧ m3.toInt ≤ 40) (h4 : 0 ≤ m4.toInt ∧ m4.toInt ≤ 40) (g : Nat → Int32) (hg0 : g 0 = m0) (hg1 : g 1 = m1) (k : Nat) (T : List Int32) (hP : PRd T k m0 m1 m2 m3 m4 100 30 0 500 30 0) (hk : k ≤ 5) (hT : T.length ≤ 40) {wa : va_W} {H : Heap} {locs : List Loc} {ls : Array Slot} (hI : QW cyC cyI Q r S ud T wa) (hW : wPerm wc wa) (hl : lv_has ls 9 [(0, .ref (Q 0)), (1, .ref sb), (2, .int (nI f)), (3, .ref bm)]) (Y : bY D A_ s_.heap ([(bm, .inl (cyI, 40, .inl g))] ++ wa) H locs) : W p_ l e_ ({ frames := 6, cells := 0, slots := 0, locals := 135 } : Room) s_ m_ ([.ref (Q 0), .ref sb, .int (nI f), .ref bm] : List Value).toArray bl_ me_ cd_ H locs 0 0 (qQI bl_ ([.ref (Q 0), .ref sb, .int (nI f), .ref bm] : List Value).toArray s_ D ([(bm, .inl (cyI, 40, .inl g0))] ++ wc) (fun rv w1 => rv = 1 ∧ LY cyC cyI Q bm w1) 0 0 A_) (F0 m_ 269 ls []) := by
  have hx := X.1.1.1
  have hb := X.1.1.2.1
  have hd0 : (dg 0).length ≤ 3 := by decide
  have hd1 : (dg 1).length ≤ 3 := by decide
  refine lv_iconst (v := 0) hx hb dL_lays_269 (by decide) ?_
  refine lv_istore (lv' := [(5, .int 0), (0, .ref (Q 0)), (1, .ref sb), (2, .int (nI f)), (3, .ref bm)]) hx hb dL_lays_270 hl (by decide) rfl (fun ls hl => ?_)
  refine lv_iload hx hb dL_lays_272 (lv_at hl 0 rfl) ?_
  refine lv_iconst (v := 2) hx hb dL_lays_274 (by decide) ?_
  refine lv_icmp_ge (tgt := 471) hx hb dL_lays_275 (by decide) (fun c_ => absurd c_ (by decide)) (fun _ => ?_)
  refine lv_aload_n hx hb dL_lays_278 rfl (lv_at hl 2 rfl) ?_
  refine lv_iload_n hx hb dL_lays_279 rfl (lv_at hl 3 rfl) ?_
  refine lv_iconst (v := 1) hx hb dL_lays_280 (by decide) ?_
  refine bAdd (v := nI (f + 1)) X.1 dL_lays_281 (nI_sum (a := f) (b := 1) rfl rfl rfl) ?_
  refine lv_iload hx hb dL_lays_282 (lv_at hl 0 rfl) ?_
  refine bAdd (v := nI (f + 1 + 0)) X.1 dL_lays_284 (nI_sum (a := f + 1) (b := 0) rfl rfl rfl) ?_
  refine qSI (al := []) (wa := ([(bm, .inl (cyI, 40, .inl g))] ++ wa)) (As := [.ref sb, .int (nI (f + 1 + 0))]) (rest := []) (c2 := 0) (s2 := 0) X Y (c_cell l D cyC cyI sb sL xs (nI (f + 1 + 0)) (by rw [nIt (by omega)]; omega) hsL) gL_lays_L_cell rfl ⟨rfl, rfl⟩ hdq_L_cell.2 ⟨Nat.le_of_ble_eq_true rfl, Nat.le_of_ble_eq_true rfl⟩ rfl rfl rfl rfl hl.1 (Nat.le_of_ble_eq_true rfl) ⟨Nat.le_of_ble_eq_true rfl, Nat.le_of_ble_eq_true rfl⟩ dL_lays_285 (fun r_2 wa_1 H locs hI_1 hw_1 Y => ?_)
  subst hI_1
  have Y : bY D A_ s_.heap ([(bm, .inl (cyI, 40, .inl g))] ++ wa) H locs := Y
  refine lv_istore (lv' := [(6, .int r_2), (5, .int 0), (0, .ref (Q 0)), (1, .ref sb), (2, .int (nI f)), (3, .ref bm)]) hx hb dL_lays_288 hl (by decide) rfl (fun ls hl => ?_)
  refine lv_bipush (v := 8) hx hb dL_lays_290 (by decide) ?_
  refine lv_bipush (v := 12) hx hb dL_lays_292 (by decide) ?_
  refine lv_iload hx hb dL_lays_294 (lv_at hl 1 rfl) ?_
  refine bMul (v := 0) X.1 dL_lays_296 (by decide) ?_
  refine bAdd (v := 8) X.1 dL_lays_297 (by decide) ?_
  refine lv_istore (lv' := [(7, .int 8), (6, .int r_2), (5, .int 0), (0, .ref (Q 0)), (1, .ref sb), (2, .int (nI f)), (3, .ref bm)]) hx hb dL_lays_298 hl (by decide) rfl (fun ls hl => ?_)
  refine lv_aload_n hx hb dL_lays_300 rfl (lv_at hl 6 rfl) ?_
  refine lv_iconst (v := 0) hx hb dL_lays_301 (by decide) ?_
  refine bIald (v := m0) X.1 Y 0 rfl (bInD (by decide)) dL_lays_302 hg0 ?_
  refine lv_aload_n hx hb dL_lays_303 rfl (lv_at hl 6 rfl) ?_
  refine lv_iconst (v := 1) hx hb dL_lays_304 (by decide) ?_
  refine bIald (v := m1) X.1 Y 0 rfl (bInD (by decide)) dL_lays_305 hg1 ?_
  refine bSub (v := m0 - m1) X.1 dL_lays_306 rfl ?_
  refine lv_topi (fun fr e_fr => ?_)
  have hfr : fr.toInt = m0.toInt - m1.toInt := by rw [e_fr, subI (by omega) (by omega)]
  refine lv_istore (lv' := [(8, .int fr), (7, .int 8), (6, .int r_2), (5, .int 0), (0, .ref (Q 0)), (1, .ref sb), (2, .int (nI f)), (3, .ref bm)]) hx hb dL_lays_307 hl (by decide) rfl (fun ls hl => ?_)
  refine lv_aload_n hx hb dL_lays_309 rfl (lv_at hl 7 rfl) ?_
  refine lv_iload hx hb dL_lays_310 (lv_at hl 1 rfl) ?_
  refine lv_iload hx hb dL_lays_312 (lv_at hl 3 rfl) ?_
  refine lv_if_ne (tgt := 329) hx hb dL_lays_314 (by decide) (fun c_ => absurd (by decide) c_) (fun _ => ?_)
  refine lv_iload hx hb dL_lays_317 (lv_at hl 2 rfl) ?_
  refine lv_iload hx hb dL_lays_319 (lv_at hl 0 rfl) ?_
  refine lv_iconst (v := 1) hx hb dL_lays_321 (by decide) ?_
  refine bAdd (v := fr + 1) X.1 dL_lays_322 rfl ?_
  refine lv_topi (fun f1 e_f1 => ?_)
  have hf1 : f1.toInt = fr.toInt + 1 := by rw [e_f1, addI (by rw [show (1 : Int32).toInt = 1 by decide]; omega) (by rw [show (1 : Int32).toInt = 1 by decide]; omega), show (1 : Int32).toInt = 1 by decide]
  refine bSI (As := [.int r_2, .int f1]) (rest := [.int 8, .ref bm]) X.1 Y (c_part l D cyC cyI r_2 f1 (nz_of (by omega))) gL_lays_L_part rfl ⟨rfl, rfl⟩ hdq_L_part.2 ⟨Nat.le_of_ble_eq_true rfl, Nat.le_of_ble_eq_true rfl⟩ rfl rfl hl.1 (Nat.le_of_ble_eq_true rfl) ⟨Nat.le_of_ble_eq_true rfl, Nat.le_of_ble_eq_true rfl⟩ dL_lays_323 (fun H locs Y => ?_)
  refine lv_topi (fun x1 e_x1 => ?_)
  have hx1 := pt_b (v := r_2) (n := f1) (by omega)
  rw [← e_x1] at hx1
  have hdx1 := (dg_b (v := x1) (by omega)).1
  refine lv_goto (tgt := 352) hx hb dL_lays_326 (by decide) ?_
  refine bIast (f' := upd g 8 x1) (ws' := [(bm, .inl (cyI, 40, .inl (upd g 8 x1)))] ++ wa) X.1 Y 0 rfl (bInD (by decide)) rfl rfl dL_lays_352 (fun H locs Y => ?_)
  refine lv_aload_n hx hb dL_lays_353 rfl (lv_at hl 7 rfl) ?_
  refine lv_iload hx hb dL_lays_354 (lv_at hl 1 rfl) ?_
  refine lv_iconst (v := 2) hx hb dL_lays_356 (by decide) ?_
  refine bAdd (v := 10) X.1 dL_lays_357 (by decide) ?_
  refine lv_bipush (v := 10) hx hb dL_lays_358 (by decide) ?_
  refine lv_iload hx hb dL_lays_360 (lv_at hl 2 rfl) ?_
  refine lv_iconst (v := 5) hx hb dL_lays_362 (by decide) ?_
  refine bShr (v := r_2 >>> ((5 : Int32) &&& 31)) X.1 dL_lays_363 rfl ?_
  refine lv_bipush (v := 51) hx hb dL_lays_364 (by decide) ?_
  refine bSI (As := [.int (r_2 >>> ((5 : Int32) &&& 31)), .int 51]) (rest := [.int 10, .int 10, .ref bm]) X.1 Y (c_part l D cyC cyI (r_2 >>> ((5 : Int32) &&& 31)) 51 (by decide)) gL_lays_L_part rfl ⟨rfl, rfl⟩ hdq_L_part.2 ⟨Nat.le_of_ble_eq_true rfl, Nat.le_of_ble_eq_true rfl⟩ rfl rfl hl.1 (Nat.le_of_ble_eq_true rfl) ⟨Nat.le_of_ble_eq_true rfl, Nat.le_of_ble_eq_true rfl⟩ dL_lays_366 (fun H locs Y => ?_)
  refine bAdd (v := (10 : Int32) + (pt (r_2 >>> ((5 : Int32) &&& 31)) 51)) X.1 dL_lays_369 rfl ?_
  refine lv_topi (fun la e_la => ?_)
  have hla : 10 ≤ la.toInt ∧ la.toInt ≤ 60 := by have := pt_rng e_la (A := 10) (N := 51) (by decide) (by decide) (by decide) (by decide); omega
  have hdla := (dg_b (v := la) (by omega)).1
  refine bIast (f' := upd (upd g 8 x1) 10 la) (ws' := [(bm, .inl (cyI, 40, .inl (upd (upd g 8 x1) 10 la)))] ++ wa) X.1 Y 0 rfl (bInD (by decide)) rfl rfl dL_lays_370 (fun H locs Y => ?_)
  refine lv_aload_n hx hb dL_lays_371 rfl (lv_at hl 7 rfl) ?_
  refine lv_iload hx hb dL_lays_372 (lv_at hl 1 rfl) ?_
  refine lv_iconst (v := 3) hx hb dL_lays_374 (by decide) ?_
  refine bAdd (v := 11) X.1 dL_lays_375 (by decide) ?_
  refine lv_iload hx hb dL_lays_376 (lv_at hl 2 rfl) ?_
  refine lv_bipush (v := 7) hx hb dL_lays_378 (by decide) ?_
  refine bShr (v := r_2 >>> ((7 : Int32) &&& 31)) X.1 dL_lays_380 rfl ?_
  refine lv_iconst (v := 3) hx hb dL_lays_381 (by decide) ?_
  refine bSI (As := [.int (r_2 >>> ((7 : Int32) &&& 31)), .int 3]) (rest := [.int 11, .ref bm]) X.1 Y (c_part l D cyC cyI (r_2 >>> ((7 : Int32) &&& 31)) 3 (by decide)) gL_lays_L_part rfl ⟨rfl, rfl⟩ hdq_L_part.2 ⟨Nat.le_of_ble_eq_true rfl, Nat.le_of_ble_eq_true rfl⟩ rfl rfl hl.1 (Nat.le_of_ble_eq_true rfl) ⟨Nat.le_of_ble_eq_true rfl, Nat.le_of_ble_eq_true rfl⟩ dL_lays_382 (fun H locs Y => ?_)
  refine lv_topi (fun pp e_pp => ?_)
  refine lv_if_ne (tgt := 401) hx hb dL_lays_385 (by decide) (fun c_6 => ?_) (fun c_6 => ?_)
  · have c_6 : ¬ (pp = 0) := c_6
    refine lv_iconst (v := 0) hx hb dL_lays_401 (by decide) ?_
    refine bIast (f' := upd (upd (upd g 8 x1) 10 la) 11 0) (ws' := [(bm, .inl (cyI, 40, .inl (upd (upd (upd g 8 x1) 10 la) 11 0)))] ++ wa) X.1 Y 0 rfl (bInD (by decide)) rfl rfl dL_lays_402 (fun H locs Y => ?_)
    refine lv_aload_n hx hb dL_lays_403 rfl (lv_at hl 7 rfl) ?_
    refine lv_iload hx hb dL_lays_404 (lv_at hl 1 rfl) ?_
    refine lv_bipush (v := 7) hx hb dL_lays_406 (by decide) ?_
    refine bAdd (v := 15) X.1 dL_lays_408 (by decide) ?_
    refine lv_aload_n hx hb dL_lays_409 rfl (lv_at hl 7 rfl) ?_
    refine lv_iload hx hb dL_lays_410 (lv_at hl 1 rfl) ?_
    refine lv_iconst (v := 2) hx hb dL_lays_412 (by decide) ?_
    refine bAdd (v := 10) X.1 dL_lays_413 (by decide) ?_
    refine bIald (v := la) X.1 Y 0 rfl (bInD (by decide)) dL_lays_414 ((upd_ne (by decide)).trans upd_eq) ?_
    refine bIast (f' := upd (upd (upd (upd g 8 x1) 10 la) 11 0) 15 la) (ws' := [(bm, .inl (cyI, 40, .inl (upd (upd (upd (upd g 8 x1) 10 la) 11 0) 15 la)))] ++ wa) X.1 Y 0 rfl (bInD (by decide)) rfl rfl dL_lays_415 (fun H locs Y => ?_)
    refine lv_aload_n hx hb dL_lays_416 rfl (lv_at hl 4 rfl) ?_
    refine lv_bipush (v := 99) hx hb dL_lays_417 (by decide) ?_
    refine qVI (al := [(bm, .inl (cyI, 40, .inl (upd (upd (upd (upd g 8 x1) 10 la) 11 0) 15 la)))]) (As := [.int 99]) (rest := []) X Y (k_write hI 99 (by (try simp only [List.length_append, List.length_cons, List.length_nil]); omega) (by decide)) gL_lays_X7_write rfl hdq_X7_write ⟨Nat.le_of_ble_eq_true rfl, Nat.le_of_ble_eq_true rfl⟩ hI.head rfl rfl hl.1 (Nat.le_of_ble_eq_true rfl) ⟨Nat.le_of_ble_eq_true rfl, Nat.le_of_ble_eq_true rfl⟩ dL_lays_419 (fun wa_7 H locs hI_7 hw_7 Y => ?_)
    have hW_7 := hW.trans hw_7
    refine lv_pop hx hb dL_lays_422 rfl ?_
    refine lv_aload_n hx hb dL_lays_423 rfl (lv_at hl 4 rfl) ?_
    refine lv_iload hx hb dL_lays_424 (lv_at hl 3 rfl) ?_
    refine lv_bipush (v := 44) hx hb dL_lays_426 (by decide) ?_
    refine qSV (al := [(bm, .inl (cyI, 40, .inl (upd (upd (upd (upd g 8 x1) 10 la) 11 0) 15 la)))]) (wa := wa_7) (As := [.ref (Q 0), .int 0, .int 44]) (rest := []) (c2 := 0) (s2 := 0) X Y (c_number l D cyC cyI sb sL xs hI_7 0 44 (by decide) (by decide) (by (try simp only [List.length_append, List.length_cons, List.length_nil]); omega)) gL_lays_L_number rfl ⟨rfl, rfl⟩ hdq_L_number.2 ⟨Nat.le_of_ble_eq_true rfl, Nat.le_of_ble_eq_true rfl⟩ rfl rfl rfl rfl hl.1 (Nat.le_of_ble_eq_true rfl) ⟨Nat.le_of_ble_eq_true rfl, Nat.le_of_ble_eq_true rfl⟩ dL_lays_428 (fun  wa_8 H locs hI_8 hw_8 Y => ?_)
    have hW_8 := hW_7.trans hw_8
    refine lv_aload_n hx hb dL_lays_431 rfl (lv_at hl 4 rfl) ?_
    refine lv_aload_n hx hb dL_lays_432 rfl (lv_at hl 7 rfl) ?_
    refine lv_iload hx hb dL_lays_433 (lv_at hl 1 rfl) ?_
    refine bIald (v := x1) X.1 Y 0 rfl (bInD (by decide)) dL_lays_435 ((upd_ne (by decide)).trans ((upd_ne (by decide)).trans ((upd_ne (by decide)).trans upd_eq))) ?_
    refine lv_bipush (v := 44) hx hb dL_lays_436 (by decide) ?_
    refine qSV (al := [(bm, .inl (cyI, 40, .inl (upd (upd (upd (upd g 8 x1) 10 la) 11 0) 15 la)))]) (wa := wa_8) (As := [.ref (Q 0), .int x1, .int 44]) (rest := []) (c2 := 0) (s2 := 0) X Y (c_number l D cyC cyI sb sL xs hI_8 x1 44 (by omega) (by decide) (by (try simp only [List.length_append, List.length_cons, List.length_nil]); omega)) gL_lays_L_number rfl ⟨rfl, rfl⟩ hdq_L_number.2 ⟨Nat.le_of_ble_eq_true rfl, Nat.le_of_ble_eq_true rfl⟩ rfl rfl rfl rfl hl.1 (Nat.le_of_ble_eq_true rfl) ⟨Nat.le_of_ble_eq_true rfl, Nat.le_of_ble_eq_true rfl⟩ dL_lays_438 (fun  wa_9 H locs hI_9 hw_9 Y => ?_)
    have hW_9 := hW_8.trans hw_9
    refine lv_aload_n hx hb dL_lays_441 rfl (lv_at hl 4 rfl) ?_
    refine lv_aload_n hx hb dL_lays_442 rfl (lv_at hl 7 rfl) ?_
    refine lv_iload hx hb dL_lays_443 (lv_at hl 1 rfl) ?_
    refine lv_iconst (v := 2) hx hb dL_lays_445 (by decide) ?_
    refine bAdd (v := 10) X.1 dL_lays_446 (by decide) ?_
    refine bIald (v := la) X.1 Y 0 rfl (bInD (by decide)) dL_lays_447 ((upd_ne (by decide)).trans ((upd_ne (by decide)).trans upd_eq)) ?_
    refine lv_bipush (v := 44) hx hb dL_lays_448 (by decide) ?_
    refine qSV (al := [(bm, .inl (cyI, 40, .inl (upd (upd (upd (upd g 8 x1) 10 la) 11 0) 15 la)))]) (wa := wa_9) (As := [.ref (Q 0), .int la, .int 44]) (rest := []) (c2 := 0) (s2 := 0) X Y (c_number l D cyC cyI sb sL xs hI_9 la 44 (by omega) (by decide) (by (try simp only [List.length_append, List.length_cons, List.length_nil]); omega)) gL_lays_L_number rfl ⟨rfl, rfl⟩ hdq_L_number.2 ⟨Nat.le_of_ble_eq_true rfl, Nat.le_of_ble_eq_true rfl⟩ rfl rfl rfl rfl hl.1 (Nat.le_of_ble_eq_true rfl) ⟨Nat.le_of_ble_eq_true rfl, Nat.le_of_ble_eq_true rfl⟩ dL_lays_450 (fun  wa_10 H locs hI_10 hw_10 Y => ?_)
    have hW_10 := hW_9.trans hw_10
    refine lv_aload_n hx hb dL_lays_453 rfl (lv_at hl 4 rfl) ?_
    refine lv_aload_n hx hb dL_lays_454 rfl (lv_at hl 7 rfl) ?_
    refine lv_iload hx hb dL_lays_455 (lv_at hl 1 rfl) ?_
    refine lv_iconst (v := 3) hx hb dL_lays_457 (by decide) ?_
    refine bAdd (v := 11) X.1 dL_lays_458 (by decide) ?_
    refine bIald (v := 0) X.1 Y 0 rfl (bInD (by decide)) dL_lays_459 ((upd_ne (by decide)).trans upd_eq) ?_
    refine lv_bipush (v := 59) hx hb dL_lays_460 (by decide) ?_
    refine qSV (al := [(bm, .inl (cyI, 40, .inl (upd (upd (upd (upd g 8 x1) 10 la) 11 0) 15 la)))]) (wa := wa_10) (As := [.ref (Q 0), .int 0, .int 59]) (rest := []) (c2 := 0) (s2 := 0) X Y (c_number l D cyC cyI sb sL xs hI_10 0 59 (by decide) (by decide) (by (try simp only [List.length_append, List.length_cons, List.length_nil]); omega)) gL_lays_L_number rfl ⟨rfl, rfl⟩ hdq_L_number.2 ⟨Nat.le_of_ble_eq_true rfl, Nat.le_of_ble_eq_true rfl⟩ rfl rfl rfl rfl hl.1 (Nat.le_of_ble_eq_true rfl) ⟨Nat.le_of_ble_eq_true rfl, Nat.le_of_ble_eq_true rfl⟩ dL_lays_462 (fun  wa_11 H locs hI_11 hw_11 Y => ?_)
    have hW_11 := hW_10.trans hw_11
    refine lv_iinc (v := 1) (lv' := [(5, .int 1), (8, .int fr), (7, .int 8), (6, .int r_2), (0, .ref (Q 0)), (1, .ref sb), (2, .int (nI f)), (3, .ref bm)]) hx hb dL_lays_465 hl (k := 3) rfl (by decide) (by decide) rfl (fun ls hl => ?_)
    refine lv_goto (tgt := 272) hx hb dL_lays_468 (by decide) ?_
    refine lv_iload hx hb dL_lays_272 (lv_at hl 0 rfl) ?_
    refine lv_iconst (v := 2) hx hb dL_lays_274 (by decide) ?_
    refine lv_icmp_ge (tgt := 471) hx hb dL_lays_275 (by decide) (fun c_ => absurd c_ (by decide)) (fun _ => ?_)
    refine lv_aload_n hx hb dL_lays_278 rfl (lv_at hl 5 rfl) ?_
    refine lv_iload_n hx hb dL_lays_279 rfl (lv_at hl 6 rfl) ?_
    refine lv_iconst (v := 1) hx hb dL_lays_280 (by decide) ?_
    refine bAdd (v := nI (f + 1)) X.1 dL_lays_281 (nI_sum (a := f) (b := 1) rfl rfl rfl) ?_
    refine lv_iload hx hb dL_lays_282 (lv_at hl 0 rfl) ?_
    refine bAdd (v := nI (f + 1 + 1)) X.1 dL_lays_284 (nI_sum (a := f + 1) (b := 1) rfl rfl rfl) ?_
    refine qSI (al := []) (wa := ([(bm, .inl (cyI, 40, .inl (upd (upd (upd (upd g 8 x1) 10 la) 11 0) 15 la)))] ++ wa_11)) (As := [.ref sb, .int (nI (f + 1 + 1))]) (rest := []) (c2 := 0) (s2 := 0) X Y (c_cell l D cyC cyI sb sL xs (nI (f + 1 + 1)) (by rw [nIt (by omega)]; omega) hsL) gL_lays_L_cell rfl ⟨rfl, rfl⟩ hdq_L_cell.2 ⟨Nat.le_of_ble_eq_true rfl, Nat.le_of_ble_eq_true rfl⟩ rfl rfl rfl rfl hl.1 (Nat.le_of_ble_eq_true rfl) ⟨Nat.le_of_ble_eq_true rfl, Nat.le_of_ble_eq_true rfl⟩ dL_lays_285 (fun r_13 wa_12 H locs hI_12 hw_12 Y => ?_)
    subst hI_12
    have Y : bY D A_ s_.heap ([(bm, .inl (cyI, 40, .inl (upd (upd (upd (upd g 8 x1) 10 la) 11 0) 15 la)))] ++ wa_11) H locs := Y
    refine lv_istore (lv' := [(6, .int r_13), (5, .int 1), (8, .int fr), (7, .int 8), (0, .ref (Q 0)), (1, .ref sb), (2, .int (nI f)), (3, .ref bm)]) hx hb dL_lays_288 hl (by decide) rfl (fun ls hl => ?_)
    refine lv_bipush (v := 8) hx hb dL_lays_290 (by decide) ?_
    refine lv_bipush (v := 12) hx hb dL_lays_292 (by decide) ?_
    refine lv_iload hx hb dL_lays_294 (lv_at hl 1 rfl) ?_
    refine bMul (v := 12) X.1 dL_lays_296 (by decide) ?_
    refine bAdd (v := 20) X.1 dL_lays_297 (by decide) ?_
    refine lv_istore (lv' := [(7, .int 20), (6, .int r_13), (5, .int 1), (8, .int fr), (0, .ref (Q 0)), (1, .ref sb), (2, .int (nI f)), (3, .ref bm)]) hx hb dL_lays_298 hl (by decide) rfl (fun ls hl => ?_)
    refine lv_aload_n hx hb dL_lays_300 rfl (lv_at hl 7 rfl) ?_
    refine lv_iconst (v := 0) hx hb dL_lays_301 (by decide) ?_
    refine bIald (v := m0) X.1 Y 0 rfl (bInD (by decide)) dL_lays_302 ((upd_ne (by decide)).trans ((upd_ne (by decide)).trans ((upd_ne (by decide)).trans ((upd_ne (by decide)).trans hg0)))) ?_
    refine lv_aload_n hx hb dL_lays_303 rfl (lv_at hl 7 rfl) ?_
    refine lv_iconst (v := 1) hx hb dL_lays_304 (by decide) ?_
    refine bIald (v := m1) X.1 Y 0 rfl (bInD (by decide)) dL_lays_305 ((upd_ne (by decide)).trans ((upd_ne (by decide)).trans ((upd_ne (by decide)).trans ((upd_ne (by decide)).trans hg1)))) ?_
    refine bSub (v := m0 - m1) X.1 dL_lays_306 rfl ?_
    refine lv_topi (fun fr e_fr => ?_)
    have hfr : fr.toInt = m0.toInt - m1.toInt := by rw [e_fr, subI (by omega) (by omega)]
    refine lv_istore (lv' := [(8, .int fr), (7, .int 20), (6, .int r_13), (5, .int 1), (0, .ref (Q 0)), (1, .ref sb), (2, .int (nI f)), (3, .ref bm)]) hx hb dL_lays_307 hl (by decide) rfl (fun ls hl => ?_)
    refine lv_aload_n hx hb dL_lays_309 rfl (lv_at hl 7 rfl) ?_
    refine lv_iload hx hb dL_lays_310 (lv_at hl 1 rfl) ?_
    refine lv_iload hx hb dL_lays_312 (lv_at hl 3 rfl) ?_
    refine lv_if_ne (tgt := 329) hx hb dL_lays_314 (by decide) (fun _ => ?_) (fun c_ => absurd c_ (by decide))
    refine lv_aload_n hx hb dL_lays_329 rfl (lv_at hl 7 rfl) ?_
    refine lv_bipush (v := 8) hx hb dL_lays_330 (by decide) ?_
    refine bIald (v := x1) X.1 Y 0 rfl (bInD (by decide)) dL_lays_332 ((upd_ne (by decide)).trans ((upd_ne (by decide)).trans ((upd_ne (by decide)).trans upd_eq))) ?_
    refine lv_aload_n hx hb dL_lays_333 rfl (lv_at hl 7 rfl) ?_
    refine lv_iconst (v := 1) hx hb dL_lays_334 (by decide) ?_
    refine bIald (v := m1) X.1 Y 0 rfl (bInD (by decide)) dL_lays_335 ((upd_ne (by decide)).trans ((upd_ne (by decide)).trans ((upd_ne (by decide)).trans ((upd_ne (by decide)).trans hg1)))) ?_
    refine bAdd (v := x1 + m1) X.1 dL_lays_336 rfl ?_
    refine lv_iload hx hb dL_lays_337 (lv_at hl 2 rfl) ?_
    refine lv_iload hx hb dL_lays_339 (lv_at hl 0 rfl) ?_
    refine lv_aload_n hx hb dL_lays_341 rfl (lv_at hl 7 rfl) ?_
    refine lv_bipush (v := 8) hx hb dL_lays_342 (by decide) ?_
    refine bIald (v := x1) X.1 Y 0 rfl (bInD (by decide)) dL_lays_344 ((upd_ne (by decide)).trans ((upd_ne (by decide)).trans ((upd_ne (by decide)).trans upd_eq))) ?_
    refine bSub (v := fr - x1) X.1 dL_lays_345 rfl ?_
    refine lv_iconst (v := 1) hx hb dL_lays_346 (by decide) ?_
    refine bAdd (v := (fr - x1) + 1) X.1 dL_lays_347 rfl ?_
    refine lv_topi (fun f2 e_f2 => ?_)
    have hf2 : f2.toInt = fr.toInt - x1.toInt + 1 := by
      have q1 : (fr - x1).toInt = fr.toInt - x1.toInt := subI (by omega) (by omega)
      rw [e_f2, addI (by rw [q1, show (1 : Int32).toInt = 1 by decide]; omega) (by rw [q1, show (1 : Int32).toInt = 1 by decide]; omega), q1, show (1 : Int32).toInt = 1 by decide]
    refine bSI (As := [.int r_13, .int f2]) (rest := [.int (x1 + m1), .int 20, .ref bm]) X.1 Y (c_part l D cyC cyI r_13 f2 (nz_of (by omega))) gL_lays_L_part rfl ⟨rfl, rfl⟩ hdq_L_part.2 ⟨Nat.le_of_ble_eq_true rfl, Nat.le_of_ble_eq_true rfl⟩ rfl rfl hl.1 (Nat.le_of_ble_eq_true rfl) ⟨Nat.le_of_ble_eq_true rfl, Nat.le_of_ble_eq_true rfl⟩ dL_lays_348 (fun H locs Y => ?_)
    refine lv_topi (fun p2 e_p2 => ?_)
    have hp2 := pt_b (v := r_13) (n := f2) (by omega)
    rw [← e_p2] at hp2
    refine bAdd (v := (x1 + m1) + p2) X.1 dL_lays_351 rfl ?_
    refine lv_topi (fun x2 e_x2 => ?_)
    have hx2 : x2.toInt = x1.toInt + m1.toInt + p2.toInt := by
      have q1 : (x1 + m1).toInt = x1.toInt + m1.toInt := addI (by omega) (by omega)
      rw [e_x2, addI (by rw [q1]; omega) (by rw [q1]; omega), q1]
    have hdx2 := (dg_b (v := x2) (by omega)).1
    refine bIast (f' := upd (upd (upd (upd (upd g 8 x1) 10 la) 11 0) 15 la) 20 x2) (ws' := [(bm, .inl (cyI, 40, .inl (upd (upd (upd (upd (upd g 8 x1) 10 la) 11 0) 15 la) 20 x2)))] ++ wa_11) X.1 Y 0 rfl (bInD (by decide)) rfl rfl dL_lays_352 (fun H locs Y => ?_)
    refine lv_aload_n hx hb dL_lays_353 rfl (lv_at hl 7 rfl) ?_
    refine lv_iload hx hb dL_lays_354 (lv_at hl 1 rfl) ?_
    refine lv_iconst (v := 2) hx hb dL_lays_356 (by decide) ?_
    refine bAdd (v := 22) X.1 dL_lays_357 (by decide) ?_
    refine lv_bipush (v := 10) hx hb dL_lays_358 (by decide) ?_
    refine lv_iload hx hb dL_lays_360 (lv_at hl 2 rfl) ?_
    refine lv_iconst (v := 5) hx hb dL_lays_362 (by decide) ?_
    refine bShr (v := r_13 >>> ((5 : Int32) &&& 31)) X.1 dL_lays_363 rfl ?_
    refine lv_bipush (v := 51) hx hb dL_lays_364 (by decide) ?_
    refine bSI (As := [.int (r_13 >>> ((5 : Int32) &&& 31)), .int 51]) (rest := [.int 10, .int 22, .ref bm]) X.1 Y (c_part l D cyC cyI (r_13 >>> ((5 : Int32) &&& 31)) 51 (by decide)) gL_lays_L_part rfl ⟨rfl, rfl⟩ hdq_L_part.2 ⟨Nat.le_of_ble_eq_true rfl, Nat.le_of_ble_eq_true rfl⟩ rfl rfl hl.1 (Nat.le_of_ble_eq_true rfl) ⟨Nat.le_of_ble_eq_true rfl, Nat.le_of_ble_eq_true rfl⟩ dL_lays_366 (fun H locs Y => ?_)
    refine bAdd (v := (10 : Int32) + (pt (r_13 >>> ((5 : Int32) &&& 31)) 51)) X.1 dL_lays_369 rfl ?_
    refine lv_topi (fun lb e_lb => ?_)
    have hlb : 10 ≤ lb.toInt ∧ lb.toInt ≤ 60 := by have := pt_rng e_lb (A := 10) (N := 51) (by decide) (by decide) (by decide) (by decide); omega
    have hdlb := (dg_b (v := lb) (by omega)).1
    refine bIast (f' := upd (upd (upd (upd (upd (upd g 8 x1) 10 la) 11 0) 15 la) 20 x2) 22 lb) (ws' := [(bm, .inl (cyI, 40, .inl (upd (upd (upd (upd (upd (upd g 8 x1) 10 la) 11 0) 15 la) 20 x2) 22 lb)))] ++ wa_11) X.1 Y 0 rfl (bInD (by decide)) rfl rfl dL_lays_370 (fun H locs Y => ?_)
    refine lv_aload_n hx hb dL_lays_371 rfl (lv_at hl 7 rfl) ?_
    refine lv_iload hx hb dL_lays_372 (lv_at hl 1 rfl) ?_
    refine lv_iconst (v := 3) hx hb dL_lays_374 (by decide) ?_
    refine bAdd (v := 23) X.1 dL_lays_375 (by decide) ?_
    refine lv_iload hx hb dL_lays_376 (lv_at hl 2 rfl) ?_
    refine lv_bipush (v := 7) hx hb dL_lays_378 (by decide) ?_
    refine bShr (v := r_13 >>> ((7 : Int32) &&& 31)) X.1 dL_lays_380 rfl ?_
    refine lv_iconst (v := 3) hx hb dL_lays_381 (by decide) ?_
    refine bSI (As := [.int (r_13 >>> ((7 : Int32) &&& 31)), .int 3]) (rest := [.int 23, .ref bm]) X.1 Y (c_part l D cyC cyI (r_13 >>> ((7 : Int32) &&& 31)) 3 (by decide)) gL_lays_L_part rfl ⟨rfl, rfl⟩ hdq_L_part.2 ⟨Nat.le_of_ble_eq_true rfl, Nat.le_of_ble_eq_true rfl⟩ rfl rfl hl.1 (Nat.le_of_ble_eq_true rfl) ⟨Nat.le_of_ble_eq_true rfl, Nat.le_of_ble_eq_true rfl⟩ dL_lays_382 (fun H locs Y => ?_)
    refine lv_topi (fun pp e_pp => ?_)
    refine lv_if_ne (tgt := 401) hx hb dL_lays_385 (by decide) (fun c_17 => ?_) (fun c_17 => ?_)
    · have c_17 : ¬ (pp = 0) := c_17
      refine lv_iconst (v := 0) hx hb dL_lays_401 (by decide) ?_
      refine bIast (f' := upd (upd (upd (upd (upd (upd (upd g 8 x1) 10 la) 11 0) 15 la) 20 x2) 22 lb) 23 0) (ws' := [(bm, .inl (cyI, 40, .inl (upd (upd (upd (upd (upd (upd (upd g 8 x1) 10 la) 11 0) 15 la) 20 x2) 22 lb) 23 0)))] ++ wa_11) X.1 Y 0 rfl (bInD (by decide)) rfl rfl dL_lays_402 (fun H locs Y => ?_)
      refine lv_aload_n hx hb dL_lays_403 rfl (lv_at hl 7 rfl) ?_
      refine lv_iload hx hb dL_lays_404 (lv_at hl 1 rfl) ?_
      refine lv_bipush (v := 7) hx hb dL_lays_406 (by decide) ?_
      refine bAdd (v := 27) X.1 dL_lays_408 (by decide) ?_
      refine lv_aload_n hx hb dL_lays_409 rfl (lv_at hl 7 rfl) ?_
      refine lv_iload hx hb dL_lays_410 (lv_at hl 1 rfl) ?_
      refine lv_iconst (v := 2) hx hb dL_lays_412 (by decide) ?_
      refine bAdd (v := 22) X.1 dL_lays_413 (by decide) ?_
      refine bIald (v := lb) X.1 Y 0 rfl (bInD (by decide)) dL_lays_414 ((upd_ne (by decide)).trans upd_eq) ?_
      refine bIast (f' := upd (upd (upd (upd (upd (upd (upd (upd g 8 x1) 10 la) 11 0) 15 la) 20 x2) 22 lb) 23 0) 27 lb) (ws' := [(bm, .inl (cyI, 40, .inl (upd (upd (upd (upd (upd (upd (upd (upd g 8 x1) 10 la) 11 0) 15 la) 20 x2) 22 lb) 23 0) 27 lb)))] ++ wa_11) X.1 Y 0 rfl (bInD (by decide)) rfl rfl dL_lays_415 (fun H locs Y => ?_)
      refine lv_aload_n hx hb dL_lays_416 rfl (lv_at hl 4 rfl) ?_
      refine lv_bipush (v := 99) hx hb dL_lays_417 (by decide) ?_
      refine qVI (al := [(bm, .inl (cyI, 40, .inl (upd (upd (upd (upd (upd (upd (upd (upd g 8 x1) 10 la) 11 0) 15 la) 20 x2) 22 lb) 23 0) 27 lb)))]) (As := [.int 99]) (rest := []) X Y (k_write hI_11 99 (by (try simp only [List.length_append, List.length_cons, List.length_nil]); omega) (by decide)) gL_lays_X7_write rfl hdq_X7_write ⟨Nat.le_of_ble_eq_true rfl, Nat.le_of_ble_eq_true rfl⟩ hI_11.head rfl rfl hl.1 (Nat.le_of_ble_eq_true rfl) ⟨Nat.le_of_ble_eq_true rfl, Nat.le_of_ble_eq_true rfl⟩ dL_lays_419 (fun wa_18 H locs hI_18 hw_18 Y => ?_)
      have hW_18 := hW_11.trans hw_18
      refine lv_pop hx hb dL_lays_422 rfl ?_
      refine lv_aload_n hx hb dL_lays_423 rfl (lv_at hl 4 rfl) ?_
      refine lv_iload hx hb dL_lays_424 (lv_at hl 3 rfl) ?_
      refine lv_bipush (v := 44) hx hb dL_lays_426 (by decide) ?_
      refine qSV (al := [(bm, .inl (cyI, 40, .inl (upd (upd (upd (upd (upd (upd (upd (upd g 8 x1) 10 la) 11 0) 15 la) 20 x2) 22 lb) 23 0) 27 lb)))]) (wa := wa_18) (As := [.ref (Q 0), .int 1, .int 44]) (rest := []) (c2 := 0) (s2 := 0) X Y (c_number l D cyC cyI sb sL xs hI_18 1 44 (by decide) (by decide) (by (try simp only [List.length_append, List.length_cons, List.length_nil]); omega)) gL_lays_L_number rfl ⟨rfl, rfl⟩ hdq_L_number.2 ⟨Nat.le_of_ble_eq_true rfl, Nat.le_of_ble_eq_true rfl⟩ rfl rfl rfl rfl hl.1 (Nat.le_of_ble_eq_true rfl) ⟨Nat.le_of_ble_eq_true rfl, Nat.le_of_ble_eq_true rfl⟩ dL_lays_428 (fun  wa_19 H locs hI_19 hw_19 Y => ?_)
      have hW_19 := hW_18.trans hw_19
      refine lv_aload_n hx hb dL_lays_431 rfl (lv_at hl 4 rfl) ?_
      refine lv_aload_n hx hb dL_lays_432 rfl (lv_at hl 7 rfl) ?_
      refine lv_iload hx hb dL_lays_433 (lv_at hl 1 rfl) ?_
      refine bIald (v := x2) X.1 Y 0 rfl (bInD (by decide)) dL_lays_435 ((upd_ne (by decide)).trans ((upd_ne (by decide)).trans ((upd_ne (by decide)).trans upd_eq))) ?_
      refine lv_bipush (v := 44) hx hb dL_lays_436 (by decide) ?_
      refine qSV (al := [(bm, .inl (cyI, 40, .inl (upd (upd (upd (upd (upd (upd (upd (upd g 8 x1) 10 la) 11 0) 15 la) 20 x2) 22 lb) 23 0) 27 lb)))]) (wa := wa_19) (As := [.ref (Q 0), .int x2, .int 44]) (rest := []) (c2 := 0) (s2 := 0) X Y (c_number l D cyC cyI sb sL xs hI_19 x2 44 (by omega) (by decide) (by (try simp only [List.length_append, List.length_cons, List.length_nil]); omega)) gL_lays_L_number rfl ⟨rfl, rfl⟩ hdq_L_number.2 ⟨Nat.le_of_ble_eq_true rfl, Nat.le_of_ble_eq_true rfl⟩ rfl rfl rfl rfl hl.1 (Nat.le_of_ble_eq_true rfl) ⟨Nat.le_of_ble_eq_true rfl, Nat.le_of_ble_eq_true rfl⟩ dL_lays_438 (fun  wa_20 H locs hI_20 hw_20 Y => ?_)
      have hW_20 := hW_19.trans hw_20
      refine lv_aload_n hx hb dL_lays_441 rfl (lv_at hl 4 rfl) ?_
      refine lv_aload_n hx hb dL_lays_442 rfl (lv_at hl 7 rfl) ?_
      refine lv_iload hx hb dL_lays_443 (lv_at hl 1 rfl) ?_
      refine lv_iconst (v := 2) hx hb dL_lays_445 (by decide) ?_
      refine bAdd (v := 22) X.1 dL_lays_446 (by decide) ?_
      refine bIald (v := lb) X.1 Y 0 rfl (bInD (by decide)) dL_lays_447 ((upd_ne (by decide)).trans ((upd_ne (by decide)).trans upd_eq)) ?_
      refine lv_bipush (v := 44) hx hb dL_lays_448 (by decide) ?_
      refine qSV (al := [(bm, .inl (cyI, 40, .inl (upd (upd (upd (upd (upd (upd (upd (upd g 8 x1) 10 la) 11 0) 15 la) 20 x2) 22 lb) 23 0) 27 lb)))]) (wa := wa_20) (As := [.ref (Q 0), .int lb, .int 44]) (rest := []) (c2 := 0) (s2 := 0) X Y (c_number l D cyC cyI sb sL xs hI_20 lb 44 (by omega) (by decide) (by (try simp only [List.length_append, List.length_cons, List.length_nil]); omega)) gL_lays_L_number rfl ⟨rfl, rfl⟩ hdq_L_number.2 ⟨Nat.le_of_ble_eq_true rfl, Nat.le_of_ble_eq_true rfl⟩ rfl rfl rfl rfl hl.1 (Nat.le_of_ble_eq_true rfl) ⟨Nat.le_of_ble_eq_true rfl, Nat.le_of_ble_eq_true rfl⟩ dL_lays_450 (fun  wa_21 H locs hI_21 hw_21 Y => ?_)
      have hW_21 := hW_20.trans hw_21
      refine lv_aload_n hx hb dL_lays_453 rfl (lv_at hl 4 rfl) ?_
      refine lv_aload_n hx hb dL_lays_454 rfl (lv_at hl 7 rfl) ?_
      refine lv_iload hx hb dL_lays_455 (lv_at hl 1 rfl) ?_
      refine lv_iconst (v := 3) hx hb dL_lays_457 (by decide) ?_
      refine bAdd (v := 23) X.1 dL_lays_458 (by decide) ?_
      refine bIald (v := 0) X.1 Y 0 rfl (bInD (by decide)) dL_lays_459 ((upd_ne (by decide)).trans upd_eq) ?_
      refine lv_bipush (v := 59) hx hb dL_lays_460 (by decide) ?_
      refine qSV (al := [(bm, .inl (cyI, 40, .inl (upd (upd (upd (upd (upd (upd (upd (upd g 8 x1) 10 la) 11 0) 15 la) 20 x2) 22 lb) 23 0) 27 lb)))]) (wa := wa_21) (As := [.ref (Q 0), .int 0, .int 59]) (rest := []) (c2 := 0) (s2 := 0) X Y (c_number l D cyC cyI sb sL xs hI_21 0 59 (by decide) (by decide) (by (try simp only [List.length_append, List.length_cons, List.length_nil]); omega)) gL_lays_L_number rfl ⟨rfl, rfl⟩ hdq_L_number.2 ⟨Nat.le_of_ble_eq_true rfl, Nat.le_of_ble_eq_true rfl⟩ rfl rfl rfl rfl hl.1 (Nat.le_of_ble_eq_true rfl) ⟨Nat.le_of_ble_eq_true rfl, Nat.le_of_ble_eq_true rfl⟩ dL_lays_462 (fun  wa_22 H locs hI_22 hw_22 Y => ?_)
      have hW_22 := hW_21.trans hw_22
      refine lv_iinc (v := 2) (lv' := [(5, .int 2), (8, .int fr), (7, .int 20), (6, .int r_13), (0, .ref (Q 0)), (1, .ref sb), (2, .int (nI f)), (3, .ref bm)]) hx hb dL_lays_465 hl (k := 3) rfl (by decide) (by decide) rfl (fun ls hl => ?_)
      refine lv_goto (tgt := 272) hx hb dL_lays_468 (by decide) ?_
      refine lv_iload hx hb dL_lays_272 (lv_at hl 0 rfl) ?_
      refine lv_iconst (v := 2) hx hb dL_lays_274 (by decide) ?_
      refine lv_icmp_ge (tgt := 471) hx hb dL_lays_275 (by decide) (fun _ => ?_) (fun c_ => absurd (by decide) c_)
      have hP1 := PRd_left hP (by omega) (by omega) (u := x1) (v := la) (w := 0) (by omega) hla (by decide)
      have hP2 := PRd_right hP1 (by omega) (by simp only [List.length_append, List.length_cons, List.length_nil]; omega) (u := x2) (v := lb) (w := 0) (by omega) hlb (by decide)
      have hRD := PRd_e hP2 (by simp only [List.length_append, List.length_cons, List.length_nil]; omega)
      have hxx : 0 ≤ x1.toInt ∧ x1.toInt + m1.toInt ≤ x2.toInt ∧ x2.toInt ≤ m0.toInt := by omega
      refine lv_aload_n hx hb dL_lays_471 rfl (lv_at hl 4 rfl) ?_
      refine qVI (al := [(bm, .inl (cyI, 40, .inl (upd (upd (upd (upd (upd (upd (upd (upd g 8 x1) 10 la) 11 0) 15 la) 20 x2) 22 lb) 23 0) 27 lb)))]) (As := []) (rest := []) X Y (k_fault hI_22 (-4) (by rw [hRD])) gL_lays_X7_fault rfl hdq_X7_fault ⟨Nat.le_of_ble_eq_true rfl, Nat.le_of_ble_eq_true rfl⟩ hI_22.head rfl rfl hl.1 (Nat.le_of_ble_eq_true rfl) ⟨Nat.le_of_ble_eq_true rfl, Nat.le_of_ble_eq_true rfl⟩ dL_lays_472 (fun wa_23 H locs hI_23 hw_23 Y => ?_)
      have hW_23 := hW_22.trans hw_23
      refine lv_bipush (v := (-4)) hx hb dL_lays_475 (by decide) ?_
      refine lv_icmp_ne (tgt := 494) hx hb dL_lays_477 (by decide) (fun c_ => absurd (by decide) c_) (fun _ => ?_)
      refine lv_aload_n hx hb dL_lays_480 rfl (lv_at hl 4 rfl) ?_
      refine qVI (al := [(bm, .inl (cyI, 40, .inl (upd (upd (upd (upd (upd (upd (upd (upd g 8 x1) 10 la) 11 0) 15 la) 20 x2) 22 lb) 23 0) 27 lb)))]) (As := []) (rest := []) X Y (k_lay_ok hI_23 hRD (both_ok h0 h1 hxx)) gL_lays_X7_lay rfl hdq_X7_lay ⟨Nat.le_of_ble_eq_true rfl, Nat.le_of_ble_eq_true rfl⟩ hI_23.head rfl rfl hl.1 (Nat.le_of_ble_eq_true rfl) ⟨Nat.le_of_ble_eq_true rfl, Nat.le_of_ble_eq_true rfl⟩ dL_lays_481 (fun wa_24 H locs hI_24 hw_24 Y => ?_)
      have hW_24 := hW_23.trans hw_24
      refine lv_aload_n hx hb dL_lays_484 rfl (lv_at hl 7 rfl) ?_
      refine lv_iconst (v := 0) hx hb dL_lays_485 (by decide) ?_
      refine bIald (v := m0) X.1 Y 0 rfl (bInD (by decide)) dL_lays_486 ((upd_ne (by decide)).trans ((upd_ne (by decide)).trans ((upd_ne (by decide)).trans ((upd_ne (by decide)).trans ((upd_ne (by decide)).trans ((upd_ne (by decide)).trans ((upd_ne (by decide)).trans ((upd_ne (by decide)).trans hg0)))))))) ?_
      refine lv_icmp_ne (tgt := 494) hx hb dL_lays_487 (by decide) (fun c_25 => ?_) (fun c_25 => ?_)
      · exact absurd rfl (show ¬ (m0 = m0) from c_25)
      · have c_25 : m0 = m0 := c_25
        refine lv_iconst (v := 1) hx hb dL_lays_490 (by decide) ?_
        refine lv_goto (tgt := 495) hx hb dL_lays_491 (by decide) ?_
        exact qEndZ (al := []) (w1 := [(bm, .inl (cyI, 40, .inl (upd (upd (upd (upd (upd (upd (upd (upd g 8 x1) 10 la) 11 0) 15 la) 20 x2) 22 lb) 23 0) 27 lb)))] ++ wa_24) X Y hr hlk dL_lays_495 rfl (⟨rfl, _, _, _, _, _, rfl, hI_24, layS_ok _ h0 h1 h2 h3 h4 hla hlb (by decide) (by decide) hxx, ⟨(((upd_ne (by decide)).trans ((upd_ne (by decide)).trans ((upd_ne (by decide)).trans ((upd_ne (by decide)).trans ((upd_ne (by decide)).trans ((upd_ne (by decide)).trans ((upd_ne (by decide)).trans upd_eq)))))))).symm, (((upd_ne (by decide)).trans ((upd_ne (by decide)).trans ((upd_ne (by decide)).trans ((upd_ne (by decide)).trans ((upd_ne (by decide)).trans ((upd_ne (by decide)).trans upd_eq))))))).symm, (((upd_ne (by decide)).trans ((upd_ne (by decide)).trans ((upd_ne (by decide)).trans ((upd_ne (by decide)).trans ((upd_ne (by decide)).trans upd_eq)))))).symm⟩, ⟨(((upd_ne (by decide)).trans ((upd_ne (by decide)).trans ((upd_ne (by decide)).trans upd_eq)))).symm, (((upd_ne (by decide)).trans ((upd_ne (by decide)).trans upd_eq))).symm, (((upd_ne (by decide)).trans upd_eq)).symm⟩, rfl, rfl⟩) (wPerm.cons rfl hW_24) (Nat.le_of_ble_eq_true rfl) (Nat.le_of_ble_eq_true rfl)
    · have c_17 : pp = 0 := c_17
      refine lv_iload hx hb dL_lays_388 (lv_at hl 2 rfl) ?_
      refine lv_bipush (v := 9) hx hb dL_lays_390 (by decide) ?_
      refine bShr (v := r_13 >>> ((9 : Int32) &&& 31)) X.1 dL_lays_392 rfl ?_
      refine lv_bipush (v := 100) hx hb dL_lays_393 (by decide) ?_
      refine bSI (As := [.int (r_13 >>> ((9 : Int32) &&& 31)), .int 100]) (rest := [.int 23, .ref bm]) X.1 Y (c_part l D cyC cyI (r_13 >>> ((9 : Int32) &&& 31)) 100 (by decide)) gL_lays_L_part rfl ⟨rfl, rfl⟩ hdq_L_part.2 ⟨Nat.le_of_ble_eq_true rfl, Nat.le_of_ble_eq_true rfl⟩ rfl rfl hl.1 (Nat.le_of_ble_eq_true rfl) ⟨Nat.le_of_ble_eq_true rfl, Nat.le_of_ble_eq_true rfl⟩ dL_lays_395 (fun H locs Y => ?_)
      refine lv_topi (fun nb e_nb => ?_)
      have hnb : 0 ≤ nb.toInt ∧ nb.toInt ≤ 99 := by rw [e_nb]; have := pt_b (v := (r_13 >>> ((9 : Int32) &&& 31))) (n := 100) (by decide); rw [show (100 : Int32).toInt = 100 by decide] at this; omega
      have hdnb := (dg_b (v := nb) (by omega)).1
      refine lv_goto (tgt := 402) hx hb dL_lays_398 (by decide) ?_
      refine bIast (f' := upd (upd (upd (upd (upd (upd (upd g 8 x1) 10 la) 11 0) 15 la) 20 x2) 22 lb) 23 nb) (ws' := [(bm, .inl (cyI, 40, .inl (upd (upd (upd (upd (upd (upd (upd g 8 x1) 10 la) 11 0) 15 la) 20 x2) 22 lb) 23 nb)))] ++ wa_11) X.1 Y 0 rfl (bInD (by decide)) rfl rfl dL_lays_402 (fun H locs Y => ?_)
      refine lv_aload_n hx hb dL_lays_403 rfl (lv_at hl 7 rfl) ?_
      refine lv_iload hx hb dL_lays_404 (lv_at hl 1 rfl) ?_
      refine lv_bipush (v := 7) hx hb dL_lays_406 (by decide) ?_
      refine bAdd (v := 27) X.1 dL_lays_408 (by decide) ?_
      refine lv_aload_n hx hb dL_lays_409 rfl (lv_at hl 7 rfl) ?_
      refine lv_iload hx hb dL_lays_410 (lv_at hl 1 rfl) ?_
      refine lv_iconst (v := 2) hx hb dL_lays_412 (by decide) ?_
      refine bAdd (v := 22) X.1 dL_lays_413 (by decide) ?_
      refine bIald (v := lb) X.1 Y 0 rfl (bInD (by decide)) dL_lays_414 ((upd_ne (by decide)).trans upd_eq) ?_
      refine bIast (f' := upd (upd (upd (upd (upd (upd (upd (upd g 8 x1) 10 la) 11 0) 15 la) 20 x2) 22 lb) 23 nb) 27 lb) (ws' := [(bm, .inl (cyI, 40, .inl (upd (upd (upd (upd (upd (upd (upd (upd g 8 x1) 10 la) 11 0) 15 la) 20 x2) 22 lb) 23 nb) 27 lb)))] ++ wa_11) X.1 Y 0 rfl (bInD (by decide)) rfl rfl dL_lays_415 (fun H locs Y => ?_)
      refine lv_aload_n hx hb dL_lays_416 rfl (lv_at hl 4 rfl) ?_
      refine lv_bipush (v := 99) hx hb dL_lays_417 (by decide) ?_
      refine qVI (al := [(bm, .inl (cyI, 40, .inl (upd (upd (upd (upd (upd (upd (upd (upd g 8 x1) 10 la) 11 0) 15 la) 20 x2) 22 lb) 23 nb) 27 lb)))]) (As := [.int 99]) (rest := []) X Y (k_write hI_11 99 (by (try simp only [List.length_append, List.length_cons, List.length_nil]); omega) (by decide)) gL_lays_X7_write rfl hdq_X7_write ⟨Nat.le_of_ble_eq_true rfl, Nat.le_of_ble_eq_true rfl⟩ hI_11.head rfl rfl hl.1 (Nat.le_of_ble_eq_true rfl) ⟨Nat.le_of_ble_eq_true rfl, Nat.le_of_ble_eq_true rfl⟩ dL_lays_419 (fun wa_27 H locs hI_27 hw_27 Y => ?_)
      have hW_27 := hW_11.trans hw_27
      refine lv_pop hx hb dL_lays_422 rfl ?_
      refine lv_aload_n hx hb dL_lays_423 rfl (lv_at hl 4 rfl) ?_
      refine lv_iload hx hb dL_lays_424 (lv_at hl 3 rfl) ?_
      refine lv_bipush (v := 44) hx hb dL_lays_426 (by decide) ?_
      refine qSV (al := [(bm, .inl (cyI, 40, .inl (upd (upd (upd (upd (upd (upd (upd (upd g 8 x1) 10 la) 11 0) 15 la) 20 x2) 22 lb) 23 nb) 27 lb)))]) (wa := wa_27) (As := [.ref (Q 0), .int 1, .int 44]) (rest := []) (c2 := 0) (s2 := 0) X Y (c_number l D cyC cyI sb sL xs hI_27 1 44 (by decide) (by decide) (by (try simp only [List.length_append, List.length_cons, List.length_nil]); omega)) gL_lays_L_number rfl ⟨rfl, rfl⟩ hdq_L_number.2 ⟨Nat.le_of_ble_eq_true rfl, Nat.le_of_ble_eq_true rfl⟩ rfl rfl rfl rfl hl.1 (Nat.le_of_ble_eq_true rfl) ⟨Nat.le_of_ble_eq_true rfl, Nat.le_of_ble_eq_true rfl⟩ dL_lays_428 (fun  wa_28 H locs hI_28 hw_28 Y => ?_)
      have hW_28 := hW_27.trans hw_28
      refine lv_aload_n hx hb dL_lays_431 rfl (lv_at hl 4 rfl) ?_
      refine lv_aload_n hx hb dL_lays_432 rfl (lv_at hl 7 rfl) ?_
      refine lv_iload hx hb dL_lays_433 (lv_at hl 1 rfl) ?_
      refine bIald (v := x2) X.1 Y 0 rfl (bInD (by decide)) dL_lays_435 ((upd_ne (by decide)).trans ((upd_ne (by decide)).trans ((upd_ne (by decide)).trans upd_eq))) ?_
      refine lv_bipush (v := 44) hx hb dL_lays_436 (by decide) ?_
      refine qSV (al := [(bm, .inl (cyI, 40, .inl (upd (upd (upd (upd (upd (upd (upd (upd g 8 x1) 10 la) 11 0) 15 la) 20 x2) 22 lb) 23 nb) 27 lb)))]) (wa := wa_28) (As := [.ref (Q 0), .int x2, .int 44]) (rest := []) (c2 := 0) (s2 := 0) X Y (c_number l D cyC cyI sb sL xs hI_28 x2 44 (by omega) (by decide) (by (try simp only [List.length_append, List.length_cons, List.length_nil]); omega)) gL_lays_L_number rfl ⟨rfl, rfl⟩ hdq_L_number.2 ⟨Nat.le_of_ble_eq_true rfl, Nat.le_of_ble_eq_true rfl⟩ rfl rfl rfl rfl hl.1 (Nat.le_of_ble_eq_true rfl) ⟨Nat.le_of_ble_eq_true rfl, Nat.le_of_ble_eq_true rfl⟩ dL_lays_438 (fun  wa_29 H locs hI_29 hw_29 Y => ?_)
      have hW_29 := hW_28.trans hw_29
      refine lv_aload_n hx hb dL_lays_441 rfl (lv_at hl 4 rfl) ?_
      refine lv_aload_n hx hb dL_lays_442 rfl (lv_at hl 7 rfl) ?_
      refine lv_iload hx hb dL_lays_443 (lv_at hl 1 rfl) ?_
      refine lv_iconst (v := 2) hx hb dL_lays_445 (by decide) ?_
      refine bAdd (v := 22) X.1 dL_lays_446 (by decide) ?_
      refine bIald (v := lb) X.1 Y 0 rfl (bInD (by decide)) dL_lays_447 ((upd_ne (by decide)).trans ((upd_ne (by decide)).trans upd_eq)) ?_
      refine lv_bipush (v := 44) hx hb dL_lays_448 (by decide) ?_
      refine qSV (al := [(bm, .inl (cyI, 40, .inl (upd (upd (upd (upd (upd (upd (upd (upd g 8 x1) 10 la) 11 0) 15 la) 20 x2) 22 lb) 23 nb) 27 lb)))]) (wa := wa_29) (As := [.ref (Q 0), .int lb, .int 44]) (rest := []) (c2 := 0) (s2 := 0) X Y (c_number l D cyC cyI sb sL xs hI_29 lb 44 (by omega) (by decide) (by (try simp only [List.length_append, List.length_cons, List.length_nil]); omega)) gL_lays_L_number rfl ⟨rfl, rfl⟩ hdq_L_number.2 ⟨Nat.le_of_ble_eq_true rfl, Nat.le_of_ble_eq_true rfl⟩ rfl rfl rfl rfl hl.1 (Nat.le_of_ble_eq_true rfl) ⟨Nat.le_of_ble_eq_true rfl, Nat.le_of_ble_eq_true rfl⟩ dL_lays_450 (fun  wa_30 H locs hI_30 hw_30 Y => ?_)
      have hW_30 := hW_29.trans hw_30
      refine lv_aload_n hx hb dL_lays_453 rfl (lv_at hl 4 rfl) ?_
      refine lv_aload_n hx hb dL_lays_454 rfl (lv_at hl 7 rfl) ?_
      refine lv_iload hx hb dL_lays_455 (lv_at hl 1 rfl) ?_
      refine lv_iconst (v := 3) hx hb dL_lays_457 (by decide) ?_
      refine bAdd (v := 23) X.1 dL_lays_458 (by decide) ?_
      refine bIald (v := nb) X.1 Y 0 rfl (bInD (by decide)) dL_lays_459 ((upd_ne (by decide)).trans upd_eq) ?_
      refine lv_bipush (v := 59) hx hb dL_lays_460 (by decide) ?_
      refine qSV (al := [(bm, .inl (cyI, 40, .inl (upd (upd (upd (upd (upd (upd (upd (upd g 8 x1) 10 la) 11 0) 15 la) 20 x2) 22 lb) 23 nb) 27 lb)))]) (wa := wa_30) (As := [.ref (Q 0), .int nb, .int 59]) (rest := []) (c2 := 0) (s2 := 0) X Y (c_number l D cyC cyI sb sL xs hI_30 nb 59 (by omega) (by decide) (by (try simp only [List.length_append, List.length_cons, List.length_nil]); omega)) gL_lays_L_number rfl ⟨rfl, rfl⟩ hdq_L_number.2 ⟨Nat.le_of_ble_eq_true rfl, Nat.le_of_ble_eq_true rfl⟩ rfl rfl rfl rfl hl.1 (Nat.le_of_ble_eq_true rfl) ⟨Nat.le_of_ble_eq_true rfl, Nat.le_of_ble_eq_true rfl⟩ dL_lays_462 (fun  wa_31 H locs hI_31 hw_31 Y => ?_)
      have hW_31 := hW_30.trans hw_31
      refine lv_iinc (v := 2) (lv' := [(5, .int 2), (8, .int fr), (7, .int 20), (6, .int r_13), (0, .ref (Q 0)), (1, .ref sb), (2, .int (nI f)), (3, .ref bm)]) hx hb dL_lays_465 hl (k := 3) rfl (by decide) (by decide) rfl (fun ls hl => ?_)
      refine lv_goto (tgt := 272) hx hb dL_lays_468 (by decide) ?_
      refine lv_iload hx hb dL_lays_272 (lv_at hl 0 rfl) ?_
      refine lv_iconst (v := 2) hx hb dL_lays_274 (by decide) ?_
      refine lv_icmp_ge (tgt := 471) hx hb dL_lays_275 (by decide) (fun _ => ?_) (fun c_ => absurd (by decide) c_)
      have hP1 := PRd_left hP (by omega) (by omega) (u := x1) (v := la) (w := 0) (by omega) hla (by decide)
      have hP2 := PRd_right hP1 (by omega) (by simp only [List.length_append, List.length_cons, List.length_nil]; omega) (u := x2) (v := lb) (w := nb) (by omega) hlb hnb
      have hRD := PRd_e hP2 (by simp only [List.length_append, List.length_cons, List.length_nil]; omega)
      have hxx : 0 ≤ x1.toInt ∧ x1.toInt + m1.toInt ≤ x2.toInt ∧ x2.toInt ≤ m0.toInt := by omega
      refine lv_aload_n hx hb dL_lays_471 rfl (lv_at hl 4 rfl) ?_
      refine qVI (al := [(bm, .inl (cyI, 40, .inl (upd (upd (upd (upd (upd (upd (upd (upd g 8 x1) 10 la) 11 0) 15 la) 20 x2) 22 lb) 23 nb) 27 lb)))]) (As := []) (rest := []) X Y (k_fault hI_31 (-4) (by rw [hRD])) gL_lays_X7_fault rfl hdq_X7_fault ⟨Nat.le_of_ble_eq_true rfl, Nat.le_of_ble_eq_true rfl⟩ hI_31.head rfl rfl hl.1 (Nat.le_of_ble_eq_true rfl) ⟨Nat.le_of_ble_eq_true rfl, Nat.le_of_ble_eq_true rfl⟩ dL_lays_472 (fun wa_32 H locs hI_32 hw_32 Y => ?_)
      have hW_32 := hW_31.trans hw_32
      refine lv_bipush (v := (-4)) hx hb dL_lays_475 (by decide) ?_
      refine lv_icmp_ne (tgt := 494) hx hb dL_lays_477 (by decide) (fun c_ => absurd (by decide) c_) (fun _ => ?_)
      refine lv_aload_n hx hb dL_lays_480 rfl (lv_at hl 4 rfl) ?_
      refine qVI (al := [(bm, .inl (cyI, 40, .inl (upd (upd (upd (upd (upd (upd (upd (upd g 8 x1) 10 la) 11 0) 15 la) 20 x2) 22 lb) 23 nb) 27 lb)))]) (As := []) (rest := []) X Y (k_lay_ok hI_32 hRD (both_ok h0 h1 hxx)) gL_lays_X7_lay rfl hdq_X7_lay ⟨Nat.le_of_ble_eq_true rfl, Nat.le_of_ble_eq_true rfl⟩ hI_32.head rfl rfl hl.1 (Nat.le_of_ble_eq_true rfl) ⟨Nat.le_of_ble_eq_true rfl, Nat.le_of_ble_eq_true rfl⟩ dL_lays_481 (fun wa_33 H locs hI_33 hw_33 Y => ?_)
      have hW_33 := hW_32.trans hw_33
      refine lv_aload_n hx hb dL_lays_484 rfl (lv_at hl 7 rfl) ?_
      refine lv_iconst (v := 0) hx hb dL_lays_485 (by decide) ?_
      refine bIald (v := m0) X.1 Y 0 rfl (bInD (by decide)) dL_lays_486 ((upd_ne (by decide)).trans ((upd_ne (by decide)).trans ((upd_ne (by decide)).trans ((upd_ne (by decide)).trans ((upd_ne (by decide)).trans ((upd_ne (by decide)).trans ((upd_ne (by decide)).trans ((upd_ne (by decide)).trans hg0)))))))) ?_
      refine lv_icmp_ne (tgt := 494) hx hb dL_lays_487 (by decide) (fun c_34 => ?_) (fun c_34 => ?_)
      · exact absurd rfl (show ¬ (m0 = m0) from c_34)
      · have c_34 : m0 = m0 := c_34
        refine lv_iconst (v := 1) hx hb dL_lays_490 (by decide) ?_
        refine lv_goto (tgt := 495) hx hb dL_lays_491 (by decide) ?_
        exact qEndZ (al := []) (w1 := [(bm, .inl (cyI, 40, .inl (upd (upd (upd (upd (upd (upd (upd (upd g 8 x1) 10 la) 11 0) 15 la) 20 x2) 22 lb) 23 nb) 27 lb)))] ++ wa_33) X Y hr hlk dL_lays_495 rfl (⟨rfl, _, _, _, _, _, rfl, hI_33, layS_ok _ h0 h1 h2 h3 h4 hla hlb (by decide) hnb hxx, ⟨(((upd_ne (by decide)).trans ((upd_ne (by decide)).trans ((upd_ne (by decide)).trans ((upd_ne (by decide)).trans ((upd_ne (by decide)).trans ((upd_ne (by decide)).trans ((upd_ne (by decide)).trans upd_eq)))))))).symm, (((upd_ne (by decide)).trans ((upd_ne (by decide)).trans ((upd_ne (by decide)).trans ((upd_ne (by decide)).trans ((upd_ne (by decide)).trans ((upd_ne (by decide)).trans upd_eq))))))).symm, (((upd_ne (by decide)).trans ((upd_ne (by decide)).trans ((upd_ne (by decide)).trans ((upd_ne (by decide)).trans ((upd_ne (by decide)).trans upd_eq)))))).symm⟩, ⟨(((upd_ne (by decide)).trans ((upd_ne (by decide)).trans ((upd_ne (by decide)).trans upd_eq)))).symm, (((upd_ne (by decide)).trans ((upd_ne (by decide)).trans upd_eq))).symm, (((upd_ne (by decide)).trans upd_eq)).symm⟩, rfl, rfl⟩) (wPerm.cons rfl hW_33) (Nat.le_of_ble_eq_true rfl) (Nat.le_of_ble_eq_true rfl)
  · have c_6 : pp = 0 := c_6
    refine lv_iload hx hb dL_lays_388 (lv_at hl 2 rfl) ?_
    refine lv_bipush (v := 9) hx hb dL_lays_390 (by decide) ?_
    refine bShr (v := r_2 >>> ((9 : Int32) &&& 31)) X.1 dL_lays_392 rfl ?_
    refine lv_bipush (v := 100) hx hb dL_lays_393 (by decide) ?_
    refine bSI (As := [.int (r_2 >>> ((9 : Int32) &&& 31)), .int 100]) (rest := [.int 11, .ref bm]) X.1 Y (c_part l D cyC cyI (r_2 >>> ((9 : Int32) &&& 31)) 100 (by decide)) gL_lays_L_part rfl ⟨rfl, rfl⟩ hdq_L_part.2 ⟨Nat.le_of_ble_eq_true rfl, Nat.le_of_ble_eq_true rfl⟩ rfl rfl hl.1 (Nat.le_of_ble_eq_true rfl) ⟨Nat.le_of_ble_eq_true rfl, Nat.le_of_ble_eq_true rfl⟩ dL_lays_395 (fun H locs Y => ?_)
    refine lv_topi (fun na e_na => ?_)
    have hna : 0 ≤ na.toInt ∧ na.toInt ≤ 99 := by rw [e_na]; have := pt_b (v := (r_2 >>> ((9 : Int32) &&& 31))) (n := 100) (by decide); rw [show (100 : Int32).toInt = 100 by decide] at this; omega
    have hdna := (dg_b (v := na) (by omega)).1
    refine lv_goto (tgt := 402) hx hb dL_lays_398 (by decide) ?_
    refine bIast (f' := upd (upd (upd g 8 x1) 10 la) 11 na) (ws' := [(bm, .inl (cyI, 40, .inl (upd (upd (upd g 8 x1) 10 la) 11 na)))] ++ wa) X.1 Y 0 rfl (bInD (by decide)) rfl rfl dL_lays_402 (fun H locs Y => ?_)
    refine lv_aload_n hx hb dL_lays_403 rfl (lv_at hl 7 rfl) ?_
    refine lv_iload hx hb dL_lays_404 (lv_at hl 1 rfl) ?_
    refine lv_bipush (v := 7) hx hb dL_lays_406 (by decide) ?_
    refine bAdd (v := 15) X.1 dL_lays_408 (by decide) ?_
    refine lv_aload_n hx hb dL_lays_409 rfl (lv_at hl 7 rfl) ?_
    refine lv_iload hx hb dL_lays_410 (lv_at hl 1 rfl) ?_
    refine lv_iconst (v := 2) hx hb dL_lays_412 (by decide) ?_
    refine bAdd (v := 10) X.1 dL_lays_413 (by decide) ?_
    refine bIald (v := la) X.1 Y 0 rfl (bInD (by decide)) dL_lays_414 ((upd_ne (by decide)).trans upd_eq) ?_
    refine bIast (f' := upd (upd (upd (upd g 8 x1) 10 la) 11 na) 15 la) (ws' := [(bm, .inl (cyI, 40, .inl (upd (upd (upd (upd g 8 x1) 10 la) 11 na) 15 la)))] ++ wa) X.1 Y 0 rfl (bInD (by decide)) rfl rfl dL_lays_415 (fun H locs Y => ?_)
    refine lv_aload_n hx hb dL_lays_416 rfl (lv_at hl 4 rfl) ?_
    refine lv_bipush (v := 99) hx hb dL_lays_417 (by decide) ?_
    refine qVI (al := [(bm, .inl (cyI, 40, .inl (upd (upd (upd (upd g 8 x1) 10 la) 11 na) 15 la)))]) (As := [.int 99]) (rest := []) X Y (k_write hI 99 (by (try simp only [List.length_append, List.length_cons, List.length_nil]); omega) (by decide)) gL_lays_X7_write rfl hdq_X7_write ⟨Nat.le_of_ble_eq_true rfl, Nat.le_of_ble_eq_true rfl⟩ hI.head rfl rfl hl.1 (Nat.le_of_ble_eq_true rfl) ⟨Nat.le_of_ble_eq_true rfl, Nat.le_of_ble_eq_true rfl⟩ dL_lays_419 (fun wa_36 H locs hI_36 hw_36 Y => ?_)
    have hW_36 := hW.trans hw_36
    refine lv_pop hx hb dL_lays_422 rfl ?_
    refine lv_aload_n hx hb dL_lays_423 rfl (lv_at hl 4 rfl) ?_
    refine lv_iload hx hb dL_lays_424 (lv_at hl 3 rfl) ?_
    refine lv_bipush (v := 44) hx hb dL_lays_426 (by decide) ?_
    refine qSV (al := [(bm, .inl (cyI, 40, .inl (upd (upd (upd (upd g 8 x1) 10 la) 11 na) 15 la)))]) (wa := wa_36) (As := [.ref (Q 0), .int 0, .int 44]) (rest := []) (c2 := 0) (s2 := 0) X Y (c_number l D cyC cyI sb sL xs hI_36 0 44 (by decide) (by decide) (by (try simp only [List.length_append, List.length_cons, List.length_nil]); omega)) gL_lays_L_number rfl ⟨rfl, rfl⟩ hdq_L_number.2 ⟨Nat.le_of_ble_eq_true rfl, Nat.le_of_ble_eq_true rfl⟩ rfl rfl rfl rfl hl.1 (Nat.le_of_ble_eq_true rfl) ⟨Nat.le_of_ble_eq_true rfl, Nat.le_of_ble_eq_true rfl⟩ dL_lays_428 (fun  wa_37 H locs hI_37 hw_37 Y => ?_)
    have hW_37 := hW_36.trans hw_37
    refine lv_aload_n hx hb dL_lays_431 rfl (lv_at hl 4 rfl) ?_
    refine lv_aload_n hx hb dL_lays_432 rfl (lv_at hl 7 rfl) ?_
    refine lv_iload hx hb dL_lays_433 (lv_at hl 1 rfl) ?_
    refine bIald (v := x1) X.1 Y 0 rfl (bInD (by decide)) dL_lays_435 ((upd_ne (by decide)).trans ((upd_ne (by decide)).trans ((upd_ne (by decide)).trans upd_eq))) ?_
    refine lv_bipush (v := 44) hx hb dL_lays_436 (by decide) ?_
    refine qSV (al := [(bm, .inl (cyI, 40, .inl (upd (upd (upd (upd g 8 x1) 10 la) 11 na) 15 la)))]) (wa := wa_37) (As := [.ref (Q 0), .int x1, .int 44]) (rest := []) (c2 := 0) (s2 := 0) X Y (c_number l D cyC cyI sb sL xs hI_37 x1 44 (by omega) (by decide) (by (try simp only [List.length_append, List.length_cons, List.length_nil]); omega)) gL_lays_L_number rfl ⟨rfl, rfl⟩ hdq_L_number.2 ⟨Nat.le_of_ble_eq_true rfl, Nat.le_of_ble_eq_true rfl⟩ rfl rfl rfl rfl hl.1 (Nat.le_of_ble_eq_true rfl) ⟨Nat.le_of_ble_eq_true rfl, Nat.le_of_ble_eq_true rfl⟩ dL_lays_438 (fun  wa_38 H locs hI_38 hw_38 Y => ?_)
    have hW_38 := hW_37.trans hw_38
    refine lv_aload_n hx hb dL_lays_441 rfl (lv_at hl 4 rfl) ?_
    refine lv_aload_n hx hb dL_lays_442 rfl (lv_at hl 7 rfl) ?_
    refine lv_iload hx hb dL_lays_443 (lv_at hl 1 rfl) ?_
    refine lv_iconst (v := 2) hx hb dL_lays_445 (by decide) ?_
    refine bAdd (v := 10) X.1 dL_lays_446 (by decide) ?_
    refine bIald (v := la) X.1 Y 0 rfl (bInD (by decide)) dL_lays_447 ((upd_ne (by decide)).trans ((upd_ne (by decide)).trans upd_eq)) ?_
    refine lv_bipush (v := 44) hx hb dL_lays_448 (by decide) ?_
    refine qSV (al := [(bm, .inl (cyI, 40, .inl (upd (upd (upd (upd g 8 x1) 10 la) 11 na) 15 la)))]) (wa := wa_38) (As := [.ref (Q 0), .int la, .int 44]) (rest := []) (c2 := 0) (s2 := 0) X Y (c_number l D cyC cyI sb sL xs hI_38 la 44 (by omega) (by decide) (by (try simp only [List.length_append, List.length_cons, List.length_nil]); omega)) gL_lays_L_number rfl ⟨rfl, rfl⟩ hdq_L_number.2 ⟨Nat.le_of_ble_eq_true rfl, Nat.le_of_ble_eq_true rfl⟩ rfl rfl rfl rfl hl.1 (Nat.le_of_ble_eq_true rfl) ⟨Nat.le_of_ble_eq_true rfl, Nat.le_of_ble_eq_true rfl⟩ dL_lays_450 (fun  wa_39 H locs hI_39 hw_39 Y => ?_)
    have hW_39 := hW_38.trans hw_39
    refine lv_aload_n hx hb dL_lays_453 rfl (lv_at hl 4 rfl) ?_
    refine lv_aload_n hx hb dL_lays_454 rfl (lv_at hl 7 rfl) ?_
    refine lv_iload hx hb dL_lays_455 (lv_at hl 1 rfl) ?_
    refine lv_iconst (v := 3) hx hb dL_lays_457 (by decide) ?_
    refine bAdd (v := 11) X.1 dL_lays_458 (by decide) ?_
    refine bIald (v := na) X.1 Y 0 rfl (bInD (by decide)) dL_lays_459 ((upd_ne (by decide)).trans upd_eq) ?_
    refine lv_bipush (v := 59) hx hb dL_lays_460 (by decide) ?_
    refine qSV (al := [(bm, .inl (cyI, 40, .inl (upd (upd (upd (upd g 8 x1) 10 la) 11 na) 15 la)))]) (wa := wa_39) (As := [.ref (Q 0), .int na, .int 59]) (rest := []) (c2 := 0) (s2 := 0) X Y (c_number l D cyC cyI sb sL xs hI_39 na 59 (by omega) (by decide) (by (try simp only [List.length_append, List.length_cons, List.length_nil]); omega)) gL_lays_L_number rfl ⟨rfl, rfl⟩ hdq_L_number.2 ⟨Nat.le_of_ble_eq_true rfl, Nat.le_of_ble_eq_true rfl⟩ rfl rfl rfl rfl hl.1 (Nat.le_of_ble_eq_true rfl) ⟨Nat.le_of_ble_eq_true rfl, Nat.le_of_ble_eq_true rfl⟩ dL_lays_462 (fun  wa_40 H locs hI_40 hw_40 Y => ?_)
    have hW_40 := hW_39.trans hw_40
    refine lv_iinc (v := 1) (lv' := [(5, .int 1), (8, .int fr), (7, .int 8), (6, .int r_2), (0, .ref (Q 0)), (1, .ref sb), (2, .int (nI f)), (3, .ref bm)]) hx hb dL_lays_465 hl (k := 3) rfl (by decide) (by decide) rfl (fun ls hl => ?_)
    refine lv_goto (tgt := 272) hx hb dL_lays_468 (by decide) ?_
    refine lv_iload hx hb dL_lays_272 (lv_at hl 0 rfl) ?_
    refine lv_iconst (v := 2) hx hb dL_lays_274 (by decide) ?_
    refine lv_icmp_ge (tgt := 471) hx hb dL_lays_275 (by decide) (fun c_ => absurd c_ (by decide)) (fun _ => ?_)
    refine lv_aload_n hx hb dL_lays_278 rfl (lv_at hl 5 rfl) ?_
    refine lv_iload_n hx hb dL_lays_279 rfl (lv_at hl 6 rfl) ?_
    refine lv_iconst (v := 1) hx hb dL_lays_280 (by decide) ?_
    refine bAdd (v := nI (f + 1)) X.1 dL_lays_281 (nI_sum (a := f) (b := 1) rfl rfl rfl) ?_
    refine lv_iload hx hb dL_lays_282 (lv_at hl 0 rfl) ?_
    refine bAdd (v := nI (f + 1 + 1)) X.1 dL_lays_284 (nI_sum (a := f + 1) (b := 1) rfl rfl rfl) ?_
    refine qSI (al := []) (wa := ([(bm, .inl (cyI, 40, .inl (upd (upd (upd (upd g 8 x1) 10 la) 11 na) 15 la)))] ++ wa_40)) (As := [.ref sb, .int (nI (f + 1 + 1))]) (rest := []) (c2 := 0) (s2 := 0) X Y (c_cell l D cyC cyI sb sL xs (nI (f + 1 + 1)) (by rw [nIt (by omega)]; omega) hsL) gL_lays_L_cell rfl ⟨rfl, rfl⟩ hdq_L_cell.2 ⟨Nat.le_of_ble_eq_true rfl, Nat.le_of_ble_eq_true rfl⟩ rfl rfl rfl rfl hl.1 (Nat.le_of_ble_eq_true rfl) ⟨Nat.le_of_ble_eq_true rfl, Nat.le_of_ble_eq_true rfl⟩ dL_lays_285 (fun r_42 wa_41 H locs hI_41 hw_41 Y => ?_)
    subst hI_41
    have Y : bY D A_ s_.heap ([(bm, .inl (cyI, 40, .inl (upd (upd (upd (upd g 8 x1) 10 la) 11 na) 15 la)))] ++ wa_40) H locs := Y
    refine lv_istore (lv' := [(6, .int r_42), (5, .int 1), (8, .int fr), (7, .int 8), (0, .ref (Q 0)), (1, .ref sb), (2, .int (nI f)), (3, .ref bm)]) hx hb dL_lays_288 hl (by decide) rfl (fun ls hl => ?_)
    refine lv_bipush (v := 8) hx hb dL_lays_290 (by decide) ?_
    refine lv_bipush (v := 12) hx hb dL_lays_292 (by decide) ?_
    refine lv_iload hx hb dL_lays_294 (lv_at hl 1 rfl) ?_
    refine bMul (v := 12) X.1 dL_lays_296 (by decide) ?_
    refine bAdd (v := 20) X.1 dL_lays_297 (by decide) ?_
    refine lv_istore (lv' := [(7, .int 20), (6, .int r_42), (5, .int 1), (8, .int fr), (0, .ref (Q 0)), (1, .ref sb), (2, .int (nI f)), (3, .ref bm)]) hx hb dL_lays_298 hl (by decide) rfl (fun ls hl => ?_)
    refine lv_aload_n hx hb dL_lays_300 rfl (lv_at hl 7 rfl) ?_
    refine lv_iconst (v := 0) hx hb dL_lays_301 (by decide) ?_
    refine bIald (v := m0) X.1 Y 0 rfl (bInD (by decide)) dL_lays_302 ((upd_ne (by decide)).trans ((upd_ne (by decide)).trans ((upd_ne (by decide)).trans ((upd_ne (by decide)).trans hg0)))) ?_
    refine lv_aload_n hx hb dL_lays_303 rfl (lv_at hl 7 rfl) ?_
    refine lv_iconst (v := 1) hx hb dL_lays_304 (by decide) ?_
    refine bIald (v := m1) X.1 Y 0 rfl (bInD (by decide)) dL_lays_305 ((upd_ne (by decide)).trans ((upd_ne (by decide)).trans ((upd_ne (by decide)).trans ((upd_ne (by decide)).trans hg1)))) ?_
    refine bSub (v := m0 - m1) X.1 dL_lays_306 rfl ?_
    refine lv_topi (fun fr e_fr => ?_)
    have hfr : fr.toInt = m0.toInt - m1.toInt := by rw [e_fr, subI (by omega) (by omega)]
    refine lv_istore (lv' := [(8, .int fr), (7, .int 20), (6, .int r_42), (5, .int 1), (0, .ref (Q 0)), (1, .ref sb), (2, .int (nI f)), (3, .ref bm)]) hx hb dL_lays_307 hl (by decide) rfl (fun ls hl => ?_)
    refine lv_aload_n hx hb dL_lays_309 rfl (lv_at hl 7 rfl) ?_
    refine lv_iload hx hb dL_lays_310 (lv_at hl 1 rfl) ?_
    refine lv_iload hx hb dL_lays_312 (lv_at hl 3 rfl) ?_
    refine lv_if_ne (tgt := 329) hx hb dL_lays_314 (by decide) (fun _ => ?_) (fun c_ => absurd c_ (by decide))
    refine lv_aload_n hx hb dL_lays_329 rfl (lv_at hl 7 rfl) ?_
    refine lv_bipush (v := 8) hx hb dL_lays_330 (by decide) ?_
    refine bIald (v := x1) X.1 Y 0 rfl (bInD (by decide)) dL_lays_332 ((upd_ne (by decide)).trans ((upd_ne (by decide)).trans ((upd_ne (by decide)).trans upd_eq))) ?_
    refine lv_aload_n hx hb dL_lays_333 rfl (lv_at hl 7 rfl) ?_
    refine lv_iconst (v := 1) hx hb dL_lays_334 (by decide) ?_
    refine bIald (v := m1) X.1 Y 0 rfl (bInD (by decide)) dL_lays_335 ((upd_ne (by decide)).trans ((upd_ne (by decide)).trans ((upd_ne (by decide)).trans ((upd_ne (by decide)).trans hg1)))) ?_
    refine bAdd (v := x1 + m1) X.1 dL_lays_336 rfl ?_
    refine lv_iload hx hb dL_lays_337 (lv_at hl 2 rfl) ?_
    refine lv_iload hx hb dL_lays_339 (lv_at hl 0 rfl) ?_
    refine lv_aload_n hx hb dL_lays_341 rfl (lv_at hl 7 rfl) ?_
    refine lv_bipush (v := 8) hx hb dL_lays_342 (by decide) ?_
    refine bIald (v := x1) X.1 Y 0 rfl (bInD (by decide)) dL_lays_344 ((upd_ne (by decide)).trans ((upd_ne (by decide)).trans ((upd_ne (by decide)).trans upd_eq))) ?_
    refine bSub (v := fr - x1) X.1 dL_lays_345 rfl ?_
    refine lv_iconst (v := 1) hx hb dL_lays_346 (by decide) ?_
    refine bAdd (v := (fr - x1) + 1) X.1 dL_lays_347 rfl ?_
    refine lv_topi (fun f2 e_f2 => ?_)
    have hf2 : f2.toInt = fr.toInt - x1.toInt + 1 := by
      have q1 : (fr - x1).toInt = fr.toInt - x1.toInt := subI (by omega) (by omega)
      rw [e_f2, addI (by rw [q1, show (1 : Int32).toInt = 1 by decide]; omega) (by rw [q1, show (1 : Int32).toInt = 1 by decide]; omega), q1, show (1 : Int32).toInt = 1 by decide]
    refine bSI (As := [.int r_42, .int f2]) (rest := [.int (x1 + m1), .int 20, .ref bm]) X.1 Y (c_part l D cyC cyI r_42 f2 (nz_of (by omega))) gL_lays_L_part rfl ⟨rfl, rfl⟩ hdq_L_part.2 ⟨Nat.le_of_ble_eq_true rfl, Nat.le_of_ble_eq_true rfl⟩ rfl rfl hl.1 (Nat.le_of_ble_eq_true rfl) ⟨Nat.le_of_ble_eq_true rfl, Nat.le_of_ble_eq_true rfl⟩ dL_lays_348 (fun H locs Y => ?_)
    refine lv_topi (fun p2 e_p2 => ?_)
    have hp2 := pt_b (v := r_42) (n := f2) (by omega)
    rw [← e_p2] at hp2
    refine bAdd (v := (x1 + m1) + p2) X.1 dL_lays_351 rfl ?_
    refine lv_topi (fun x2 e_x2 => ?_)
    have hx2 : x2.toInt = x1.toInt + m1.toInt + p2.toInt := by
      have q1 : (x1 + m1).toInt = x1.toInt + m1.toInt := addI (by omega) (by omega)
      rw [e_x2, addI (by rw [q1]; omega) (by rw [q1]; omega), q1]
    have hdx2 := (dg_b (v := x2) (by omega)).1
    refine bIast (f' := upd (upd (upd (upd (upd g 8 x1) 10 la) 11 na) 15 la) 20 x2) (ws' := [(bm, .inl (cyI, 40, .inl (upd (upd (upd (upd (upd g 8 x1) 10 la) 11 na) 15 la) 20 x2)))] ++ wa_40) X.1 Y 0 rfl (bInD (by decide)) rfl rfl dL_lays_352 (fun H locs Y => ?_)
    refine lv_aload_n hx hb dL_lays_353 rfl (lv_at hl 7 rfl) ?_
    refine lv_iload hx hb dL_lays_354 (lv_at hl 1 rfl) ?_
    refine lv_iconst (v := 2) hx hb dL_lays_356 (by decide) ?_
    refine bAdd (v := 22) X.1 dL_lays_357 (by decide) ?_
    refine lv_bipush (v := 10) hx hb dL_lays_358 (by decide) ?_
    refine lv_iload hx hb dL_lays_360 (lv_at hl 2 rfl) ?_
    refine lv_iconst (v := 5) hx hb dL_lays_362 (by decide) ?_
    refine bShr (v := r_42 >>> ((5 : Int32) &&& 31)) X.1 dL_lays_363 rfl ?_
    refine lv_bipush (v := 51) hx hb dL_lays_364 (by decide) ?_
    refine bSI (As := [.int (r_42 >>> ((5 : Int32) &&& 31)), .int 51]) (rest := [.int 10, .int 22, .ref bm]) X.1 Y (c_part l D cyC cyI (r_42 >>> ((5 : Int32) &&& 31)) 51 (by decide)) gL_lays_L_part rfl ⟨rfl, rfl⟩ hdq_L_part.2 ⟨Nat.le_of_ble_eq_true rfl, Nat.le_of_ble_eq_true rfl⟩ rfl rfl hl.1 (Nat.le_of_ble_eq_true rfl) ⟨Nat.le_of_ble_eq_true rfl, Nat.le_of_ble_eq_true rfl⟩ dL_lays_366 (fun H locs Y => ?_)
    refine bAdd (v := (10 : Int32) + (pt (r_42 >>> ((5 : Int32) &&& 31)) 51)) X.1 dL_lays_369 rfl ?_
    refine lv_topi (fun lb e_lb => ?_)
    have hlb : 10 ≤ lb.toInt ∧ lb.toInt ≤ 60 := by have := pt_rng e_lb (A := 10) (N := 51) (by decide) (by decide) (by decide) (by decide); omega
    have hdlb := (dg_b (v := lb) (by omega)).1
    refine bIast (f' := upd (upd (upd (upd (upd (upd g 8 x1) 10 la) 11 na) 15 la) 20 x2) 22 lb) (ws' := [(bm, .inl (cyI, 40, .inl (upd (upd (upd (upd (upd (upd g 8 x1) 10 la) 11 na) 15 la) 20 x2) 22 lb)))] ++ wa_40) X.1 Y 0 rfl (bInD (by decide)) rfl rfl dL_lays_370 (fun H locs Y => ?_)
    refine lv_aload_n hx hb dL_lays_371 rfl (lv_at hl 7 rfl) ?_
    refine lv_iload hx hb dL_lays_372 (lv_at hl 1 rfl) ?_
    refine lv_iconst (v := 3) hx hb dL_lays_374 (by decide) ?_
    refine bAdd (v := 23) X.1 dL_lays_375 (by decide) ?_
    refine lv_iload hx hb dL_lays_376 (lv_at hl 2 rfl) ?_
    refine lv_bipush (v := 7) hx hb dL_lays_378 (by decide) ?_
    refine bShr (v := r_42 >>> ((7 : Int32) &&& 31)) X.1 dL_lays_380 rfl ?_
    refine lv_iconst (v := 3) hx hb dL_lays_381 (by decide) ?_
    refine bSI (As := [.int (r_42 >>> ((7 : Int32) &&& 31)), .int 3]) (rest := [.int 23, .ref bm]) X.1 Y (c_part l D cyC cyI (r_42 >>> ((7 : Int32) &&& 31)) 3 (by decide)) gL_lays_L_part rfl ⟨rfl, rfl⟩ hdq_L_part.2 ⟨Nat.le_of_ble_eq_true rfl, Nat.le_of_ble_eq_true rfl⟩ rfl rfl hl.1 (Nat.le_of_ble_eq_true rfl) ⟨Nat.le_of_ble_eq_true rfl, Nat.le_of_ble_eq_true rfl⟩ dL_lays_382 (fun H locs Y => ?_)
    refine lv_topi (fun pp e_pp => ?_)
    refine lv_if_ne (tgt := 401) hx hb dL_lays_385 (by decide) (fun c_46 => ?_) (fun c_46 => ?_)
    · have c_46 : ¬ (pp = 0) := c_46
      refine lv_iconst (v := 0) hx hb dL_lays_401 (by decide) ?_
      refine bIast (f' := upd (upd (upd (upd (upd (upd (upd g 8 x1) 10 la) 11 na) 15 la) 20 x2) 22 lb) 23 0) (ws' := [(bm, .inl (cyI, 40, .inl (upd (upd (upd (upd (upd (upd (upd g 8 x1) 10 la) 11 na) 15 la) 20 x2) 22 lb) 23 0)))] ++ wa_40) X.1 Y 0 rfl (bInD (by decide)) rfl rfl dL_lays_402 (fun H locs Y => ?_)
      refine lv_aload_n hx hb dL_lays_403 rfl (lv_at hl 7 rfl) ?_
      refine lv_iload hx hb dL_lays_404 (lv_at hl 1 rfl) ?_
      refine lv_bipush (v := 7) hx hb dL_lays_406 (by decide) ?_
      refine bAdd (v := 27) X.1 dL_lays_408 (by decide) ?_
      refine lv_aload_n hx hb dL_lays_409 rfl (lv_at hl 7 rfl) ?_
      refine lv_iload hx hb dL_lays_410 (lv_at hl 1 rfl) ?_
      refine lv_iconst (v := 2) hx hb dL_lays_412 (by decide) ?_
      refine bAdd (v := 22) X.1 dL_lays_413 (by decide) ?_
      refine bIald (v := lb) X.1 Y 0 rfl (bInD (by decide)) dL_lays_414 ((upd_ne (by decide)).trans upd_eq) ?_
      refine bIast (f' := upd (upd (upd (upd (upd (upd (upd (upd g 8 x1) 10 la) 11 na) 15 la) 20 x2) 22 lb) 23 0) 27 lb) (ws' := [(bm, .inl (cyI, 40, .inl (upd (upd (upd (upd (upd (upd (upd (upd g 8 x1) 10 la) 11 na) 15 la) 20 x2) 22 lb) 23 0) 27 lb)))] ++ wa_40) X.1 Y 0 rfl (bInD (by decide)) rfl rfl dL_lays_415 (fun H locs Y => ?_)
      refine lv_aload_n hx hb dL_lays_416 rfl (lv_at hl 4 rfl) ?_
      refine lv_bipush (v := 99) hx hb dL_lays_417 (by decide) ?_
      refine qVI (al := [(bm, .inl (cyI, 40, .inl (upd (upd (upd (upd (upd (upd (upd (upd g 8 x1) 10 la) 11 na) 15 la) 20 x2) 22 lb) 23 0) 27 lb)))]) (As := [.int 99]) (rest := []) X Y (k_write hI_40 99 (by (try simp only [List.length_append, List.length_cons, List.length_nil]); omega) (by decide)) gL_lays_X7_write rfl hdq_X7_write ⟨Nat.le_of_ble_eq_true rfl, Nat.le_of_ble_eq_true rfl⟩ hI_40.head rfl rfl hl.1 (Nat.le_of_ble_eq_true rfl) ⟨Nat.le_of_ble_eq_true rfl, Nat.le_of_ble_eq_true rfl⟩ dL_lays_419 (fun wa_47 H locs hI_47 hw_47 Y => ?_)
      have hW_47 := hW_40.trans hw_47
      refine lv_pop hx hb dL_lays_422 rfl ?_
      refine lv_aload_n hx hb dL_lays_423 rfl (lv_at hl 4 rfl) ?_
      refine lv_iload hx hb dL_lays_424 (lv_at hl 3 rfl) ?_
      refine lv_bipush (v := 44) hx hb dL_lays_426 (by decide) ?_
      refine qSV (al := [(bm, .inl (cyI, 40, .inl (upd (upd (upd (upd (upd (upd (upd (upd g 8 x1) 10 la) 11 na) 15 la) 20 x2) 22 lb) 23 0) 27 lb)))]) (wa := wa_47) (As := [.ref (Q 0), .int 1, .int 44]) (rest := []) (c2 := 0) (s2 := 0) X Y (c_number l D cyC cyI sb sL xs hI_47 1 44 (by decide) (by decide) (by (try simp only [List.length_append, List.length_cons, List.length_nil]); omega)) gL_lays_L_number rfl ⟨rfl, rfl⟩ hdq_L_number.2 ⟨Nat.le_of_ble_eq_true rfl, Nat.le_of_ble_eq_true rfl⟩ rfl rfl rfl rfl hl.1 (Nat.le_of_ble_eq_true rfl) ⟨Nat.le_of_ble_eq_true rfl, Nat.le_of_ble_eq_true rfl⟩ dL_lays_428 (fun  wa_48 H locs hI_48 hw_48 Y => ?_)
      have hW_48 := hW_47.trans hw_48
      refine lv_aload_n hx hb dL_lays_431 rfl (lv_at hl 4 rfl) ?_
      refine lv_aload_n hx hb dL_lays_432 rfl (lv_at hl 7 rfl) ?_
      refine lv_iload hx hb dL_lays_433 (lv_at hl 1 rfl) ?_
      refine bIald (v := x2) X.1 Y 0 rfl (bInD (by decide)) dL_lays_435 ((upd_ne (by decide)).trans ((upd_ne (by decide)).trans ((upd_ne (by decide)).trans upd_eq))) ?_
      refine lv_bipush (v := 44) hx hb dL_lays_436 (by decide) ?_
      refine qSV (al := [(bm, .inl (cyI, 40, .inl (upd (upd (upd (upd (upd (upd (upd (upd g 8 x1) 10 la) 11 na) 15 la) 20 x2) 22 lb) 23 0) 27 lb)))]) (wa := wa_48) (As := [.ref (Q 0), .int x2, .int 44]) (rest := []) (c2 := 0) (s2 := 0) X Y (c_number l D cyC cyI sb sL xs hI_48 x2 44 (by omega) (by decide) (by (try simp only [List.length_append, List.length_cons, List.length_nil]); omega)) gL_lays_L_number rfl ⟨rfl, rfl⟩ hdq_L_number.2 ⟨Nat.le_of_ble_eq_true rfl, Nat.le_of_ble_eq_true rfl⟩ rfl rfl rfl rfl hl.1 (Nat.le_of_ble_eq_true rfl) ⟨Nat.le_of_ble_eq_true rfl, Nat.le_of_ble_eq_true rfl⟩ dL_lays_438 (fun  wa_49 H locs hI_49 hw_49 Y => ?_)
      have hW_49 := hW_48.trans hw_49
      refine lv_aload_n hx hb dL_lays_441 rfl (lv_at hl 4 rfl) ?_
      refine lv_aload_n hx hb dL_lays_442 rfl (lv_at hl 7 rfl) ?_
      refine lv_iload hx hb dL_lays_443 (lv_at hl 1 rfl) ?_
      refine lv_iconst (v := 2) hx hb dL_lays_445 (by decide) ?_
      refine bAdd (v := 22) X.1 dL_lays_446 (by decide) ?_
      refine bIald (v := lb) X.1 Y 0 rfl (bInD (by decide)) dL_lays_447 ((upd_ne (by decide)).trans ((upd_ne (by decide)).trans upd_eq)) ?_
      refine lv_bipush (v := 44) hx hb dL_lays_448 (by decide) ?_
      refine qSV (al := [(bm, .inl (cyI, 40, .inl (upd (upd (upd (upd (upd (upd (upd (upd g 8 x1) 10 la) 11 na) 15 la) 20 x2) 22 lb) 23 0) 27 lb)))]) (wa := wa_49) (As := [.ref (Q 0), .int lb, .int 44]) (rest := []) (c2 := 0) (s2 := 0) X Y (c_number l D cyC cyI sb sL xs hI_49 lb 44 (by omega) (by decide) (by (try simp only [List.length_append, List.length_cons, List.length_nil]); omega)) gL_lays_L_number rfl ⟨rfl, rfl⟩ hdq_L_number.2 ⟨Nat.le_of_ble_eq_true rfl, Nat.le_of_ble_eq_true rfl⟩ rfl rfl rfl rfl hl.1 (Nat.le_of_ble_eq_true rfl) ⟨Nat.le_of_ble_eq_true rfl, Nat.le_of_ble_eq_true rfl⟩ dL_lays_450 (fun  wa_50 H locs hI_50 hw_50 Y => ?_)
      have hW_50 := hW_49.trans hw_50
      refine lv_aload_n hx hb dL_lays_453 rfl (lv_at hl 4 rfl) ?_
      refine lv_aload_n hx hb dL_lays_454 rfl (lv_at hl 7 rfl) ?_
      refine lv_iload hx hb dL_lays_455 (lv_at hl 1 rfl) ?_
      refine lv_iconst (v := 3) hx hb dL_lays_457 (by decide) ?_
      refine bAdd (v := 23) X.1 dL_lays_458 (by decide) ?_
      refine bIald (v := 0) X.1 Y 0 rfl (bInD (by decide)) dL_lays_459 ((upd_ne (by decide)).trans upd_eq) ?_
      refine lv_bipush (v := 59) hx hb dL_lays_460 (by decide) ?_
      refine qSV (al := [(bm, .inl (cyI, 40, .inl (upd (upd (upd (upd (upd (upd (upd (upd g 8 x1) 10 la) 11 na) 15 la) 20 x2) 22 lb) 23 0) 27 lb)))]) (wa := wa_50) (As := [.ref (Q 0), .int 0, .int 59]) (rest := []) (c2 := 0) (s2 := 0) X Y (c_number l D cyC cyI sb sL xs hI_50 0 59 (by decide) (by decide) (by (try simp only [List.length_append, List.length_cons, List.length_nil]); omega)) gL_lays_L_number rfl ⟨rfl, rfl⟩ hdq_L_number.2 ⟨Nat.le_of_ble_eq_true rfl, Nat.le_of_ble_eq_true rfl⟩ rfl rfl rfl rfl hl.1 (Nat.le_of_ble_eq_true rfl) ⟨Nat.le_of_ble_eq_true rfl, Nat.le_of_ble_eq_true rfl⟩ dL_lays_462 (fun  wa_51 H locs hI_51 hw_51 Y => ?_)
      have hW_51 := hW_50.trans hw_51
      refine lv_iinc (v := 2) (lv' := [(5, .int 2), (8, .int fr), (7, .int 20), (6, .int r_42), (0, .ref (Q 0)), (1, .ref sb), (2, .int (nI f)), (3, .ref bm)]) hx hb dL_lays_465 hl (k := 3) rfl (by decide) (by decide) rfl (fun ls hl => ?_)
      refine lv_goto (tgt := 272) hx hb dL_lays_468 (by decide) ?_
      refine lv_iload hx hb dL_lays_272 (lv_at hl 0 rfl) ?_
      refine lv_iconst (v := 2) hx hb dL_lays_274 (by decide) ?_
      refine lv_icmp_ge (tgt := 471) hx hb dL_lays_275 (by decide) (fun _ => ?_) (fun c_ => absurd (by decide) c_)
      have hP1 := PRd_left hP (by omega) (by omega) (u := x1) (v := la) (w := na) (by omega) hla hna
      have hP2 := PRd_right hP1 (by omega) (by simp only [List.length_append, List.length_cons, List.length_nil]; omega) (u := x2) (v := lb) (w := 0) (by omega) hlb (by decide)
      have hRD := PRd_e hP2 (by simp only [List.length_append, List.length_cons, List.length_nil]; omega)
      have hxx : 0 ≤ x1.toInt ∧ x1.toInt + m1.toInt ≤ x2.toInt ∧ x2.toInt ≤ m0.toInt := by omega
      refine lv_aload_n hx hb dL_lays_471 rfl (lv_at hl 4 rfl) ?_
      refine qVI (al := [(bm, .inl (cyI, 40, .inl (upd (upd (upd (upd (upd (upd (upd (upd g 8 x1) 10 la) 11 na) 15 la) 20 x2) 22 lb) 23 0) 27 lb)))]) (As := []) (rest := []) X Y (k_fault hI_51 (-4) (by rw [hRD])) gL_lays_X7_fault rfl hdq_X7_fault ⟨Nat.le_of_ble_eq_true rfl, Nat.le_of_ble_eq_true rfl⟩ hI_51.head rfl rfl hl.1 (Nat.le_of_ble_eq_true rfl) ⟨Nat.le_of_ble_eq_true rfl, Nat.le_of_ble_eq_true rfl⟩ dL_lays_472 (fun wa_52 H locs hI_52 hw_52 Y => ?_)
      have hW_52 := hW_51.trans hw_52
      refine lv_bipush (v := (-4)) hx hb dL_lays_475 (by decide) ?_
      refine lv_icmp_ne (tgt := 494) hx hb dL_lays_477 (by decide) (fun c_ => absurd (by decide) c_) (fun _ => ?_)
      refine lv_aload_n hx hb dL_lays_480 rfl (lv_at hl 4 rfl) ?_
      refine qVI (al := [(bm, .inl (cyI, 40, .inl (upd (upd (upd (upd (upd (upd (upd (upd g 8 x1) 10 la) 11 na) 15 la) 20 x2) 22 lb) 23 0) 27 lb)))]) (As := []) (rest := []) X Y (k_lay_ok hI_52 hRD (both_ok h0 h1 hxx)) gL_lays_X7_lay rfl hdq_X7_lay ⟨Nat.le_of_ble_eq_true rfl, Nat.le_of_ble_eq_true rfl⟩ hI_52.head rfl rfl hl.1 (Nat.le_of_ble_eq_true rfl) ⟨Nat.le_of_ble_eq_true rfl, Nat.le_of_ble_eq_true rfl⟩ dL_lays_481 (fun wa_53 H locs hI_53 hw_53 Y => ?_)
      have hW_53 := hW_52.trans hw_53
      refine lv_aload_n hx hb dL_lays_484 rfl (lv_at hl 7 rfl) ?_
      refine lv_iconst (v := 0) hx hb dL_lays_485 (by decide) ?_
      refine bIald (v := m0) X.1 Y 0 rfl (bInD (by decide)) dL_lays_486 ((upd_ne (by decide)).trans ((upd_ne (by decide)).trans ((upd_ne (by decide)).trans ((upd_ne (by decide)).trans ((upd_ne (by decide)).trans ((upd_ne (by decide)).trans ((upd_ne (by decide)).trans ((upd_ne (by decide)).trans hg0)))))))) ?_
      refine lv_icmp_ne (tgt := 494) hx hb dL_lays_487 (by decide) (fun c_54 => ?_) (fun c_54 => ?_)
      · exact absurd rfl (show ¬ (m0 = m0) from c_54)
      · have c_54 : m0 = m0 := c_54
        refine lv_iconst (v := 1) hx hb dL_lays_490 (by decide) ?_
        refine lv_goto (tgt := 495) hx hb dL_lays_491 (by decide) ?_
        exact qEndZ (al := []) (w1 := [(bm, .inl (cyI, 40, .inl (upd (upd (upd (upd (upd (upd (upd (upd g 8 x1) 10 la) 11 na) 15 la) 20 x2) 22 lb) 23 0) 27 lb)))] ++ wa_53) X Y hr hlk dL_lays_495 rfl (⟨rfl, _, _, _, _, _, rfl, hI_53, layS_ok _ h0 h1 h2 h3 h4 hla hlb hna (by decide) hxx, ⟨(((upd_ne (by decide)).trans ((upd_ne (by decide)).trans ((upd_ne (by decide)).trans ((upd_ne (by decide)).trans ((upd_ne (by decide)).trans ((upd_ne (by decide)).trans ((upd_ne (by decide)).trans upd_eq)))))))).symm, (((upd_ne (by decide)).trans ((upd_ne (by decide)).trans ((upd_ne (by decide)).trans ((upd_ne (by decide)).trans ((upd_ne (by decide)).trans ((upd_ne (by decide)).trans upd_eq))))))).symm, (((upd_ne (by decide)).trans ((upd_ne (by decide)).trans ((upd_ne (by decide)).trans ((upd_ne (by decide)).trans ((upd_ne (by decide)).trans upd_eq)))))).symm⟩, ⟨(((upd_ne (by decide)).trans ((upd_ne (by decide)).trans ((upd_ne (by decide)).trans upd_eq)))).symm, (((upd_ne (by decide)).trans ((upd_ne (by decide)).trans upd_eq))).symm, (((upd_ne (by decide)).trans upd_eq)).symm⟩, rfl, rfl⟩) (wPerm.cons rfl hW_53) (Nat.le_of_ble_eq_true rfl) (Nat.le_of_ble_eq_true rfl)
    · have c_46 : pp = 0 := c_46
      refine lv_iload hx hb dL_lays_388 (lv_at hl 2 rfl) ?_
      refine lv_bipush (v := 9) hx hb dL_lays_390 (by decide) ?_
      refine bShr (v := r_42 >>> ((9 : Int32) &&& 31)) X.1 dL_lays_392 rfl ?_
      refine lv_bipush (v := 100) hx hb dL_lays_393 (by decide) ?_
      refine bSI (As := [.int (r_42 >>> ((9 : Int32) &&& 31)), .int 100]) (rest := [.int 23, .ref bm]) X.1 Y (c_part l D cyC cyI (r_42 >>> ((9 : Int32) &&& 31)) 100 (by decide)) gL_lays_L_part rfl ⟨rfl, rfl⟩ hdq_L_part.2 ⟨Nat.le_of_ble_eq_true rfl, Nat.le_of_ble_eq_true rfl⟩ rfl rfl hl.1 (Nat.le_of_ble_eq_true rfl) ⟨Nat.le_of_ble_eq_true rfl, Nat.le_of_ble_eq_true rfl⟩ dL_lays_395 (fun H locs Y => ?_)
      refine lv_topi (fun nb e_nb => ?_)
      have hnb : 0 ≤ nb.toInt ∧ nb.toInt ≤ 99 := by rw [e_nb]; have := pt_b (v := (r_42 >>> ((9 : Int32) &&& 31))) (n := 100) (by decide); rw [show (100 : Int32).toInt = 100 by decide] at this; omega
      have hdnb := (dg_b (v := nb) (by omega)).1
      refine lv_goto (tgt := 402) hx hb dL_lays_398 (by decide) ?_
      refine bIast (f' := upd (upd (upd (upd (upd (upd (upd g 8 x1) 10 la) 11 na) 15 la) 20 x2) 22 lb) 23 nb) (ws' := [(bm, .inl (cyI, 40, .inl (upd (upd (upd (upd (upd (upd (upd g 8 x1) 10 la) 11 na) 15 la) 20 x2) 22 lb) 23 nb)))] ++ wa_40) X.1 Y 0 rfl (bInD (by decide)) rfl rfl dL_lays_402 (fun H locs Y => ?_)
      refine lv_aload_n hx hb dL_lays_403 rfl (lv_at hl 7 rfl) ?_
      refine lv_iload hx hb dL_lays_404 (lv_at hl 1 rfl) ?_
      refine lv_bipush (v := 7) hx hb dL_lays_406 (by decide) ?_
      refine bAdd (v := 27) X.1 dL_lays_408 (by decide) ?_
      refine lv_aload_n hx hb dL_lays_409 rfl (lv_at hl 7 rfl) ?_
      refine lv_iload hx hb dL_lays_410 (lv_at hl 1 rfl) ?_
      refine lv_iconst (v := 2) hx hb dL_lays_412 (by decide) ?_
      refine bAdd (v := 22) X.1 dL_lays_413 (by decide) ?_
      refine bIald (v := lb) X.1 Y 0 rfl (bInD (by decide)) dL_lays_414 ((upd_ne (by decide)).trans upd_eq) ?_
      refine bIast (f' := upd (upd (upd (upd (upd (upd (upd (upd g 8 x1) 10 la) 11 na) 15 la) 20 x2) 22 lb) 23 nb) 27 lb) (ws' := [(bm, .inl (cyI, 40, .inl (upd (upd (upd (upd (upd (upd (upd (upd g 8 x1) 10 la) 11 na) 15 la) 20 x2) 22 lb) 23 nb) 27 lb)))] ++ wa_40) X.1 Y 0 rfl (bInD (by decide)) rfl rfl dL_lays_415 (fun H locs Y => ?_)
      refine lv_aload_n hx hb dL_lays_416 rfl (lv_at hl 4 rfl) ?_
      refine lv_bipush (v := 99) hx hb dL_lays_417 (by decide) ?_
      refine qVI (al := [(bm, .inl (cyI, 40, .inl (upd (upd (upd (upd (upd (upd (upd (upd g 8 x1) 10 la) 11 na) 15 la) 20 x2) 22 lb) 23 nb) 27 lb)))]) (As := [.int 99]) (rest := []) X Y (k_write hI_40 99 (by (try simp only [List.length_append, List.length_cons, List.length_nil]); omega) (by decide)) gL_lays_X7_write rfl hdq_X7_write ⟨Nat.le_of_ble_eq_true rfl, Nat.le_of_ble_eq_true rfl⟩ hI_40.head rfl rfl hl.1 (Nat.le_of_ble_eq_true rfl) ⟨Nat.le_of_ble_eq_true rfl, Nat.le_of_ble_eq_true rfl⟩ dL_lays_419 (fun wa_56 H locs hI_56 hw_56 Y => ?_)
      have hW_56 := hW_40.trans hw_56
      refine lv_pop hx hb dL_lays_422 rfl ?_
      refine lv_aload_n hx hb dL_lays_423 rfl (lv_at hl 4 rfl) ?_
      refine lv_iload hx hb dL_lays_424 (lv_at hl 3 rfl) ?_
      refine lv_bipush (v := 44) hx hb dL_lays_426 (by decide) ?_
      refine qSV (al := [(bm, .inl (cyI, 40, .inl (upd (upd (upd (upd (upd (upd (upd (upd g 8 x1) 10 la) 11 na) 15 la) 20 x2) 22 lb) 23 nb) 27 lb)))]) (wa := wa_56) (As := [.ref (Q 0), .int 1, .int 44]) (rest := []) (c2 := 0) (s2 := 0) X Y (c_number l D cyC cyI sb sL xs hI_56 1 44 (by decide) (by decide) (by (try simp only [List.length_append, List.length_cons, List.length_nil]); omega)) gL_lays_L_number rfl ⟨rfl, rfl⟩ hdq_L_number.2 ⟨Nat.le_of_ble_eq_true rfl, Nat.le_of_ble_eq_true rfl⟩ rfl rfl rfl rfl hl.1 (Nat.le_of_ble_eq_true rfl) ⟨Nat.le_of_ble_eq_true rfl, Nat.le_of_ble_eq_true rfl⟩ dL_lays_428 (fun  wa_57 H locs hI_57 hw_57 Y => ?_)
      have hW_57 := hW_56.trans hw_57
      refine lv_aload_n hx hb dL_lays_431 rfl (lv_at hl 4 rfl) ?_
      refine lv_aload_n hx hb dL_lays_432 rfl (lv_at hl 7 rfl) ?_
      refine lv_iload hx hb dL_lays_433 (lv_at hl 1 rfl) ?_
      refine bIald (v := x2) X.1 Y 0 rfl (bInD (by decide)) dL_lays_435 ((upd_ne (by decide)).trans ((upd_ne (by decide)).trans ((upd_ne (by decide)).trans upd_eq))) ?_
      refine lv_bipush (v := 44) hx hb dL_lays_436 (by decide) ?_
      refine qSV (al := [(bm, .inl (cyI, 40, .inl (upd (upd (upd (upd (upd (upd (upd (upd g 8 x1) 10 la) 11 na) 15 la) 20 x2) 22 lb) 23 nb) 27 lb)))]) (wa := wa_57) (As := [.ref (Q 0), .int x2, .int 44]) (rest := []) (c2 := 0) (s2 := 0) X Y (c_number l D cyC cyI sb sL xs hI_57 x2 44 (by omega) (by decide) (by (try simp only [List.length_append, List.length_cons, List.length_nil]); omega)) gL_lays_L_number rfl ⟨rfl, rfl⟩ hdq_L_number.2 ⟨Nat.le_of_ble_eq_true rfl, Nat.le_of_ble_eq_true rfl⟩ rfl rfl rfl rfl hl.1 (Nat.le_of_ble_eq_true rfl) ⟨Nat.le_of_ble_eq_true rfl, Nat.le_of_ble_eq_true rfl⟩ dL_lays_438 (fun  wa_58 H locs hI_58 hw_58 Y => ?_)
      have hW_58 := hW_57.trans hw_58
      refine lv_aload_n hx hb dL_lays_441 rfl (lv_at hl 4 rfl) ?_
      refine lv_aload_n hx hb dL_lays_442 rfl (lv_at hl 7 rfl) ?_
      refine lv_iload hx hb dL_lays_443 (lv_at hl 1 rfl) ?_
      refine lv_iconst (v := 2) hx hb dL_lays_445 (by decide) ?_
      refine bAdd (v := 22) X.1 dL_lays_446 (by decide) ?_
      refine bIald (v := lb) X.1 Y 0 rfl (bInD (by decide)) dL_lays_447 ((upd_ne (by decide)).trans ((upd_ne (by decide)).trans upd_eq)) ?_
      refine lv_bipush (v := 44) hx hb dL_lays_448 (by decide) ?_
      refine qSV (al := [(bm, .inl (cyI, 40, .inl (upd (upd (upd (upd (upd (upd (upd (upd g 8 x1) 10 la) 11 na) 15 la) 20 x2) 22 lb) 23 nb) 27 lb)))]) (wa := wa_58) (As := [.ref (Q 0), .int lb, .int 44]) (rest := []) (c2 := 0) (s2 := 0) X Y (c_number l D cyC cyI sb sL xs hI_58 lb 44 (by omega) (by decide) (by (try simp only [List.length_append, List.length_cons, List.length_nil]); omega)) gL_lays_L_number rfl ⟨rfl, rfl⟩ hdq_L_number.2 ⟨Nat.le_of_ble_eq_true rfl, Nat.le_of_ble_eq_true rfl⟩ rfl rfl rfl rfl hl.1 (Nat.le_of_ble_eq_true rfl) ⟨Nat.le_of_ble_eq_true rfl, Nat.le_of_ble_eq_true rfl⟩ dL_lays_450 (fun  wa_59 H locs hI_59 hw_59 Y => ?_)
      have hW_59 := hW_58.trans hw_59
      refine lv_aload_n hx hb dL_lays_453 rfl (lv_at hl 4 rfl) ?_
      refine lv_aload_n hx hb dL_lays_454 rfl (lv_at hl 7 rfl) ?_
      refine lv_iload hx hb dL_lays_455 (lv_at hl 1 rfl) ?_
      refine lv_iconst (v := 3) hx hb dL_lays_457 (by decide) ?_
      refine bAdd (v := 23) X.1 dL_lays_458 (by decide) ?_
      refine bIald (v := nb) X.1 Y 0 rfl (bInD (by decide)) dL_lays_459 ((upd_ne (by decide)).trans upd_eq) ?_
      refine lv_bipush (v := 59) hx hb dL_lays_460 (by decide) ?_
      refine qSV (al := [(bm, .inl (cyI, 40, .inl (upd (upd (upd (upd (upd (upd (upd (upd g 8 x1) 10 la) 11 na) 15 la) 20 x2) 22 lb) 23 nb) 27 lb)))]) (wa := wa_59) (As := [.ref (Q 0), .int nb, .int 59]) (rest := []) (c2 := 0) (s2 := 0) X Y (c_number l D cyC cyI sb sL xs hI_59 nb 59 (by omega) (by decide) (by (try simp only [List.length_append, List.length_cons, List.length_nil]); omega)) gL_lays_L_number rfl ⟨rfl, rfl⟩ hdq_L_number.2 ⟨Nat.le_of_ble_eq_true rfl, Nat.le_of_ble_eq_true rfl⟩ rfl rfl rfl rfl hl.1 (Nat.le_of_ble_eq_true rfl) ⟨Nat.le_of_ble_eq_true rfl, Nat.le_of_ble_eq_true rfl⟩ dL_lays_462 (fun  wa_60 H locs hI_60 hw_60 Y => ?_)
      have hW_60 := hW_59.trans hw_60
      refine lv_iinc (v := 2) (lv' := [(5, .int 2), (8, .int fr), (7, .int 20), (6, .int r_42), (0, .ref (Q 0)), (1, .ref sb), (2, .int (nI f)), (3, .ref bm)]) hx hb dL_lays_465 hl (k := 3) rfl (by decide) (by decide) rfl (fun ls hl => ?_)
      refine lv_goto (tgt := 272) hx hb dL_lays_468 (by decide) ?_
      refine lv_iload hx hb dL_lays_272 (lv_at hl 0 rfl) ?_
      refine lv_iconst (v := 2) hx hb dL_lays_274 (by decide) ?_
      refine lv_icmp_ge (tgt := 471) hx hb dL_lays_275 (by decide) (fun _ => ?_) (fun c_ => absurd (by decide) c_)
      have hP1 := PRd_left hP (by omega) (by omega) (u := x1) (v := la) (w := na) (by omega) hla hna
      have hP2 := PRd_right hP1 (by omega) (by simp only [List.length_append, List.length_cons, List.length_nil]; omega) (u := x2) (v := lb) (w := nb) (by omega) hlb hnb
      have hRD := PRd_e hP2 (by simp only [List.length_append, List.length_cons, List.length_nil]; omega)
      have hxx : 0 ≤ x1.toInt ∧ x1.toInt + m1.toInt ≤ x2.toInt ∧ x2.toInt ≤ m0.toInt := by omega
      refine lv_aload_n hx hb dL_lays_471 rfl (lv_at hl 4 rfl) ?_
      refine qVI (al := [(bm, .inl (cyI, 40, .inl (upd (upd (upd (upd (upd (upd (upd (upd g 8 x1) 10 la) 11 na) 15 la) 20 x2) 22 lb) 23 nb) 27 lb)))]) (As := []) (rest := []) X Y (k_fault hI_60 (-4) (by rw [hRD])) gL_lays_X7_fault rfl hdq_X7_fault ⟨Nat.le_of_ble_eq_true rfl, Nat.le_of_ble_eq_true rfl⟩ hI_60.head rfl rfl hl.1 (Nat.le_of_ble_eq_true rfl) ⟨Nat.le_of_ble_eq_true rfl, Nat.le_of_ble_eq_true rfl⟩ dL_lays_472 (fun wa_61 H locs hI_61 hw_61 Y => ?_)
      have hW_61 := hW_60.trans hw_61
      refine lv_bipush (v := (-4)) hx hb dL_lays_475 (by decide) ?_
      refine lv_icmp_ne (tgt := 494) hx hb dL_lays_477 (by decide) (fun c_ => absurd (by decide) c_) (fun _ => ?_)
      refine lv_aload_n hx hb dL_lays_480 rfl (lv_at hl 4 rfl) ?_
      refine qVI (al := [(bm, .inl (cyI, 40, .inl (upd (upd (upd (upd (upd (upd (upd (upd g 8 x1) 10 la) 11 na) 15 la) 20 x2) 22 lb) 23 nb) 27 lb)))]) (As := []) (rest := []) X Y (k_lay_ok hI_61 hRD (both_ok h0 h1 hxx)) gL_lays_X7_lay rfl hdq_X7_lay ⟨Nat.le_of_ble_eq_true rfl, Nat.le_of_ble_eq_true rfl⟩ hI_61.head rfl rfl hl.1 (Nat.le_of_ble_eq_true rfl) ⟨Nat.le_of_ble_eq_true rfl, Nat.le_of_ble_eq_true rfl⟩ dL_lays_481 (fun wa_62 H locs hI_62 hw_62 Y => ?_)
      have hW_62 := hW_61.trans hw_62
      refine lv_aload_n hx hb dL_lays_484 rfl (lv_at hl 7 rfl) ?_
      refine lv_iconst (v := 0) hx hb dL_lays_485 (by decide) ?_
      refine bIald (v := m0) X.1 Y 0 rfl (bInD (by decide)) dL_lays_486 ((upd_ne (by decide)).trans ((upd_ne (by decide)).trans ((upd_ne (by decide)).trans ((upd_ne (by decide)).trans ((upd_ne (by decide)).trans ((upd_ne (by decide)).trans ((upd_ne (by decide)).trans ((upd_ne (by decide)).trans hg0)))))))) ?_
      refine lv_icmp_ne (tgt := 494) hx hb dL_lays_487 (by decide) (fun c_63 => ?_) (fun c_63 => ?_)
      · exact absurd rfl (show ¬ (m0 = m0) from c_63)
      · have c_63 : m0 = m0 := c_63
        refine lv_iconst (v := 1) hx hb dL_lays_490 (by decide) ?_
        refine lv_goto (tgt := 495) hx hb dL_lays_491 (by decide) ?_
        exact qEndZ (al := []) (w1 := [(bm, .inl (cyI, 40, .inl (upd (upd (upd (upd (upd (upd (upd (upd g 8 x1) 10 la) 11 na) 15 la) 20 x2) 22 lb) 23 nb) 27 lb)))] ++ wa_62) X Y hr hlk dL_lays_495 rfl (⟨rfl, _, _, _, _, _, rfl, hI_62, layS_ok _ h0 h1 h2 h3 h4 hla hlb hna hnb hxx, ⟨(((upd_ne (by decide)).trans ((upd_ne (by decide)).trans ((upd_ne (by decide)).trans ((upd_ne (by decide)).trans ((upd_ne (by decide)).trans ((upd_ne (by decide)).trans ((upd_ne (by decide)).trans upd_eq)))))))).symm, (((upd_ne (by decide)).trans ((upd_ne (by decide)).trans ((upd_ne (by decide)).trans ((upd_ne (by decide)).trans ((upd_ne (by decide)).trans ((upd_ne (by decide)).trans upd_eq))))))).symm, (((upd_ne (by decide)).trans ((upd_ne (by decide)).trans ((upd_ne (by decide)).trans ((upd_ne (by decide)).trans ((upd_ne (by decide)).trans upd_eq)))))).symm⟩, ⟨(((upd_ne (by decide)).trans ((upd_ne (by decide)).trans ((upd_ne (by decide)).trans upd_eq)))).symm, (((upd_ne (by decide)).trans ((upd_ne (by decide)).trans upd_eq))).symm, (((upd_ne (by decide)).trans upd_eq)).symm⟩, rfl, rfl⟩) (wPerm.cons rfl hW_62) (Nat.le_of_ble_eq_true rfl) (Nat.le_of_ble_eq_true rfl)
set_option maxHeartbeats 4000000 in
set_option maxRecDepth 100000 in
theorem la_k {p_ : Program} {e_ : Env} {s_ : State} {m_ : MethodId} {bl_ : List Frame} {me_ : Method} {cd_ : Code} {A_ : Nat → Prop} (l : Launch) (D : va_G) (cyC cyI : ClassId) (sb sL : Nat) (xs : Nat → Int32) {Q : Nat → Nat} {r : Nat → Int32} {S : Nat → Sto} {ud : Int32} {wc : va_W} (hsL : sL ≤ 260) (f : Nat) (hf : f ≤ 500) (bm : Nat) (X : qX p_ s_ m_ ([.ref (Q 0), .ref sb, .int (nI f), .ref bm] : List Value).toArray cd_ cL_lays 9 wsL_lays yL_lays.cls D cyC cyI sb sL xs A_) (hr : me_.sig.returnType = (some .boolean)) (hlk : me_.locks = false) (g0 : Nat → Int32) (m0 m1 : Int32) (h0 : 200 ≤ m0.toInt ∧ m0.toInt ≤ 999) (h1 : 10 ≤ m1.toInt ∧ m1.toInt ≤ 99) (g : Nat → Int32) (hg0 : g 0 = m0) (hg1 : g 1 = m1) (k : Nat) (T : List Int32) (hP : PRd T k m0 m1 2 12 6 100 30 0 500 30 0) (hk : k ≤ 4) (hT : T.length ≤ 20) (xv : Int32) {wa : va_W} {H : Heap} {locs : List Loc} {ls : Array Slot} (hI : QW cyC cyI Q r S ud T wa) (hW : wPerm wc wa) (hl : lv_has ls 9 [(0, .ref (Q 0)), (1, .ref sb), (2, .int (nI f)), (3, .ref bm), (4, .int xv)]) (Y : bY D A_ s_.heap ([(bm, .inl (cyI, 40, .inl g))] ++ wa) H locs) : W p_ l e_ ({ frames := 6, cells := 0, slots := 0, locals := 135 } : Room) s_ m_ ([.ref (Q 0), .ref sb, .int (nI f), .ref bm] : List Value).toArray bl_ me_ cd_ H locs 0 0 (qQI bl_ ([.ref (Q 0), .ref sb, .int (nI f), .ref bm] : List Value).toArray s_ D ([(bm, .inl (cyI, 40, .inl g0))] ++ wc) (fun rv w1 => rv = 1 ∧ LY cyC cyI Q bm w1) 0 0 A_) (F0 m_ 164 ls []) := by
  have hx := X.1.1.1
  have hb := X.1.1.2.1
  refine lv_iload hx hb dL_lays_164 (lv_at hl 4 rfl) ?_
  refine lv_bipush (v := 6) hx hb dL_lays_166 (by decide) ?_
  refine bShr (v := xv >>> ((6 : Int32) &&& 31)) X.1 dL_lays_168 rfl ?_
  refine lv_iconst (v := 4) hx hb dL_lays_169 (by decide) ?_
  refine bSI (As := [.int (xv >>> ((6 : Int32) &&& 31)), .int 4]) (rest := []) X.1 Y (c_part l D cyC cyI (xv >>> ((6 : Int32) &&& 31)) 4 (by decide)) gL_lays_L_part rfl ⟨rfl, rfl⟩ hdq_L_part.2 ⟨Nat.le_of_ble_eq_true rfl, Nat.le_of_ble_eq_true rfl⟩ rfl rfl hl.1 (Nat.le_of_ble_eq_true rfl) ⟨Nat.le_of_ble_eq_true rfl, Nat.le_of_ble_eq_true rfl⟩ dL_lays_170 (fun H locs Y => ?_)
  refine lv_topi (fun pp e_pp => ?_)
  refine lv_if_le (tgt := 269) hx hb dL_lays_173 (by decide) (fun c_2 => ?_) (fun c_2 => ?_)
  · have c_2 : pp ≤ 0 := c_2
    exact la_c l D cyC cyI sb sL xs hsL f hf bm X hr hlk g0 m0 m1 2 12 6 h0 h1 (by decide) (by decide) (by decide) g hg0 hg1 k _ hP (by omega) (by (try simp only [List.length_append, List.length_cons, List.length_nil]); omega) hI hW (lv_sub hl [0, 1, 2, 3] rfl) Y
  · have c_2 : ¬ (pp ≤ 0) := c_2
    refine lv_aload_n hx hb dL_lays_176 rfl (lv_at hl 3 rfl) ?_
    refine lv_iconst (v := 2) hx hb dL_lays_177 (by decide) ?_
    refine lv_iconst (v := 1) hx hb dL_lays_178 (by decide) ?_
    refine lv_iload hx hb dL_lays_179 (lv_at hl 4 rfl) ?_
    refine lv_bipush (v := 7) hx hb dL_lays_181 (by decide) ?_
    refine bShr (v := xv >>> ((7 : Int32) &&& 31)) X.1 dL_lays_183 rfl ?_
    refine lv_iconst (v := 5) hx hb dL_lays_184 (by decide) ?_
    refine bSI (As := [.int (xv >>> ((7 : Int32) &&& 31)), .int 5]) (rest := [.int 1, .int 2, .ref bm]) X.1 Y (c_part l D cyC cyI (xv >>> ((7 : Int32) &&& 31)) 5 (by decide)) gL_lays_L_part rfl ⟨rfl, rfl⟩ hdq_L_part.2 ⟨Nat.le_of_ble_eq_true rfl, Nat.le_of_ble_eq_true rfl⟩ rfl rfl hl.1 (Nat.le_of_ble_eq_true rfl) ⟨Nat.le_of_ble_eq_true rfl, Nat.le_of_ble_eq_true rfl⟩ dL_lays_185 (fun H locs Y => ?_)
    refine bAdd (v := (1 : Int32) + (pt (xv >>> ((7 : Int32) &&& 31)) 5)) X.1 dL_lays_188 rfl ?_
    refine lv_topi (fun m2 e_m2 => ?_)
    have hm2 : 1 ≤ m2.toInt ∧ m2.toInt ≤ 5 := by have := pt_rng e_m2 (A := 1) (N := 5) (by decide) (by decide) (by decide) (by decide); omega
    have hdm2 := (dg_b (v := m2) (by omega)).1
    refine bIast (f' := upd g 2 m2) (ws' := [(bm, .inl (cyI, 40, .inl (upd g 2 m2)))] ++ wa) X.1 Y 0 rfl (bInD (by decide)) rfl rfl dL_lays_189 (fun H locs Y => ?_)
    refine lv_aload_n hx hb dL_lays_190 rfl (lv_at hl 3 rfl) ?_
    refine lv_iconst (v := 3) hx hb dL_lays_191 (by decide) ?_
    refine lv_iconst (v := 1) hx hb dL_lays_192 (by decide) ?_
    refine lv_iload hx hb dL_lays_193 (lv_at hl 4 rfl) ?_
    refine lv_bipush (v := 8) hx hb dL_lays_195 (by decide) ?_
    refine bShr (v := xv >>> ((8 : Int32) &&& 31)) X.1 dL_lays_197 rfl ?_
    refine lv_iload hx hb dL_lays_198 (lv_at hl 4 rfl) ?_
    refine lv_bipush (v := 9) hx hb dL_lays_200 (by decide) ?_
    refine bShr (v := xv >>> ((9 : Int32) &&& 31)) X.1 dL_lays_202 rfl ?_
    refine lv_iconst (v := 2) hx hb dL_lays_203 (by decide) ?_
    refine bSI (As := [.int (xv >>> ((9 : Int32) &&& 31)), .int 2]) (rest := [.int (xv >>> ((8 : Int32) &&& 31)), .int 1, .int 3, .ref bm]) X.1 Y (c_part l D cyC cyI (xv >>> ((9 : Int32) &&& 31)) 2 (by decide)) gL_lays_L_part rfl ⟨rfl, rfl⟩ hdq_L_part.2 ⟨Nat.le_of_ble_eq_true rfl, Nat.le_of_ble_eq_true rfl⟩ rfl rfl hl.1 (Nat.le_of_ble_eq_true rfl) ⟨Nat.le_of_ble_eq_true rfl, Nat.le_of_ble_eq_true rfl⟩ dL_lays_204 (fun H locs Y => ?_)
    refine lv_topi (fun pp e_pp => ?_)
    refine lv_if_ne (tgt := 215) hx hb dL_lays_207 (by decide) (fun c_5 => ?_) (fun c_5 => ?_)
    · have c_5 : ¬ (pp = 0) := c_5
      refine lv_bipush (v := 15) hx hb dL_lays_215 (by decide) ?_
      refine bSI (As := [.int (xv >>> ((8 : Int32) &&& 31)), .int 15]) (rest := [.int 1, .int 3, .ref bm]) X.1 Y (c_part l D cyC cyI (xv >>> ((8 : Int32) &&& 31)) 15 (by decide)) gL_lays_L_part rfl ⟨rfl, rfl⟩ hdq_L_part.2 ⟨Nat.le_of_ble_eq_true rfl, Nat.le_of_ble_eq_true rfl⟩ rfl rfl hl.1 (Nat.le_of_ble_eq_true rfl) ⟨Nat.le_of_ble_eq_true rfl, Nat.le_of_ble_eq_true rfl⟩ dL_lays_217 (fun H locs Y => ?_)
      refine bAdd (v := (1 : Int32) + (pt (xv >>> ((8 : Int32) &&& 31)) 15)) X.1 dL_lays_220 rfl ?_
      refine lv_topi (fun m3 e_m3 => ?_)
      have hm3 : 1 ≤ m3.toInt ∧ m3.toInt ≤ 40 := by have := pt_rng e_m3 (A := 1) (N := 15) (by decide) (by decide) (by decide) (by decide); omega
      have hdm3 := (dg_b (v := m3) (by omega)).1
      refine bIast (f' := upd (upd g 2 m2) 3 m3) (ws' := [(bm, .inl (cyI, 40, .inl (upd (upd g 2 m2) 3 m3)))] ++ wa) X.1 Y 0 rfl (bInD (by decide)) rfl rfl dL_lays_221 (fun H locs Y => ?_)
      refine lv_aload_n hx hb dL_lays_222 rfl (lv_at hl 3 rfl) ?_
      refine lv_iconst (v := 4) hx hb dL_lays_223 (by decide) ?_
      refine lv_iload hx hb dL_lays_224 (lv_at hl 4 rfl) ?_
      refine lv_bipush (v := 10) hx hb dL_lays_226 (by decide) ?_
      refine bShr (v := xv >>> ((10 : Int32) &&& 31)) X.1 dL_lays_228 rfl ?_
      refine lv_bipush (v := 12) hx hb dL_lays_229 (by decide) ?_
      refine bSI (As := [.int (xv >>> ((10 : Int32) &&& 31)), .int 12]) (rest := [.int 4, .ref bm]) X.1 Y (c_part l D cyC cyI (xv >>> ((10 : Int32) &&& 31)) 12 (by decide)) gL_lays_L_part rfl ⟨rfl, rfl⟩ hdq_L_part.2 ⟨Nat.le_of_ble_eq_true rfl, Nat.le_of_ble_eq_true rfl⟩ rfl rfl hl.1 (Nat.le_of_ble_eq_true rfl) ⟨Nat.le_of_ble_eq_true rfl, Nat.le_of_ble_eq_true rfl⟩ dL_lays_231 (fun H locs Y => ?_)
      refine lv_topi (fun m4 e_m4 => ?_)
      have hm4 : 0 ≤ m4.toInt ∧ m4.toInt ≤ 11 := by rw [e_m4]; have := pt_b (v := (xv >>> ((10 : Int32) &&& 31))) (n := 12) (by decide); rw [show (12 : Int32).toInt = 12 by decide] at this; omega
      have hdm4 := (dg_b (v := m4) (by omega)).1
      refine bIast (f' := upd (upd (upd g 2 m2) 3 m3) 4 m4) (ws' := [(bm, .inl (cyI, 40, .inl (upd (upd (upd g 2 m2) 3 m3) 4 m4)))] ++ wa) X.1 Y 0 rfl (bInD (by decide)) rfl rfl dL_lays_234 (fun H locs Y => ?_)
      refine lv_aload_n hx hb dL_lays_235 rfl (lv_at hl 0 rfl) ?_
      refine lv_bipush (v := 107) hx hb dL_lays_236 (by decide) ?_
      refine qVI (al := [(bm, .inl (cyI, 40, .inl (upd (upd (upd g 2 m2) 3 m3) 4 m4)))]) (As := [.int 107]) (rest := []) X Y (k_write hI 107 (by (try simp only [List.length_append, List.length_cons, List.length_nil]); omega) (by decide)) gL_lays_X7_write rfl hdq_X7_write ⟨Nat.le_of_ble_eq_true rfl, Nat.le_of_ble_eq_true rfl⟩ hI.head rfl rfl hl.1 (Nat.le_of_ble_eq_true rfl) ⟨Nat.le_of_ble_eq_true rfl, Nat.le_of_ble_eq_true rfl⟩ dL_lays_238 (fun wa_8 H locs hI_8 hw_8 Y => ?_)
      have hW_8 := hW.trans hw_8
      refine lv_pop hx hb dL_lays_241 rfl ?_
      refine lv_aload_n hx hb dL_lays_242 rfl (lv_at hl 0 rfl) ?_
      refine lv_aload_n hx hb dL_lays_243 rfl (lv_at hl 3 rfl) ?_
      refine lv_iconst (v := 2) hx hb dL_lays_244 (by decide) ?_
      refine bIald (v := m2) X.1 Y 0 rfl (bInD (by decide)) dL_lays_245 ((upd_ne (by decide)).trans ((upd_ne (by decide)).trans upd_eq)) ?_
      refine lv_bipush (v := 44) hx hb dL_lays_246 (by decide) ?_
      refine qSV (al := [(bm, .inl (cyI, 40, .inl (upd (upd (upd g 2 m2) 3 m3) 4 m4)))]) (wa := wa_8) (As := [.ref (Q 0), .int m2, .int 44]) (rest := []) (c2 := 0) (s2 := 0) X Y (c_number l D cyC cyI sb sL xs hI_8 m2 44 (by omega) (by decide) (by (try simp only [List.length_append, List.length_cons, List.length_nil]); omega)) gL_lays_L_number rfl ⟨rfl, rfl⟩ hdq_L_number.2 ⟨Nat.le_of_ble_eq_true rfl, Nat.le_of_ble_eq_true rfl⟩ rfl rfl rfl rfl hl.1 (Nat.le_of_ble_eq_true rfl) ⟨Nat.le_of_ble_eq_true rfl, Nat.le_of_ble_eq_true rfl⟩ dL_lays_248 (fun  wa_9 H locs hI_9 hw_9 Y => ?_)
      have hW_9 := hW_8.trans hw_9
      refine lv_aload_n hx hb dL_lays_251 rfl (lv_at hl 0 rfl) ?_
      refine lv_aload_n hx hb dL_lays_252 rfl (lv_at hl 3 rfl) ?_
      refine lv_iconst (v := 3) hx hb dL_lays_253 (by decide) ?_
      refine bIald (v := m3) X.1 Y 0 rfl (bInD (by decide)) dL_lays_254 ((upd_ne (by decide)).trans upd_eq) ?_
      refine lv_bipush (v := 44) hx hb dL_lays_255 (by decide) ?_
      refine qSV (al := [(bm, .inl (cyI, 40, .inl (upd (upd (upd g 2 m2) 3 m3) 4 m4)))]) (wa := wa_9) (As := [.ref (Q 0), .int m3, .int 44]) (rest := []) (c2 := 0) (s2 := 0) X Y (c_number l D cyC cyI sb sL xs hI_9 m3 44 (by omega) (by decide) (by (try simp only [List.length_append, List.length_cons, List.length_nil]); omega)) gL_lays_L_number rfl ⟨rfl, rfl⟩ hdq_L_number.2 ⟨Nat.le_of_ble_eq_true rfl, Nat.le_of_ble_eq_true rfl⟩ rfl rfl rfl rfl hl.1 (Nat.le_of_ble_eq_true rfl) ⟨Nat.le_of_ble_eq_true rfl, Nat.le_of_ble_eq_true rfl⟩ dL_lays_257 (fun  wa_10 H locs hI_10 hw_10 Y => ?_)
      have hW_10 := hW_9.trans hw_10
      refine lv_aload_n hx hb dL_lays_260 rfl (lv_at hl 0 rfl) ?_
      refine lv_aload_n hx hb dL_lays_261 rfl (lv_at hl 3 rfl) ?_
      refine lv_iconst (v := 4) hx hb dL_lays_262 (by decide) ?_
      refine bIald (v := m4) X.1 Y 0 rfl (bInD (by decide)) dL_lays_263 upd_eq ?_
      refine lv_bipush (v := 59) hx hb dL_lays_264 (by decide) ?_
      refine qSV (al := [(bm, .inl (cyI, 40, .inl (upd (upd (upd g 2 m2) 3 m3) 4 m4)))]) (wa := wa_10) (As := [.ref (Q 0), .int m4, .int 59]) (rest := []) (c2 := 0) (s2 := 0) X Y (c_number l D cyC cyI sb sL xs hI_10 m4 59 (by omega) (by decide) (by (try simp only [List.length_append, List.length_cons, List.length_nil]); omega)) gL_lays_L_number rfl ⟨rfl, rfl⟩ hdq_L_number.2 ⟨Nat.le_of_ble_eq_true rfl, Nat.le_of_ble_eq_true rfl⟩ rfl rfl rfl rfl hl.1 (Nat.le_of_ble_eq_true rfl) ⟨Nat.le_of_ble_eq_true rfl, Nat.le_of_ble_eq_true rfl⟩ dL_lays_266 (fun  wa_11 H locs hI_11 hw_11 Y => ?_)
      have hW_11 := hW_10.trans hw_11
      exact la_c l D cyC cyI sb sL xs hsL f hf bm X hr hlk g0 m0 m1 m2 m3 m4 h0 h1 (by omega) (by omega) (by omega) (upd (upd (upd g 2 m2) 3 m3) 4 m4) ((upd_ne (by decide)).trans ((upd_ne (by decide)).trans ((upd_ne (by decide)).trans hg0))) ((upd_ne (by decide)).trans ((upd_ne (by decide)).trans ((upd_ne (by decide)).trans hg1))) (k + 1) _ (PRd_drive hP (by omega) (by omega) (by omega) (by omega) (by omega)) (by omega) (by (try simp only [List.length_append, List.length_cons, List.length_nil]); omega) hI_11 hW_11 (lv_sub hl [0, 1, 2, 3] rfl) Y
    · have c_5 : pp = 0 := c_5
      refine lv_bipush (v := 40) hx hb dL_lays_210 (by decide) ?_
      refine lv_goto (tgt := 217) hx hb dL_lays_212 (by decide) ?_
      refine bSI (As := [.int (xv >>> ((8 : Int32) &&& 31)), .int 40]) (rest := [.int 1, .int 3, .ref bm]) X.1 Y (c_part l D cyC cyI (xv >>> ((8 : Int32) &&& 31)) 40 (by decide)) gL_lays_L_part rfl ⟨rfl, rfl⟩ hdq_L_part.2 ⟨Nat.le_of_ble_eq_true rfl, Nat.le_of_ble_eq_true rfl⟩ rfl rfl hl.1 (Nat.le_of_ble_eq_true rfl) ⟨Nat.le_of_ble_eq_true rfl, Nat.le_of_ble_eq_true rfl⟩ dL_lays_217 (fun H locs Y => ?_)
      refine bAdd (v := (1 : Int32) + (pt (xv >>> ((8 : Int32) &&& 31)) 40)) X.1 dL_lays_220 rfl ?_
      refine lv_topi (fun m3 e_m3 => ?_)
      have hm3 : 1 ≤ m3.toInt ∧ m3.toInt ≤ 40 := by have := pt_rng e_m3 (A := 1) (N := 40) (by decide) (by decide) (by decide) (by decide); omega
      have hdm3 := (dg_b (v := m3) (by omega)).1
      refine bIast (f' := upd (upd g 2 m2) 3 m3) (ws' := [(bm, .inl (cyI, 40, .inl (upd (upd g 2 m2) 3 m3)))] ++ wa) X.1 Y 0 rfl (bInD (by decide)) rfl rfl dL_lays_221 (fun H locs Y => ?_)
      refine lv_aload_n hx hb dL_lays_222 rfl (lv_at hl 3 rfl) ?_
      refine lv_iconst (v := 4) hx hb dL_lays_223 (by decide) ?_
      refine lv_iload hx hb dL_lays_224 (lv_at hl 4 rfl) ?_
      refine lv_bipush (v := 10) hx hb dL_lays_226 (by decide) ?_
      refine bShr (v := xv >>> ((10 : Int32) &&& 31)) X.1 dL_lays_228 rfl ?_
      refine lv_bipush (v := 12) hx hb dL_lays_229 (by decide) ?_
      refine bSI (As := [.int (xv >>> ((10 : Int32) &&& 31)), .int 12]) (rest := [.int 4, .ref bm]) X.1 Y (c_part l D cyC cyI (xv >>> ((10 : Int32) &&& 31)) 12 (by decide)) gL_lays_L_part rfl ⟨rfl, rfl⟩ hdq_L_part.2 ⟨Nat.le_of_ble_eq_true rfl, Nat.le_of_ble_eq_true rfl⟩ rfl rfl hl.1 (Nat.le_of_ble_eq_true rfl) ⟨Nat.le_of_ble_eq_true rfl, Nat.le_of_ble_eq_true rfl⟩ dL_lays_231 (fun H locs Y => ?_)
      refine lv_topi (fun m4 e_m4 => ?_)
      have hm4 : 0 ≤ m4.toInt ∧ m4.toInt ≤ 11 := by rw [e_m4]; have := pt_b (v := (xv >>> ((10 : Int32) &&& 31))) (n := 12) (by decide); rw [show (12 : Int32).toInt = 12 by decide] at this; omega
      have hdm4 := (dg_b (v := m4) (by omega)).1
      refine bIast (f' := upd (upd (upd g 2 m2) 3 m3) 4 m4) (ws' := [(bm, .inl (cyI, 40, .inl (upd (upd (upd g 2 m2) 3 m3) 4 m4)))] ++ wa) X.1 Y 0 rfl (bInD (by decide)) rfl rfl dL_lays_234 (fun H locs Y => ?_)
      refine lv_aload_n hx hb dL_lays_235 rfl (lv_at hl 0 rfl) ?_
      refine lv_bipush (v := 107) hx hb dL_lays_236 (by decide) ?_
      refine qVI (al := [(bm, .inl (cyI, 40, .inl (upd (upd (upd g 2 m2) 3 m3) 4 m4)))]) (As := [.int 107]) (rest := []) X Y (k_write hI 107 (by (try simp only [List.length_append, List.length_cons, List.length_nil]); omega) (by decide)) gL_lays_X7_write rfl hdq_X7_write ⟨Nat.le_of_ble_eq_true rfl, Nat.le_of_ble_eq_true rfl⟩ hI.head rfl rfl hl.1 (Nat.le_of_ble_eq_true rfl) ⟨Nat.le_of_ble_eq_true rfl, Nat.le_of_ble_eq_true rfl⟩ dL_lays_238 (fun wa_14 H locs hI_14 hw_14 Y => ?_)
      have hW_14 := hW.trans hw_14
      refine lv_pop hx hb dL_lays_241 rfl ?_
      refine lv_aload_n hx hb dL_lays_242 rfl (lv_at hl 0 rfl) ?_
      refine lv_aload_n hx hb dL_lays_243 rfl (lv_at hl 3 rfl) ?_
      refine lv_iconst (v := 2) hx hb dL_lays_244 (by decide) ?_
      refine bIald (v := m2) X.1 Y 0 rfl (bInD (by decide)) dL_lays_245 ((upd_ne (by decide)).trans ((upd_ne (by decide)).trans upd_eq)) ?_
      refine lv_bipush (v := 44) hx hb dL_lays_246 (by decide) ?_
      refine qSV (al := [(bm, .inl (cyI, 40, .inl (upd (upd (upd g 2 m2) 3 m3) 4 m4)))]) (wa := wa_14) (As := [.ref (Q 0), .int m2, .int 44]) (rest := []) (c2 := 0) (s2 := 0) X Y (c_number l D cyC cyI sb sL xs hI_14 m2 44 (by omega) (by decide) (by (try simp only [List.length_append, List.length_cons, List.length_nil]); omega)) gL_lays_L_number rfl ⟨rfl, rfl⟩ hdq_L_number.2 ⟨Nat.le_of_ble_eq_true rfl, Nat.le_of_ble_eq_true rfl⟩ rfl rfl rfl rfl hl.1 (Nat.le_of_ble_eq_true rfl) ⟨Nat.le_of_ble_eq_true rfl, Nat.le_of_ble_eq_true rfl⟩ dL_lays_248 (fun  wa_15 H locs hI_15 hw_15 Y => ?_)
      have hW_15 := hW_14.trans hw_15
      refine lv_aload_n hx hb dL_lays_251 rfl (lv_at hl 0 rfl) ?_
      refine lv_aload_n hx hb dL_lays_252 rfl (lv_at hl 3 rfl) ?_
      refine lv_iconst (v := 3) hx hb dL_lays_253 (by decide) ?_
      refine bIald (v := m3) X.1 Y 0 rfl (bInD (by decide)) dL_lays_254 ((upd_ne (by decide)).trans upd_eq) ?_
      refine lv_bipush (v := 44) hx hb dL_lays_255 (by decide) ?_
      refine qSV (al := [(bm, .inl (cyI, 40, .inl (upd (upd (upd g 2 m2) 3 m3) 4 m4)))]) (wa := wa_15) (As := [.ref (Q 0), .int m3, .int 44]) (rest := []) (c2 := 0) (s2 := 0) X Y (c_number l D cyC cyI sb sL xs hI_15 m3 44 (by omega) (by decide) (by (try simp only [List.length_append, List.length_cons, List.length_nil]); omega)) gL_lays_L_number rfl ⟨rfl, rfl⟩ hdq_L_number.2 ⟨Nat.le_of_ble_eq_true rfl, Nat.le_of_ble_eq_true rfl⟩ rfl rfl rfl rfl hl.1 (Nat.le_of_ble_eq_true rfl) ⟨Nat.le_of_ble_eq_true rfl, Nat.le_of_ble_eq_true rfl⟩ dL_lays_257 (fun  wa_16 H locs hI_16 hw_16 Y => ?_)
      have hW_16 := hW_15.trans hw_16
      refine lv_aload_n hx hb dL_lays_260 rfl (lv_at hl 0 rfl) ?_
      refine lv_aload_n hx hb dL_lays_261 rfl (lv_at hl 3 rfl) ?_
      refine lv_iconst (v := 4) hx hb dL_lays_262 (by decide) ?_
      refine bIald (v := m4) X.1 Y 0 rfl (bInD (by decide)) dL_lays_263 upd_eq ?_
      refine lv_bipush (v := 59) hx hb dL_lays_264 (by decide) ?_
      refine qSV (al := [(bm, .inl (cyI, 40, .inl (upd (upd (upd g 2 m2) 3 m3) 4 m4)))]) (wa := wa_16) (As := [.ref (Q 0), .int m4, .int 59]) (rest := []) (c2 := 0) (s2 := 0) X Y (c_number l D cyC cyI sb sL xs hI_16 m4 59 (by omega) (by decide) (by (try simp only [List.length_append, List.length_cons, List.length_nil]); omega)) gL_lays_L_number rfl ⟨rfl, rfl⟩ hdq_L_number.2 ⟨Nat.le_of_ble_eq_true rfl, Nat.le_of_ble_eq_true rfl⟩ rfl rfl rfl rfl hl.1 (Nat.le_of_ble_eq_true rfl) ⟨Nat.le_of_ble_eq_true rfl, Nat.le_of_ble_eq_true rfl⟩ dL_lays_266 (fun  wa_17 H locs hI_17 hw_17 Y => ?_)
      have hW_17 := hW_16.trans hw_17
      exact la_c l D cyC cyI sb sL xs hsL f hf bm X hr hlk g0 m0 m1 m2 m3 m4 h0 h1 (by omega) (by omega) (by omega) (upd (upd (upd g 2 m2) 3 m3) 4 m4) ((upd_ne (by decide)).trans ((upd_ne (by decide)).trans ((upd_ne (by decide)).trans hg0))) ((upd_ne (by decide)).trans ((upd_ne (by decide)).trans ((upd_ne (by decide)).trans hg1))) (k + 1) _ (PRd_drive hP (by omega) (by omega) (by omega) (by omega) (by omega)) (by omega) (by (try simp only [List.length_append, List.length_cons, List.length_nil]); omega) hI_17 hW_17 (lv_sub hl [0, 1, 2, 3] rfl) Y
set_option maxHeartbeats 4000000 in
set_option maxRecDepth 100000 in
theorem la_g {p_ : Program} {e_ : Env} {s_ : State} {m_ : MethodId} {bl_ : List Frame} {me_ : Method} {cd_ : Code} {A_ : Nat → Prop} (l : Launch) (D : va_G) (cyC cyI : ClassId) (sb sL : Nat) (xs : Nat → Int32) {Q : Nat → Nat} {r : Nat → Int32} {S : Nat → Sto} {ud : Int32} {wc : va_W} (hsL : sL ≤ 260) (f : Nat) (hf : f ≤ 500) (bm : Nat) (X : qX p_ s_ m_ ([.ref (Q 0), .ref sb, .int (nI f), .ref bm] : List Value).toArray cd_ cL_lays 9 wsL_lays yL_lays.cls D cyC cyI sb sL xs A_) (hr : me_.sig.returnType = (some .boolean)) (hlk : me_.locks = false) (g0 : Nat → Int32) (m0 : Int32) (h0 : 200 ≤ m0.toInt ∧ m0.toInt ≤ 999) (g : Nat → Int32) (hg0 : g 0 = m0) (hg1 : g 1 = 40) (k : Nat) (T : List Int32) (hP : PRd T k m0 40 2 12 6 100 30 0 500 30 0) (hk : k ≤ 3) (hT : T.length ≤ 10) (xv : Int32) {wa : va_W} {H : Heap} {locs : List Loc} {ls : Array Slot} (hI : QW cyC cyI Q r S ud T wa) (hW : wPerm wc wa) (hl : lv_has ls 9 [(0, .ref (Q 0)), (1, .ref sb), (2, .int (nI f)), (3, .ref bm), (4, .int xv)]) (Y : bY D A_ s_.heap ([(bm, .inl (cyI, 40, .inl g))] ++ wa) H locs) : W p_ l e_ ({ frames := 6, cells := 0, slots := 0, locals := 135 } : Room) s_ m_ ([.ref (Q 0), .ref sb, .int (nI f), .ref bm] : List Value).toArray bl_ me_ cd_ H locs 0 0 (qQI bl_ ([.ref (Q 0), .ref sb, .int (nI f), .ref bm] : List Value).toArray s_ D ([(bm, .inl (cyI, 40, .inl g0))] ++ wc) (fun rv w1 => rv = 1 ∧ LY cyC cyI Q bm w1) 0 0 A_) (F0 m_ 122 ls []) := by
  have hx := X.1.1.1
  have hb := X.1.1.2.1
  refine lv_iload hx hb dL_lays_122 (lv_at hl 4 rfl) ?_
  refine lv_iconst (v := 3) hx hb dL_lays_124 (by decide) ?_
  refine bShr (v := xv >>> ((3 : Int32) &&& 31)) X.1 dL_lays_125 rfl ?_
  refine lv_iconst (v := 3) hx hb dL_lays_126 (by decide) ?_
  refine bSI (As := [.int (xv >>> ((3 : Int32) &&& 31)), .int 3]) (rest := []) X.1 Y (c_part l D cyC cyI (xv >>> ((3 : Int32) &&& 31)) 3 (by decide)) gL_lays_L_part rfl ⟨rfl, rfl⟩ hdq_L_part.2 ⟨Nat.le_of_ble_eq_true rfl, Nat.le_of_ble_eq_true rfl⟩ rfl rfl hl.1 (Nat.le_of_ble_eq_true rfl) ⟨Nat.le_of_ble_eq_true rfl, Nat.le_of_ble_eq_true rfl⟩ dL_lays_127 (fun H locs Y => ?_)
  refine lv_topi (fun pp e_pp => ?_)
  refine lv_if_le (tgt := 164) hx hb dL_lays_130 (by decide) (fun c_2 => ?_) (fun c_2 => ?_)
  · have c_2 : pp ≤ 0 := c_2
    exact la_k l D cyC cyI sb sL xs hsL f hf bm X hr hlk g0 m0 40 h0 (by decide) g hg0 hg1 k _ hP (by omega) (by (try simp only [List.length_append, List.length_cons, List.length_nil]); omega) xv hI hW (lv_sub hl [0, 1, 2, 3, 4] rfl) Y
  · have c_2 : ¬ (pp ≤ 0) := c_2
    refine lv_aload_n hx hb dL_lays_133 rfl (lv_at hl 3 rfl) ?_
    refine lv_iconst (v := 1) hx hb dL_lays_134 (by decide) ?_
    refine lv_bipush (v := 10) hx hb dL_lays_135 (by decide) ?_
    refine lv_iload hx hb dL_lays_137 (lv_at hl 4 rfl) ?_
    refine lv_iconst (v := 4) hx hb dL_lays_139 (by decide) ?_
    refine bShr (v := xv >>> ((4 : Int32) &&& 31)) X.1 dL_lays_140 rfl ?_
    refine lv_bipush (v := 60) hx hb dL_lays_141 (by decide) ?_
    refine bSI (As := [.int (xv >>> ((4 : Int32) &&& 31)), .int 60]) (rest := [.int 10, .int 1, .ref bm]) X.1 Y (c_part l D cyC cyI (xv >>> ((4 : Int32) &&& 31)) 60 (by decide)) gL_lays_L_part rfl ⟨rfl, rfl⟩ hdq_L_part.2 ⟨Nat.le_of_ble_eq_true rfl, Nat.le_of_ble_eq_true rfl⟩ rfl rfl hl.1 (Nat.le_of_ble_eq_true rfl) ⟨Nat.le_of_ble_eq_true rfl, Nat.le_of_ble_eq_true rfl⟩ dL_lays_143 (fun H locs Y => ?_)
    refine bAdd (v := (10 : Int32) + (pt (xv >>> ((4 : Int32) &&& 31)) 60)) X.1 dL_lays_146 rfl ?_
    refine lv_topi (fun m1 e_m1 => ?_)
    have hm1 : 10 ≤ m1.toInt ∧ m1.toInt ≤ 69 := by have := pt_rng e_m1 (A := 10) (N := 60) (by decide) (by decide) (by decide) (by decide); omega
    have hdm1 := (dg_b (v := m1) (by omega)).1
    refine bIast (f' := upd g 1 m1) (ws' := [(bm, .inl (cyI, 40, .inl (upd g 1 m1)))] ++ wa) X.1 Y 0 rfl (bInD (by decide)) rfl rfl dL_lays_147 (fun H locs Y => ?_)
    refine lv_aload_n hx hb dL_lays_148 rfl (lv_at hl 0 rfl) ?_
    refine lv_bipush (v := 103) hx hb dL_lays_149 (by decide) ?_
    refine qVI (al := [(bm, .inl (cyI, 40, .inl (upd g 1 m1)))]) (As := [.int 103]) (rest := []) X Y (k_write hI 103 (by (try simp only [List.length_append, List.length_cons, List.length_nil]); omega) (by decide)) gL_lays_X7_write rfl hdq_X7_write ⟨Nat.le_of_ble_eq_true rfl, Nat.le_of_ble_eq_true rfl⟩ hI.head rfl rfl hl.1 (Nat.le_of_ble_eq_true rfl) ⟨Nat.le_of_ble_eq_true rfl, Nat.le_of_ble_eq_true rfl⟩ dL_lays_151 (fun wa_4 H locs hI_4 hw_4 Y => ?_)
    have hW_4 := hW.trans hw_4
    refine lv_pop hx hb dL_lays_154 rfl ?_
    refine lv_aload_n hx hb dL_lays_155 rfl (lv_at hl 0 rfl) ?_
    refine lv_aload_n hx hb dL_lays_156 rfl (lv_at hl 3 rfl) ?_
    refine lv_iconst (v := 1) hx hb dL_lays_157 (by decide) ?_
    refine bIald (v := m1) X.1 Y 0 rfl (bInD (by decide)) dL_lays_158 upd_eq ?_
    refine lv_bipush (v := 59) hx hb dL_lays_159 (by decide) ?_
    refine qSV (al := [(bm, .inl (cyI, 40, .inl (upd g 1 m1)))]) (wa := wa_4) (As := [.ref (Q 0), .int m1, .int 59]) (rest := []) (c2 := 0) (s2 := 0) X Y (c_number l D cyC cyI sb sL xs hI_4 m1 59 (by omega) (by decide) (by (try simp only [List.length_append, List.length_cons, List.length_nil]); omega)) gL_lays_L_number rfl ⟨rfl, rfl⟩ hdq_L_number.2 ⟨Nat.le_of_ble_eq_true rfl, Nat.le_of_ble_eq_true rfl⟩ rfl rfl rfl rfl hl.1 (Nat.le_of_ble_eq_true rfl) ⟨Nat.le_of_ble_eq_true rfl, Nat.le_of_ble_eq_true rfl⟩ dL_lays_161 (fun  wa_5 H locs hI_5 hw_5 Y => ?_)
    have hW_5 := hW_4.trans hw_5
    exact la_k l D cyC cyI sb sL xs hsL f hf bm X hr hlk g0 m0 m1 h0 (by omega) (upd g 1 m1) ((upd_ne (by decide)).trans hg0) upd_eq (k + 1) _ (PRd_gap hP (by omega) (by omega) (by omega)) (by omega) (by (try simp only [List.length_append, List.length_cons, List.length_nil]); omega) xv hI_5 hW_5 (lv_sub hl [0, 1, 2, 3, 4] rfl) Y
set_option maxHeartbeats 4000000 in
set_option maxRecDepth 100000 in
theorem la_0 {p_ : Program} {e_ : Env} {s_ : State} {m_ : MethodId} {bl_ : List Frame} {me_ : Method} {cd_ : Code} {A_ : Nat → Prop} (l : Launch) (D : va_G) (cyC cyI : ClassId) (sb sL : Nat) (xs : Nat → Int32) {Q : Nat → Nat} {r : Nat → Int32} {S : Nat → Sto} {ud : Int32} {wc : va_W} (hsL : sL ≤ 260) (f : Nat) (hf : f ≤ 500) (bm : Nat) (X : qX p_ s_ m_ ([.ref (Q 0), .ref sb, .int (nI f), .ref bm] : List Value).toArray cd_ cL_lays 9 wsL_lays yL_lays.cls D cyC cyI sb sL xs A_) (hr : me_.sig.returnType = (some .boolean)) (hlk : me_.locks = false) (g0 : Nat → Int32) (g : Nat → Int32) (T : List Int32) {wa : va_W} {H : Heap} {locs : List Loc} {ls : Array Slot} (hI : QW cyC cyI Q r S ud T wa) (hW : wPerm wc wa) (hl : lv_has ls 9 [(0, .ref (Q 0)), (1, .ref sb), (2, .int (nI f)), (3, .ref bm)]) (Y : bY D A_ s_.heap ([(bm, .inl (cyI, 40, .inl g))] ++ wa) H locs) : W p_ l e_ ({ frames := 6, cells := 0, slots := 0, locals := 135 } : Room) s_ m_ ([.ref (Q 0), .ref sb, .int (nI f), .ref bm] : List Value).toArray bl_ me_ cd_ H locs 0 0 (qQI bl_ ([.ref (Q 0), .ref sb, .int (nI f), .ref bm] : List Value).toArray s_ D ([(bm, .inl (cyI, 40, .inl g0))] ++ wc) (fun rv w1 => rv = 1 ∧ LY cyC cyI Q bm w1) 0 0 A_) (F0 m_ 21 ls []) := by
  have hx := X.1.1.1
  have hb := X.1.1.2.1
  refine lv_aload_n hx hb dL_lays_21 rfl (lv_at hl 3 rfl) ?_
  refine lv_iconst (v := 0) hx hb dL_lays_22 (by decide) ?_
  refine lv_sipush (v := 600) hx hb dL_lays_23 (by decide) ?_
  refine bIast (f' := upd g 0 600) (ws' := [(bm, .inl (cyI, 40, .inl (upd g 0 600)))] ++ wa) X.1 Y 0 rfl (bInD (by decide)) rfl rfl dL_lays_26 (fun H locs Y => ?_)
  refine lv_aload_n hx hb dL_lays_27 rfl (lv_at hl 3 rfl) ?_
  refine lv_iconst (v := 1) hx hb dL_lays_28 (by decide) ?_
  refine lv_bipush (v := 40) hx hb dL_lays_29 (by decide) ?_
  refine bIast (f' := upd (upd g 0 600) 1 40) (ws' := [(bm, .inl (cyI, 40, .inl (upd (upd g 0 600) 1 40)))] ++ wa) X.1 Y 0 rfl (bInD (by decide)) rfl rfl dL_lays_31 (fun H locs Y => ?_)
  refine lv_aload_n hx hb dL_lays_32 rfl (lv_at hl 3 rfl) ?_
  refine lv_iconst (v := 2) hx hb dL_lays_33 (by decide) ?_
  refine lv_iconst (v := 2) hx hb dL_lays_34 (by decide) ?_
  refine bIast (f' := upd (upd (upd g 0 600) 1 40) 2 2) (ws' := [(bm, .inl (cyI, 40, .inl (upd (upd (upd g 0 600) 1 40) 2 2)))] ++ wa) X.1 Y 0 rfl (bInD (by decide)) rfl rfl dL_lays_35 (fun H locs Y => ?_)
  refine lv_aload_n hx hb dL_lays_36 rfl (lv_at hl 3 rfl) ?_
  refine lv_iconst (v := 3) hx hb dL_lays_37 (by decide) ?_
  refine lv_bipush (v := 12) hx hb dL_lays_38 (by decide) ?_
  refine bIast (f' := upd (upd (upd (upd g 0 600) 1 40) 2 2) 3 12) (ws' := [(bm, .inl (cyI, 40, .inl (upd (upd (upd (upd g 0 600) 1 40) 2 2) 3 12)))] ++ wa) X.1 Y 0 rfl (bInD (by decide)) rfl rfl dL_lays_40 (fun H locs Y => ?_)
  refine lv_aload_n hx hb dL_lays_41 rfl (lv_at hl 3 rfl) ?_
  refine lv_iconst (v := 4) hx hb dL_lays_42 (by decide) ?_
  refine lv_bipush (v := 6) hx hb dL_lays_43 (by decide) ?_
  refine bIast (f' := upd (upd (upd (upd (upd g 0 600) 1 40) 2 2) 3 12) 4 6) (ws' := [(bm, .inl (cyI, 40, .inl (upd (upd (upd (upd (upd g 0 600) 1 40) 2 2) 3 12) 4 6)))] ++ wa) X.1 Y 0 rfl (bInD (by decide)) rfl rfl dL_lays_45 (fun H locs Y => ?_)
  refine lv_aload_n hx hb dL_lays_46 rfl (lv_at hl 3 rfl) ?_
  refine lv_iconst (v := 5) hx hb dL_lays_47 (by decide) ?_
  refine lv_bipush (v := (-4)) hx hb dL_lays_48 (by decide) ?_
  refine bIast (f' := upd (upd (upd (upd (upd (upd g 0 600) 1 40) 2 2) 3 12) 4 6) 5 (-4)) (ws' := [(bm, .inl (cyI, 40, .inl (upd (upd (upd (upd (upd (upd g 0 600) 1 40) 2 2) 3 12) 4 6) 5 (-4))))] ++ wa) X.1 Y 0 rfl (bInD (by decide)) rfl rfl dL_lays_50 (fun H locs Y => ?_)
  refine lv_aload_n hx hb dL_lays_51 rfl (lv_at hl 0 rfl) ?_
  refine qVI (al := [(bm, .inl (cyI, 40, .inl (upd (upd (upd (upd (upd (upd g 0 600) 1 40) 2 2) 3 12) 4 6) 5 (-4))))]) (As := []) (rest := []) X Y (k_wipe hI) gL_lays_X7_wipe rfl hdq_X7_wipe ⟨Nat.le_of_ble_eq_true rfl, Nat.le_of_ble_eq_true rfl⟩ hI.head rfl rfl hl.1 (Nat.le_of_ble_eq_true rfl) ⟨Nat.le_of_ble_eq_true rfl, Nat.le_of_ble_eq_true rfl⟩ dL_lays_52 (fun wa_1 H locs hI_1 hw_1 Y => ?_)
  have hW_1 := hW.trans hw_1
  refine lv_pop hx hb dL_lays_55 rfl ?_
  refine lv_aload_n hx hb dL_lays_56 rfl (lv_at hl 1 rfl) ?_
  refine lv_iload_n hx hb dL_lays_57 rfl (lv_at hl 2 rfl) ?_
  refine qSI (al := []) (wa := ([(bm, .inl (cyI, 40, .inl (upd (upd (upd (upd (upd (upd g 0 600) 1 40) 2 2) 3 12) 4 6) 5 (-4))))] ++ wa_1)) (As := [.ref sb, .int (nI f)]) (rest := []) (c2 := 0) (s2 := 0) X Y (c_cell l D cyC cyI sb sL xs (nI f) (by rw [nIt (by omega)]; omega) hsL) gL_lays_L_cell rfl ⟨rfl, rfl⟩ hdq_L_cell.2 ⟨Nat.le_of_ble_eq_true rfl, Nat.le_of_ble_eq_true rfl⟩ rfl rfl rfl rfl hl.1 (Nat.le_of_ble_eq_true rfl) ⟨Nat.le_of_ble_eq_true rfl, Nat.le_of_ble_eq_true rfl⟩ dL_lays_58 (fun r_3 wa_2 H locs hI_2 hw_2 Y => ?_)
  subst hI_2
  have Y : bY D A_ s_.heap ([(bm, .inl (cyI, 40, .inl (upd (upd (upd (upd (upd (upd g 0 600) 1 40) 2 2) 3 12) 4 6) 5 (-4))))] ++ wa_1) H locs := Y
  refine lv_istore (lv' := [(4, .int r_3), (0, .ref (Q 0)), (1, .ref sb), (2, .int (nI f)), (3, .ref bm)]) hx hb dL_lays_61 hl (by decide) rfl (fun ls hl => ?_)
  refine lv_iload hx hb dL_lays_63 (lv_at hl 0 rfl) ?_
  refine lv_iconst (v := 3) hx hb dL_lays_65 (by decide) ?_
  refine bSI (As := [.int r_3, .int 3]) (rest := []) X.1 Y (c_part l D cyC cyI r_3 3 (by decide)) gL_lays_L_part rfl ⟨rfl, rfl⟩ hdq_L_part.2 ⟨Nat.le_of_ble_eq_true rfl, Nat.le_of_ble_eq_true rfl⟩ rfl rfl hl.1 (Nat.le_of_ble_eq_true rfl) ⟨Nat.le_of_ble_eq_true rfl, Nat.le_of_ble_eq_true rfl⟩ dL_lays_66 (fun H locs Y => ?_)
  refine lv_topi (fun pp e_pp => ?_)
  refine lv_if_le (tgt := 122) hx hb dL_lays_69 (by decide) (fun c_5 => ?_) (fun c_5 => ?_)
  · have c_5 : pp ≤ 0 := c_5
    exact la_g l D cyC cyI sb sL xs hsL f hf bm X hr hlk g0 600 (by decide) (upd (upd (upd (upd (upd (upd g 0 600) 1 40) 2 2) 3 12) 4 6) 5 (-4)) ((upd_ne (by decide)).trans ((upd_ne (by decide)).trans ((upd_ne (by decide)).trans ((upd_ne (by decide)).trans ((upd_ne (by decide)).trans upd_eq))))) ((upd_ne (by decide)).trans ((upd_ne (by decide)).trans ((upd_ne (by decide)).trans ((upd_ne (by decide)).trans upd_eq)))) 0 _ PRd_0 (by omega) (by (try simp only [List.length_append, List.length_cons, List.length_nil]); omega) r_3 hI_1 hW_1 (lv_sub hl [1, 2, 3, 4, 0] rfl) Y
  · have c_5 : ¬ (pp ≤ 0) := c_5
    refine lv_aload_n hx hb dL_lays_72 rfl (lv_at hl 4 rfl) ?_
    refine lv_iconst (v := 0) hx hb dL_lays_73 (by decide) ?_
    refine lv_sipush (v := 200) hx hb dL_lays_74 (by decide) ?_
    refine lv_iload hx hb dL_lays_77 (lv_at hl 0 rfl) ?_
    refine lv_iconst (v := 2) hx hb dL_lays_79 (by decide) ?_
    refine bShr (v := r_3 >>> ((2 : Int32) &&& 31)) X.1 dL_lays_80 rfl ?_
    refine lv_iload hx hb dL_lays_81 (lv_at hl 0 rfl) ?_
    refine lv_iconst (v := 5) hx hb dL_lays_83 (by decide) ?_
    refine bShr (v := r_3 >>> ((5 : Int32) &&& 31)) X.1 dL_lays_84 rfl ?_
    refine lv_iconst (v := 3) hx hb dL_lays_85 (by decide) ?_
    refine bSI (As := [.int (r_3 >>> ((5 : Int32) &&& 31)), .int 3]) (rest := [.int (r_3 >>> ((2 : Int32) &&& 31)), .int 200, .int 0, .ref bm]) X.1 Y (c_part l D cyC cyI (r_3 >>> ((5 : Int32) &&& 31)) 3 (by decide)) gL_lays_L_part rfl ⟨rfl, rfl⟩ hdq_L_part.2 ⟨Nat.le_of_ble_eq_true rfl, Nat.le_of_ble_eq_true rfl⟩ rfl rfl hl.1 (Nat.le_of_ble_eq_true rfl) ⟨Nat.le_of_ble_eq_true rfl, Nat.le_of_ble_eq_true rfl⟩ dL_lays_86 (fun H locs Y => ?_)
    refine lv_topi (fun pp e_pp => ?_)
    refine lv_if_ne (tgt := 98) hx hb dL_lays_89 (by decide) (fun c_7 => ?_) (fun c_7 => ?_)
    · have c_7 : ¬ (pp = 0) := c_7
      refine lv_sipush (v := 150) hx hb dL_lays_98 (by decide) ?_
      refine bSI (As := [.int (r_3 >>> ((2 : Int32) &&& 31)), .int 150]) (rest := [.int 200, .int 0, .ref bm]) X.1 Y (c_part l D cyC cyI (r_3 >>> ((2 : Int32) &&& 31)) 150 (by decide)) gL_lays_L_part rfl ⟨rfl, rfl⟩ hdq_L_part.2 ⟨Nat.le_of_ble_eq_true rfl, Nat.le_of_ble_eq_true rfl⟩ rfl rfl hl.1 (Nat.le_of_ble_eq_true rfl) ⟨Nat.le_of_ble_eq_true rfl, Nat.le_of_ble_eq_true rfl⟩ dL_lays_101 (fun H locs Y => ?_)
      refine bAdd (v := (200 : Int32) + (pt (r_3 >>> ((2 : Int32) &&& 31)) 150)) X.1 dL_lays_104 rfl ?_
      refine lv_topi (fun m0 e_m0 => ?_)
      have hm0 : 200 ≤ m0.toInt ∧ m0.toInt ≤ 999 := by have := pt_rng e_m0 (A := 200) (N := 150) (by decide) (by decide) (by decide) (by decide); omega
      have hdm0 := (dg_b (v := m0) (by omega)).1
      refine bIast (f' := upd (upd (upd (upd (upd (upd (upd g 0 600) 1 40) 2 2) 3 12) 4 6) 5 (-4)) 0 m0) (ws' := [(bm, .inl (cyI, 40, .inl (upd (upd (upd (upd (upd (upd (upd g 0 600) 1 40) 2 2) 3 12) 4 6) 5 (-4)) 0 m0)))] ++ wa_1) X.1 Y 0 rfl (bInD (by decide)) rfl rfl dL_lays_105 (fun H locs Y => ?_)
      refine lv_aload_n hx hb dL_lays_106 rfl (lv_at hl 1 rfl) ?_
      refine lv_bipush (v := 101) hx hb dL_lays_107 (by decide) ?_
      refine qVI (al := [(bm, .inl (cyI, 40, .inl (upd (upd (upd (upd (upd (upd (upd g 0 600) 1 40) 2 2) 3 12) 4 6) 5 (-4)) 0 m0)))]) (As := [.int 101]) (rest := []) X Y (k_write hI_1 101 (by (try simp only [List.length_append, List.length_cons, List.length_nil]); omega) (by decide)) gL_lays_X7_write rfl hdq_X7_write ⟨Nat.le_of_ble_eq_true rfl, Nat.le_of_ble_eq_true rfl⟩ hI_1.head rfl rfl hl.1 (Nat.le_of_ble_eq_true rfl) ⟨Nat.le_of_ble_eq_true rfl, Nat.le_of_ble_eq_true rfl⟩ dL_lays_109 (fun wa_9 H locs hI_9 hw_9 Y => ?_)
      have hW_9 := hW_1.trans hw_9
      refine lv_pop hx hb dL_lays_112 rfl ?_
      refine lv_aload_n hx hb dL_lays_113 rfl (lv_at hl 1 rfl) ?_
      refine lv_aload_n hx hb dL_lays_114 rfl (lv_at hl 4 rfl) ?_
      refine lv_iconst (v := 0) hx hb dL_lays_115 (by decide) ?_
      refine bIald (v := m0) X.1 Y 0 rfl (bInD (by decide)) dL_lays_116 upd_eq ?_
      refine lv_bipush (v := 59) hx hb dL_lays_117 (by decide) ?_
      refine qSV (al := [(bm, .inl (cyI, 40, .inl (upd (upd (upd (upd (upd (upd (upd g 0 600) 1 40) 2 2) 3 12) 4 6) 5 (-4)) 0 m0)))]) (wa := wa_9) (As := [.ref (Q 0), .int m0, .int 59]) (rest := []) (c2 := 0) (s2 := 0) X Y (c_number l D cyC cyI sb sL xs hI_9 m0 59 (by omega) (by decide) (by (try simp only [List.length_append, List.length_cons, List.length_nil]); omega)) gL_lays_L_number rfl ⟨rfl, rfl⟩ hdq_L_number.2 ⟨Nat.le_of_ble_eq_true rfl, Nat.le_of_ble_eq_true rfl⟩ rfl rfl rfl rfl hl.1 (Nat.le_of_ble_eq_true rfl) ⟨Nat.le_of_ble_eq_true rfl, Nat.le_of_ble_eq_true rfl⟩ dL_lays_119 (fun  wa_10 H locs hI_10 hw_10 Y => ?_)
      have hW_10 := hW_9.trans hw_10
      exact la_g l D cyC cyI sb sL xs hsL f hf bm X hr hlk g0 m0 (by omega) (upd (upd (upd (upd (upd (upd (upd g 0 600) 1 40) 2 2) 3 12) 4 6) 5 (-4)) 0 m0) upd_eq ((upd_ne (by decide)).trans ((upd_ne (by decide)).trans ((upd_ne (by decide)).trans ((upd_ne (by decide)).trans ((upd_ne (by decide)).trans upd_eq))))) 1 _ (PRd_end PRd_0 (by omega) (by simp) (by omega)) (by omega) (by (try simp only [List.length_append, List.length_cons, List.length_nil]); omega) r_3 hI_10 hW_10 (lv_sub hl [1, 2, 3, 4, 0] rfl) Y
    · have c_7 : pp = 0 := c_7
      refine lv_sipush (v := 800) hx hb dL_lays_92 (by decide) ?_
      refine lv_goto (tgt := 101) hx hb dL_lays_95 (by decide) ?_
      refine bSI (As := [.int (r_3 >>> ((2 : Int32) &&& 31)), .int 800]) (rest := [.int 200, .int 0, .ref bm]) X.1 Y (c_part l D cyC cyI (r_3 >>> ((2 : Int32) &&& 31)) 800 (by decide)) gL_lays_L_part rfl ⟨rfl, rfl⟩ hdq_L_part.2 ⟨Nat.le_of_ble_eq_true rfl, Nat.le_of_ble_eq_true rfl⟩ rfl rfl hl.1 (Nat.le_of_ble_eq_true rfl) ⟨Nat.le_of_ble_eq_true rfl, Nat.le_of_ble_eq_true rfl⟩ dL_lays_101 (fun H locs Y => ?_)
      refine bAdd (v := (200 : Int32) + (pt (r_3 >>> ((2 : Int32) &&& 31)) 800)) X.1 dL_lays_104 rfl ?_
      refine lv_topi (fun m0 e_m0 => ?_)
      have hm0 : 200 ≤ m0.toInt ∧ m0.toInt ≤ 999 := by have := pt_rng e_m0 (A := 200) (N := 800) (by decide) (by decide) (by decide) (by decide); omega
      have hdm0 := (dg_b (v := m0) (by omega)).1
      refine bIast (f' := upd (upd (upd (upd (upd (upd (upd g 0 600) 1 40) 2 2) 3 12) 4 6) 5 (-4)) 0 m0) (ws' := [(bm, .inl (cyI, 40, .inl (upd (upd (upd (upd (upd (upd (upd g 0 600) 1 40) 2 2) 3 12) 4 6) 5 (-4)) 0 m0)))] ++ wa_1) X.1 Y 0 rfl (bInD (by decide)) rfl rfl dL_lays_105 (fun H locs Y => ?_)
      refine lv_aload_n hx hb dL_lays_106 rfl (lv_at hl 1 rfl) ?_
      refine lv_bipush (v := 101) hx hb dL_lays_107 (by decide) ?_
      refine qVI (al := [(bm, .inl (cyI, 40, .inl (upd (upd (upd (upd (upd (upd (upd g 0 600) 1 40) 2 2) 3 12) 4 6) 5 (-4)) 0 m0)))]) (As := [.int 101]) (rest := []) X Y (k_write hI_1 101 (by (try simp only [List.length_append, List.length_cons, List.length_nil]); omega) (by decide)) gL_lays_X7_write rfl hdq_X7_write ⟨Nat.le_of_ble_eq_true rfl, Nat.le_of_ble_eq_true rfl⟩ hI_1.head rfl rfl hl.1 (Nat.le_of_ble_eq_true rfl) ⟨Nat.le_of_ble_eq_true rfl, Nat.le_of_ble_eq_true rfl⟩ dL_lays_109 (fun wa_12 H locs hI_12 hw_12 Y => ?_)
      have hW_12 := hW_1.trans hw_12
      refine lv_pop hx hb dL_lays_112 rfl ?_
      refine lv_aload_n hx hb dL_lays_113 rfl (lv_at hl 1 rfl) ?_
      refine lv_aload_n hx hb dL_lays_114 rfl (lv_at hl 4 rfl) ?_
      refine lv_iconst (v := 0) hx hb dL_lays_115 (by decide) ?_
      refine bIald (v := m0) X.1 Y 0 rfl (bInD (by decide)) dL_lays_116 upd_eq ?_
      refine lv_bipush (v := 59) hx hb dL_lays_117 (by decide) ?_
      refine qSV (al := [(bm, .inl (cyI, 40, .inl (upd (upd (upd (upd (upd (upd (upd g 0 600) 1 40) 2 2) 3 12) 4 6) 5 (-4)) 0 m0)))]) (wa := wa_12) (As := [.ref (Q 0), .int m0, .int 59]) (rest := []) (c2 := 0) (s2 := 0) X Y (c_number l D cyC cyI sb sL xs hI_12 m0 59 (by omega) (by decide) (by (try simp only [List.length_append, List.length_cons, List.length_nil]); omega)) gL_lays_L_number rfl ⟨rfl, rfl⟩ hdq_L_number.2 ⟨Nat.le_of_ble_eq_true rfl, Nat.le_of_ble_eq_true rfl⟩ rfl rfl rfl rfl hl.1 (Nat.le_of_ble_eq_true rfl) ⟨Nat.le_of_ble_eq_true rfl, Nat.le_of_ble_eq_true rfl⟩ dL_lays_119 (fun  wa_13 H locs hI_13 hw_13 Y => ?_)
      have hW_13 := hW_12.trans hw_13
      exact la_g l D cyC cyI sb sL xs hsL f hf bm X hr hlk g0 m0 (by omega) (upd (upd (upd (upd (upd (upd (upd g 0 600) 1 40) 2 2) 3 12) 4 6) 5 (-4)) 0 m0) upd_eq ((upd_ne (by decide)).trans ((upd_ne (by decide)).trans ((upd_ne (by decide)).trans ((upd_ne (by decide)).trans ((upd_ne (by decide)).trans upd_eq))))) 1 _ (PRd_end PRd_0 (by omega) (by simp) (by omega)) (by omega) (by (try simp only [List.length_append, List.length_cons, List.length_nil]); omega) r_3 hI_13 hW_13 (lv_sub hl [1, 2, 3, 4, 0] rfl) Y
set_option maxHeartbeats 4000000 in
set_option maxRecDepth 100000 in
theorem la_z {p_ : Program} {e_ : Env} {s_ : State} {m_ : MethodId} {bl_ : List Frame} {me_ : Method} {cd_ : Code} {A_ : Nat → Prop} (l : Launch) (D : va_G) (cyC cyI : ClassId) (sb sL : Nat) (xs : Nat → Int32) {Q : Nat → Nat} {r : Nat → Int32} {S : Nat → Sto} {ud : Int32} {wc : va_W} (hsL : sL ≤ 260) (f : Nat) (hf : f ≤ 500) (bm : Nat) {T : List Int32} (X : qX p_ s_ m_ ([.ref (Q 0), .ref sb, .int (nI f), .ref bm] : List Value).toArray cd_ cL_lays 9 wsL_lays yL_lays.cls D cyC cyI sb sL xs A_) (hr : me_.sig.returnType = (some .boolean)) (hlk : me_.locks = false) (g0 : Nat → Int32) : ∀ (n k : Nat), 41 ≤ k + n → k ≤ 40 → ∀ (g : Nat → Int32) (wa : va_W) (H : Heap) (locs : List Loc) (ls : Array Slot), QW cyC cyI Q r S ud T wa → wPerm wc wa → lv_has ls 9 [(0, .ref (Q 0)), (1, .ref sb), (2, .int (nI f)), (3, .ref bm), (4, .int (nI k))] → bY D A_ s_.heap ([(bm, .inl (cyI, 40, .inl g))] ++ wa) H locs → W p_ l e_ ({ frames := 6, cells := 0, slots := 0, locals := 135 } : Room) s_ m_ ([.ref (Q 0), .ref sb, .int (nI f), .ref bm] : List Value).toArray bl_ me_ cd_ H locs 0 0 (qQI bl_ ([.ref (Q 0), .ref sb, .int (nI f), .ref bm] : List Value).toArray s_ D ([(bm, .inl (cyI, 40, .inl g0))] ++ wc) (fun rv w1 => rv = 1 ∧ LY cyC cyI Q bm w1) 0 0 A_) (F0 m_ 3 ls []) := by
  have hx := X.1.1.1
  have hb := X.1.1.2.1
  intro n
  induction n with
  | zero => intro k h1 h2; omega
  | succ n ih =>
    intro k h1 h2 g wa H locs ls hI hW hl Y
    refine lv_iload hx hb dL_lays_3 (lv_at hl 4 rfl) ?_
    refine lv_bipush (v := 40) hx hb dL_lays_5 (by decide) ?_
    refine lv_icmp_ge (tgt := 21) hx hb dL_lays_7 (by decide) (fun c_1 => ?_) (fun c_1 => ?_)
    · have c_1 : 40 ≤ (nI k) := c_1
      exact la_0 l D cyC cyI sb sL xs hsL f hf bm X hr hlk g0 g _ hI hW (lv_sub hl [0, 1, 2, 3] rfl) Y
    · have c_1 : ¬ (40 ≤ (nI k)) := c_1
      have hk40 : k < 40 := (bLtN (by omega) (by decide)).mp (bLtN2 c_1)
      refine lv_aload_n hx hb dL_lays_10 rfl (lv_at hl 3 rfl) ?_
      refine lv_iload hx hb dL_lays_11 (lv_at hl 4 rfl) ?_
      refine lv_iconst (v := 0) hx hb dL_lays_13 (by decide) ?_
      refine bIast (f' := upd g k 0) (ws' := [(bm, .inl (cyI, 40, .inl (upd g k 0)))] ++ wa) X.1 Y 0 rfl (bIn hk40 (by decide)) (bIdxs (by omega)) rfl dL_lays_14 (fun H locs Y => ?_)
      refine lv_iinc (v := nI (k + 1)) (lv' := [(4, .int (nI (k + 1))), (0, .ref (Q 0)), (1, .ref sb), (2, .int (nI f)), (3, .ref bm)]) hx hb dL_lays_15 hl (k := 4) rfl (nI_inc _) (by decide) rfl (fun ls hl => ?_)
      refine lv_goto (tgt := 3) hx hb dL_lays_18 (by decide) ?_
      exact ih (k + 1) (by omega) (by omega) _ _ _ _ _ hI hW (lv_sub hl [1, 2, 3, 4, 0] rfl) Y
set_option maxHeartbeats 4000000 in
set_option maxRecDepth 100000 in
theorem c_lays (l : Launch) (D : va_G) (cyC cyI : ClassId) (sb sL : Nat) (xs : Nat → Int32) {Q : Nat → Nat} {r : Nat → Int32} {S : Nat → Sto} {ud : Int32} {T : List Int32} {wa : va_W} (hI : QW cyC cyI Q r S ud T wa) (f : Nat) (hf : f ≤ 500) (hsL : sL ≤ 260) (bm : Nat) (g : Nat → Int32) : QI l yL_lays wsL_lays { frames := 6, cells := 0, slots := 0, locals := 135 } D cyC cyI sb sL xs [.ref (Q 0), .ref sb, .int (nI f), .ref bm] ([(bm, .inl (cyI, 40, .inl g))] ++ wa) 0 0 (fun rv w1 => rv = 1 ∧ LY cyC cyI Q bm w1) := by
  refine QI.of (cc := cL_lays) (n := 9) (ret := (some .boolean)) (by decide +kernel) rfl (Nat.le_of_ble_eq_true rfl) ?_
  intro p_ e_ s_ m_ bl_ me_ cd_ A_ ls X Y hr hlk hl
  have hx := X.1.1.1
  have hb := X.1.1.2.1
  have hl : lv_has ls 9 [(0, .ref (Q 0)), (1, .ref sb), (2, .int (nI f)), (3, .ref bm)] := hl
  have Y : bY D A_ s_.heap ([(bm, .inl (cyI, 40, .inl g))] ++ wa) s_.heap [] := Y
  have hW := Y.wpR
  refine lv_iconst (v := 0) hx hb dL_lays_0 (by decide) ?_
  refine lv_istore (lv' := [(4, .int 0), (0, .ref (Q 0)), (1, .ref sb), (2, .int (nI f)), (3, .ref bm)]) hx hb dL_lays_1 hl (by decide) rfl (fun ls hl => ?_)
  exact la_z l D cyC cyI sb sL xs hsL f hf bm X hr hlk g 41 0 (by omega) (by omega) _ _ _ _ _ hI hW (lv_sub hl [1, 2, 3, 4, 0] rfl) Y
