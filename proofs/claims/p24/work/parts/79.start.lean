theorem cll_X7 : Cond.classLink RL 10 RX7 ∈ wsL_law := List.mem_of_getElem? (i := 0) (by decide +kernel)
theorem isl_X7 : Cond.instantiable RX7 10 ∈ wsL_law := List.mem_of_getElem? (i := 1) (by decide +kernel)
theorem nil_X7 : Cond.initialized RX7 ∈ wsL_law := List.mem_of_getElem? (i := 2) (by decide +kernel)
theorem lkl_X7 : Cond.methodLink RL 121 yX7_init ∈ wsL_law := List.mem_of_getElem? (i := 5) (by decide +kernel)
theorem iml_X7 : Cond.instanceMethod yX7_init ∈ wsL_law := List.mem_of_getElem? (i := 6) (by decide +kernel)
theorem acl_I : Cond.arrayClass .int ∈ wsL_law := List.mem_of_getElem? (i := 3) (by decide +kernel)
theorem hdl_X7_init : bD1 yX7_init RX7 0 := by decide +kernel
def SI : Nat → Sto := setS (fun _ => (mk28 0 (-4) 0 0 0 0 0 0 0 0 0 0 0 0 0 0 0 0 0 0 0 0 0 0 0 0 0 0, mkB false false, mk4 (fun _ => 0) (fun _ => 0) (fun _ => 0) (fun _ => 0))) (layS 100 30 0 500 30 0 (mk4 (fun _ => 0) (fun _ => 0) (fun _ => 0) (fun _ => 0)))
theorem SI_ok : OkS (mk11 600 40 2 12 6 100 30 0 500 30 0) (SI 0) := layS_ok _ (by decide) (by decide) (by decide) (by decide) (by decide) (by decide) (by decide) (by decide) (by decide) (by decide)
set_option maxHeartbeats 8000000 in
set_option maxRecDepth 100000 in
theorem whole_start {p : Program} {e : Env} {s : State} {m : MethodId} {below : List Frame} {meth : Method} {c : Code} (l : Launch) (hflags : l.flags = flags0) {b L : Nat} {xs : Nat → Int32} (hL : L ≤ 260) (C0 : lw_At p s m meth c b L xs) : W p l e room_1 s m #[Value.ref b] below meth c s.heap [] 0 0 (lw_Z below #[Value.ref b] s) (entryFrame m ([Value.ref b] : List Value).toArray 5) := by
  obtain ⟨D, cyC, cyI, X0⟩ := lw_X C0
  obtain ⟨-, -, hr, -, -, -, hX, hbl, hlk, -⟩ := C0
  have X : qX p s m #[Value.ref b] c cL_law 5 wsL_law RL D cyC cyI b L xs (fun q : Nat => s.heap.size ≤ q) := ⟨X0, hX, hbl, Nat.not_le.mpr hbl⟩
  have hx := X0.1.1
  have hb := X0.1.2.1
  have Y : bY D (fun q : Nat => s.heap.size ≤ q) s.heap [] s.heap [] := ⟨fun k q h => by simp at h, ⟨fun i j p q h => by simp at h, fun k q h => by simp at h⟩, va_S.rf, fun q h => h⟩
  have hl := lv_entry ([.ref b]) (n := 5) (Nat.le_of_ble_eq_true rfl)
  rw [lg_entry_eq]
  generalize (lg_sl ([.ref b]) ++ List.replicate (5 - (lg_sl ([.ref b])).length) Slot.unset).toArray = ls at hl ⊢
  have hl : lv_has ls 5 [(0, .ref b)] := hl
  refine bNew (T := TX7) (N := 10) (ci := 7) (fs := [.null, .null, .null, .null, .null, .null, .null, .null, .null, .int 0]) (c2 := 1) (s2 := 10) X0 Y inlX7 tyX7 tyX7_ok cll_X7 isl_X7 nil_X7 rfl (fun j hj => by rcases (show j = 0 ∨ j = 1 ∨ j = 2 ∨ j = 3 ∨ j = 4 ∨ j = 5 ∨ j = 6 ∨ j = 7 ∨ j = 8 ∨ j = 9 by omega) with rfl | rfl | rfl | rfl | rfl | rfl | rfl | rfl | rfl | rfl <;> rfl) (Nat.le_of_ble_eq_true rfl) (Nat.le_of_ble_eq_true rfl) rfl rfl dL_law_0 (fun qx H Y => ?_)
  refine lv_dup hx hb dL_law_3 rfl ?_
  refine bIO (As := []) (rest := [.ref qx]) (wc := [(qx, .inr (7, [.null, .null, .null, .null, .null, .null, .null, .null, .null, .int 0]))]) (wr := []) (c2 := 62) (s2 := 2863) X0 Y (c_initMain l D cyC cyI qx) gL_law_X7_init rfl ⟨rfl, rfl⟩ nil_X7 lkl_X7 iml_X7 rfl hdl_X7_init.2 ⟨Nat.le_of_ble_eq_true rfl, Nat.le_of_ble_eq_true rfl⟩ [0] [] rfl rfl rfl rfl (by decide) rfl rfl rfl rfl hl.1 (Nat.le_of_ble_eq_true rfl) ⟨Nat.le_of_ble_eq_true rfl, Nat.le_of_ble_eq_true rfl⟩ dL_law_4 (fun w H locs hw Y => ?_)
  obtain ⟨q_1, q_2, q_3, q_4, q_5, q_6, q_7, q_8, q_9, q_10, q_11, q_12, q_13, q_14, q_15, q_16, q_17, q_18, q_19, q_20, q_21, q_22, q_23, q_24, q_25, q_26, q_27, q_28, q_29, q_30, q_31, q_32, q_33, q_34, q_35, q_36, q_37, q_38, q_39, q_40, q_41, q_42, q_43, q_44, q_45, q_46, q_47, q_48, q_49, q_50, q_51, q_52, q_53, q_54, q_55, q_56, q_57, q_58, q_59, q_60, q_61, hw⟩ := hw
  refine lv_astore_n (lv' := [(1, .ref qx), (0, .ref b)]) hx hb dL_law_7 rfl hl (by decide) rfl (fun ls hl => ?_)
  refine lv_bipush (v := 40) hx hb dL_law_8 (by decide) ?_
  have Y : bY D (fun q : Nat => s.heap.size ≤ q) s.heap w H locs := Y
  refine qNewI (N := 40) (c2 := 63) (s2 := 2903) X Y acl_I (by decide) (by decide) (Nat.le_of_ble_eq_true rfl) (Nat.le_of_ble_eq_true rfl) (Nat.le_of_ble_eq_true rfl) rfl rfl dL_law_10 (fun bm H Y => ?_)
  refine lv_astore_n (lv' := [(2, .ref bm), (1, .ref qx), (0, .ref b)]) hx hb dL_law_12 rfl hl (by decide) rfl (fun ls hl => ?_)
  have hQ : QW cyC cyI (fun z => [qx, q_1, q_2, q_3, q_4, q_5].getD z 0) (mk11 600 40 2 12 6 100 30 0 500 30 0) SI 0 [] w := ⟨(fun z => [q_6, q_7, q_8].getD z 0), (fun z => [q_9, q_10, q_11].getD z 0), (fun z => [q_12, q_13, q_14, q_15, q_16, q_17, q_18, q_19, q_20, q_21].getD z 0), (fun z => [q_22, q_23, q_24, q_25, q_26, q_27, q_28, q_29, q_30, q_31].getD z 0), (fun z => [q_32, q_33, q_34, q_35, q_36, q_37, q_38, q_39, q_40, q_41].getD z 0), (fun z => [q_42, q_43, q_44, q_45, q_46, q_47, q_48, q_49, q_50, q_51].getD z 0), (fun z => [q_52, q_53, q_54, q_55, q_56, q_57, q_58, q_59, q_60, q_61].getD z 0), (mk11 600 40 2 12 6 100 30 0 500 30 0), (mk25 (-4) 0 0 0 0 0 0 0 0 0 0 0 0 0 0 0 0 0 0 0 0 0 0 0 0), mkB false false, 0, 0, (fun _ => 0), ⟨by decide, rfl, fun i hi => absurd hi (Nat.not_lt_zero i)⟩, hw⟩
  exact lw_13 l X hr hlk hL (Q := (fun z => [qx, q_1, q_2, q_3, q_4, q_5].getD z 0)) hQ SI_ok rfl rfl rfl (lv_sub hl [2, 1, 0] rfl) Y
