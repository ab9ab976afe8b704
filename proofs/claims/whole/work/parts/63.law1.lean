section ARMS
variable {p : Program} {l : Launch} {e : Env} {s : State} {m : MethodId} {below : List Frame} {meth : Method} {c : Code} {H : Heap} {locs : List Loc} {Z : State → Prop} {b L : Nat} {xs : Nat → Int32} {D : va_G} {cyC cyI : ClassId} {Q K : Nat → Nat} {wa wb : va_W} {ls : Array Slot} {i : Nat}
/-- how an arm goes on: at the loop's step -/
def Nx (p : Program) (l : Launch) (e : Env) (s : State) (m : MethodId) (below : List Frame) (meth : Method) (c : Code) (Z : State → Prop) (b : Nat) (D : va_G) (cyC cyI : ClassId) (Q K : Nat → Nat) (i : Nat) : Prop := ∀ (wa wb : va_W) (H : Heap) (locs : List Loc) (ls : Array Slot), Inv cyC cyI Q K wa wb → bY D (fun q : Nat => s.heap.size ≤ q) s.heap (wa ++ wb) H locs → lv_has ls 4 [(0, .ref b), (1, .ref (Q 0)), (2, .ref (K 0)), (3, .int (nI i))] → W p l e room_1 s m #[Value.ref b] below meth c H locs 69 6199 Z (F0 m 735 ls [])
theorem hdl_X7_write : bD1 yX7_write RX7 1 := by decide +kernel
theorem hdl_X8_write : bD1 yX8_write RX8 1 := by decide +kernel
set_option maxHeartbeats 4000000 in
theorem arm_0 (X : bX p s m #[Value.ref b] c cL_law 4 wsL_law RL D cyC cyI) (hX : va_X b L xs s s.heap) (hbl : b < s.heap.size) (hL : L ≤ 2048) (hi : i + 4 ≤ L) (Y : bY D (fun q : Nat => s.heap.size ≤ q) s.heap (wa ++ wb) H locs) (hI : Inv cyC cyI Q K wa wb) (hl : lv_has ls 4 [(0, .ref b), (1, .ref (Q 0)), (2, .ref (K 0)), (3, .int (nI i))]) (nx : Nx p l e s m below meth c Z b D cyC cyI Q K i) : W p l e room_1 s m #[Value.ref b] below meth c H locs 69 6199 Z (F0 m 132 ls []) := by
  have hx := X.1.1
  have hb := X.1.2.1
  have hbA : ¬ (fun q : Nat => s.heap.size ≤ q) b := Nat.not_le.mpr hbl
  obtain ⟨v, wa', wb', ⟨rm, hr1, hr2, hA, hpA⟩, ⟨rm', hr3, hr4, hB, hpB⟩, hI'⟩ := sim_write l D cyC cyI Q K (xs (nI (i + 1)).toNatClampNeg) wa wb hI
  obtain ⟨fs, hfs⟩ := hI.headA
  obtain ⟨gs, hgs⟩ := hI.headB
  refine lv_aload_n hx hb dL_law_132 rfl (lv_at hl 1 rfl) ?_
  refine lv_aload_n hx hb dL_law_133 rfl (lv_at hl 0 rfl) ?_
  refine lv_iload_n hx hb dL_law_134 rfl (lv_at hl 3 rfl) ?_
  refine lv_iconst (v := 1) hx hb dL_law_135 (by decide) ?_
  refine bAdd (v := nI (i + 1)) X dL_law_136 (nI_sum (a := i) (b := 1) rfl rfl rfl) ?_
  refine va_sld hx hb hX hbl hbA Y.2.2.1 (bIn (by omega) (by omega)) dL_law_137 ?_
  refine bLA (As := [.int (xs (nI (i + 1)).toNatClampNeg)]) (rest := []) (ci := 7) X Y hA hpA gL_law_X7_write rfl hr1 hdl_X7_write ⟨by show rm.frames + 1 ≤ 10; omega, by show 8 + (2 + 11) + rm.locals ≤ 356; omega⟩ rfl rfl hfs rfl rfl hl.1 (Nat.le_of_ble_eq_true rfl) ⟨Nat.le_of_ble_eq_true rfl, Nat.le_of_ble_eq_true rfl⟩ dL_law_138 (fun H locs Y => ?_)
  refine lv_aload_n hx hb dL_law_141 rfl (lv_at hl 2 rfl) ?_
  refine lv_aload_n hx hb dL_law_142 rfl (lv_at hl 0 rfl) ?_
  refine lv_iload_n hx hb dL_law_143 rfl (lv_at hl 3 rfl) ?_
  refine lv_iconst (v := 1) hx hb dL_law_144 (by decide) ?_
  refine bAdd (v := nI (i + 1)) X dL_law_145 (nI_sum (a := i) (b := 1) rfl rfl rfl) ?_
  refine va_sld hx hb hX hbl hbA Y.2.2.1 (bIn (by omega) (by omega)) dL_law_146 ?_
  refine bLB (As := [.int (xs (nI (i + 1)).toNatClampNeg)]) (rest := [.int v]) (ci := 8) X Y hB hpB gL_law_X8_write rfl hr3 hdl_X8_write ⟨by show rm'.frames + 1 ≤ 10; omega, by show 8 + (2 + 11) + rm'.locals ≤ 356; omega⟩ rfl rfl hgs rfl rfl hl.1 (Nat.le_of_ble_eq_true rfl) ⟨Nat.le_of_ble_eq_true rfl, Nat.le_of_ble_eq_true rfl⟩ dL_law_147 (fun H locs Y => ?_)
  refine lv_icmp_eq (tgt := 735) hx hb dL_law_150 (by decide) (fun _ => ?_) (fun c_ => absurd rfl c_)
  exact nx wa' wb' H locs ls hI' Y hl
theorem hdl_X7_wipe : bD1 yX7_wipe RX7 0 := by decide +kernel
theorem hdl_X8_wipe : bD1 yX8_wipe RX8 0 := by decide +kernel
set_option maxHeartbeats 4000000 in
theorem arm_1 (X : bX p s m #[Value.ref b] c cL_law 4 wsL_law RL D cyC cyI) (hX : va_X b L xs s s.heap) (hbl : b < s.heap.size) (hL : L ≤ 2048) (hi : i + 4 ≤ L) (Y : bY D (fun q : Nat => s.heap.size ≤ q) s.heap (wa ++ wb) H locs) (hI : Inv cyC cyI Q K wa wb) (hl : lv_has ls 4 [(0, .ref b), (1, .ref (Q 0)), (2, .ref (K 0)), (3, .int (nI i))]) (nx : Nx p l e s m below meth c Z b D cyC cyI Q K i) : W p l e room_1 s m #[Value.ref b] below meth c H locs 69 6199 Z (F0 m 155 ls []) := by
  have hx := X.1.1
  have hb := X.1.2.1
  have hbA : ¬ (fun q : Nat => s.heap.size ≤ q) b := Nat.not_le.mpr hbl
  obtain ⟨v, wa', wb', ⟨rm, hr1, hr2, hA, hpA⟩, ⟨rm', hr3, hr4, hB, hpB⟩, hI'⟩ := sim_wipe l D cyC cyI Q K wa wb hI
  obtain ⟨fs, hfs⟩ := hI.headA
  obtain ⟨gs, hgs⟩ := hI.headB
  refine lv_aload_n hx hb dL_law_155 rfl (lv_at hl 1 rfl) ?_
  refine bLA (As := []) (rest := []) (ci := 7) X Y hA hpA gL_law_X7_wipe rfl hr1 hdl_X7_wipe ⟨by show rm.frames + 1 ≤ 10; omega, by show 8 + (2 + 11) + rm.locals ≤ 356; omega⟩ rfl rfl hfs rfl rfl hl.1 (Nat.le_of_ble_eq_true rfl) ⟨Nat.le_of_ble_eq_true rfl, Nat.le_of_ble_eq_true rfl⟩ dL_law_156 (fun H locs Y => ?_)
  refine lv_aload_n hx hb dL_law_159 rfl (lv_at hl 2 rfl) ?_
  refine bLB (As := []) (rest := [.int v]) (ci := 8) X Y hB hpB gL_law_X8_wipe rfl hr3 hdl_X8_wipe ⟨by show rm'.frames + 1 ≤ 10; omega, by show 8 + (2 + 11) + rm'.locals ≤ 356; omega⟩ rfl rfl hgs rfl rfl hl.1 (Nat.le_of_ble_eq_true rfl) ⟨Nat.le_of_ble_eq_true rfl, Nat.le_of_ble_eq_true rfl⟩ dL_law_160 (fun H locs Y => ?_)
  refine lv_icmp_eq (tgt := 735) hx hb dL_law_163 (by decide) (fun _ => ?_) (fun c_ => absurd rfl c_)
  exact nx wa' wb' H locs ls hI' Y hl
theorem hdl_X7_fault : bD1 yX7_fault RX7 0 := by decide +kernel
theorem hdl_X8_fault : bD1 yX8_fault RX8 0 := by decide +kernel
set_option maxHeartbeats 4000000 in
theorem arm_2 (X : bX p s m #[Value.ref b] c cL_law 4 wsL_law RL D cyC cyI) (hX : va_X b L xs s s.heap) (hbl : b < s.heap.size) (hL : L ≤ 2048) (hi : i + 4 ≤ L) (Y : bY D (fun q : Nat => s.heap.size ≤ q) s.heap (wa ++ wb) H locs) (hI : Inv cyC cyI Q K wa wb) (hl : lv_has ls 4 [(0, .ref b), (1, .ref (Q 0)), (2, .ref (K 0)), (3, .int (nI i))]) (nx : Nx p l e s m below meth c Z b D cyC cyI Q K i) : W p l e room_1 s m #[Value.ref b] below meth c H locs 69 6199 Z (F0 m 168 ls []) := by
  have hx := X.1.1
  have hb := X.1.2.1
  have hbA : ¬ (fun q : Nat => s.heap.size ≤ q) b := Nat.not_le.mpr hbl
  obtain ⟨v, wa', wb', ⟨rm, hr1, hr2, hA, hpA⟩, ⟨rm', hr3, hr4, hB, hpB⟩, hI'⟩ := sim_fault l D cyC cyI Q K wa wb hI
  obtain ⟨fs, hfs⟩ := hI.headA
  obtain ⟨gs, hgs⟩ := hI.headB
  refine lv_aload_n hx hb dL_law_168 rfl (lv_at hl 1 rfl) ?_
  refine bLA (As := []) (rest := []) (ci := 7) X Y hA hpA gL_law_X7_fault rfl hr1 hdl_X7_fault ⟨by show rm.frames + 1 ≤ 10; omega, by show 8 + (1 + 11) + rm.locals ≤ 356; omega⟩ rfl rfl hfs rfl rfl hl.1 (Nat.le_of_ble_eq_true rfl) ⟨Nat.le_of_ble_eq_true rfl, Nat.le_of_ble_eq_true rfl⟩ dL_law_169 (fun H locs Y => ?_)
  refine lv_aload_n hx hb dL_law_172 rfl (lv_at hl 2 rfl) ?_
  refine bLB (As := []) (rest := [.int v]) (ci := 8) X Y hB hpB gL_law_X8_fault rfl hr3 hdl_X8_fault ⟨by show rm'.frames + 1 ≤ 10; omega, by show 8 + (1 + 11) + rm'.locals ≤ 356; omega⟩ rfl rfl hgs rfl rfl hl.1 (Nat.le_of_ble_eq_true rfl) ⟨Nat.le_of_ble_eq_true rfl, Nat.le_of_ble_eq_true rfl⟩ dL_law_173 (fun H locs Y => ?_)
  refine lv_icmp_eq (tgt := 735) hx hb dL_law_176 (by decide) (fun _ => ?_) (fun c_ => absurd rfl c_)
  exact nx wa' wb' H locs ls hI' Y hl
theorem hdl_X7_lay : bD1 yX7_lay RX7 0 := by decide +kernel
theorem hdl_X8_lay : bD1 yX8_lay RX8 0 := by decide +kernel
set_option maxHeartbeats 4000000 in
theorem arm_3 (X : bX p s m #[Value.ref b] c cL_law 4 wsL_law RL D cyC cyI) (hX : va_X b L xs s s.heap) (hbl : b < s.heap.size) (hL : L ≤ 2048) (hi : i + 4 ≤ L) (Y : bY D (fun q : Nat => s.heap.size ≤ q) s.heap (wa ++ wb) H locs) (hI : Inv cyC cyI Q K wa wb) (hl : lv_has ls 4 [(0, .ref b), (1, .ref (Q 0)), (2, .ref (K 0)), (3, .int (nI i))]) (nx : Nx p l e s m below meth c Z b D cyC cyI Q K i) : W p l e room_1 s m #[Value.ref b] below meth c H locs 69 6199 Z (F0 m 181 ls []) := by
  have hx := X.1.1
  have hb := X.1.2.1
  have hbA : ¬ (fun q : Nat => s.heap.size ≤ q) b := Nat.not_le.mpr hbl
  obtain ⟨v, wa', wb', ⟨rm, hr1, hr2, hA, hpA⟩, ⟨rm', hr3, hr4, hB, hpB⟩, hI'⟩ := sim_lay l D cyC cyI Q K wa wb hI
  obtain ⟨fs, hfs⟩ := hI.headA
  obtain ⟨gs, hgs⟩ := hI.headB
  refine lv_aload_n hx hb dL_law_181 rfl (lv_at hl 1 rfl) ?_
  refine bLA (As := []) (rest := []) (ci := 7) X Y hA hpA gL_law_X7_lay rfl hr1 hdl_X7_lay ⟨by show rm.frames + 1 ≤ 10; omega, by show 8 + (2 + 11) + rm.locals ≤ 356; omega⟩ rfl rfl hfs rfl rfl hl.1 (Nat.le_of_ble_eq_true rfl) ⟨Nat.le_of_ble_eq_true rfl, Nat.le_of_ble_eq_true rfl⟩ dL_law_182 (fun H locs Y => ?_)
  refine lv_aload_n hx hb dL_law_185 rfl (lv_at hl 2 rfl) ?_
  refine bLB (As := []) (rest := [.int v]) (ci := 8) X Y hB hpB gL_law_X8_lay rfl hr3 hdl_X8_lay ⟨by show rm'.frames + 1 ≤ 10; omega, by show 8 + (4 + 11) + rm'.locals ≤ 356; omega⟩ rfl rfl hgs rfl rfl hl.1 (Nat.le_of_ble_eq_true rfl) ⟨Nat.le_of_ble_eq_true rfl, Nat.le_of_ble_eq_true rfl⟩ dL_law_186 (fun H locs Y => ?_)
  refine lv_icmp_eq (tgt := 735) hx hb dL_law_189 (by decide) (fun _ => ?_) (fun c_ => absurd rfl c_)
  exact nx wa' wb' H locs ls hI' Y hl
theorem hdl_X7_command : bD1 yX7_command RX7 2 := by decide +kernel
theorem hdl_X8_command : bD1 yX8_command RX8 2 := by decide +kernel
set_option maxHeartbeats 4000000 in
theorem arm_4 (X : bX p s m #[Value.ref b] c cL_law 4 wsL_law RL D cyC cyI) (hX : va_X b L xs s s.heap) (hbl : b < s.heap.size) (hL : L ≤ 2048) (hi : i + 4 ≤ L) (Y : bY D (fun q : Nat => s.heap.size ≤ q) s.heap (wa ++ wb) H locs) (hI : Inv cyC cyI Q K wa wb) (hl : lv_has ls 4 [(0, .ref b), (1, .ref (Q 0)), (2, .ref (K 0)), (3, .int (nI i))]) (nx : Nx p l e s m below meth c Z b D cyC cyI Q K i) : W p l e room_1 s m #[Value.ref b] below meth c H locs 69 6199 Z (F0 m 194 ls []) := by
  have hx := X.1.1
  have hb := X.1.2.1
  have hbA : ¬ (fun q : Nat => s.heap.size ≤ q) b := Nat.not_le.mpr hbl
  obtain ⟨v, wa', wb', ⟨rm, hr1, hr2, hA, hpA⟩, ⟨rm', hr3, hr4, hB, hpB⟩, hI'⟩ := sim_command_all l D cyC cyI Q K (xs (nI (i + 1)).toNatClampNeg) (xs (nI (i + 2)).toNatClampNeg) wa wb hI
  obtain ⟨fs, hfs⟩ := hI.headA
  obtain ⟨gs, hgs⟩ := hI.headB
  refine lv_aload_n hx hb dL_law_194 rfl (lv_at hl 1 rfl) ?_
  refine lv_aload_n hx hb dL_law_195 rfl (lv_at hl 0 rfl) ?_
  refine lv_iload_n hx hb dL_law_196 rfl (lv_at hl 3 rfl) ?_
  refine lv_iconst (v := 1) hx hb dL_law_197 (by decide) ?_
  refine bAdd (v := nI (i + 1)) X dL_law_198 (nI_sum (a := i) (b := 1) rfl rfl rfl) ?_
  refine va_sld hx hb hX hbl hbA Y.2.2.1 (bIn (by omega) (by omega)) dL_law_199 ?_
  refine lv_aload_n hx hb dL_law_200 rfl (lv_at hl 0 rfl) ?_
  refine lv_iload_n hx hb dL_law_201 rfl (lv_at hl 3 rfl) ?_
  refine lv_iconst (v := 2) hx hb dL_law_202 (by decide) ?_
  refine bAdd (v := nI (i + 2)) X dL_law_203 (nI_sum (a := i) (b := 2) rfl rfl rfl) ?_
  refine va_sld hx hb hX hbl hbA Y.2.2.1 (bIn (by omega) (by omega)) dL_law_204 ?_
  refine bLA (As := [.int (xs (nI (i + 1)).toNatClampNeg), .int (xs (nI (i + 2)).toNatClampNeg)]) (rest := []) (ci := 7) X Y hA hpA gL_law_X7_command rfl hr1 hdl_X7_command ⟨by show rm.frames + 1 ≤ 10; omega, by show 8 + (3 + 11) + rm.locals ≤ 356; omega⟩ rfl rfl hfs rfl rfl hl.1 (Nat.le_of_ble_eq_true rfl) ⟨Nat.le_of_ble_eq_true rfl, Nat.le_of_ble_eq_true rfl⟩ dL_law_205 (fun H locs Y => ?_)
  refine lv_aload_n hx hb dL_law_208 rfl (lv_at hl 2 rfl) ?_
  refine lv_aload_n hx hb dL_law_209 rfl (lv_at hl 0 rfl) ?_
  refine lv_iload_n hx hb dL_law_210 rfl (lv_at hl 3 rfl) ?_
  refine lv_iconst (v := 1) hx hb dL_law_211 (by decide) ?_
  refine bAdd (v := nI (i + 1)) X dL_law_212 (nI_sum (a := i) (b := 1) rfl rfl rfl) ?_
  refine va_sld hx hb hX hbl hbA Y.2.2.1 (bIn (by omega) (by omega)) dL_law_213 ?_
  refine lv_aload_n hx hb dL_law_214 rfl (lv_at hl 0 rfl) ?_
  refine lv_iload_n hx hb dL_law_215 rfl (lv_at hl 3 rfl) ?_
  refine lv_iconst (v := 2) hx hb dL_law_216 (by decide) ?_
  refine bAdd (v := nI (i + 2)) X dL_law_217 (nI_sum (a := i) (b := 2) rfl rfl rfl) ?_
  refine va_sld hx hb hX hbl hbA Y.2.2.1 (bIn (by omega) (by omega)) dL_law_218 ?_
  refine bLB (As := [.int (xs (nI (i + 1)).toNatClampNeg), .int (xs (nI (i + 2)).toNatClampNeg)]) (rest := [.int v]) (ci := 8) X Y hB hpB gL_law_X8_command rfl hr3 hdl_X8_command ⟨by show rm'.frames + 1 ≤ 10; omega, by show 8 + (3 + 11) + rm'.locals ≤ 356; omega⟩ rfl rfl hgs rfl rfl hl.1 (Nat.le_of_ble_eq_true rfl) ⟨Nat.le_of_ble_eq_true rfl, Nat.le_of_ble_eq_true rfl⟩ dL_law_219 (fun H locs Y => ?_)
  refine lv_icmp_eq (tgt := 735) hx hb dL_law_222 (by decide) (fun _ => ?_) (fun c_ => absurd rfl c_)
  exact nx wa' wb' H locs ls hI' Y hl
theorem hdl_X7_shape : bD1 yX7_shape RX7 3 := by decide +kernel
theorem hdl_X8_shape : bD1 yX8_shape RX8 3 := by decide +kernel
set_option maxHeartbeats 4000000 in
theorem arm_5 (X : bX p s m #[Value.ref b] c cL_law 4 wsL_law RL D cyC cyI) (hX : va_X b L xs s s.heap) (hbl : b < s.heap.size) (hL : L ≤ 2048) (hi : i + 4 ≤ L) (Y : bY D (fun q : Nat => s.heap.size ≤ q) s.heap (wa ++ wb) H locs) (hI : Inv cyC cyI Q K wa wb) (hl : lv_has ls 4 [(0, .ref b), (1, .ref (Q 0)), (2, .ref (K 0)), (3, .int (nI i))]) (nx : Nx p l e s m below meth c Z b D cyC cyI Q K i) : W p l e room_1 s m #[Value.ref b] below meth c H locs 69 6199 Z (F0 m 227 ls []) := by
  have hx := X.1.1
  have hb := X.1.2.1
  have hbA : ¬ (fun q : Nat => s.heap.size ≤ q) b := Nat.not_le.mpr hbl
  obtain ⟨v, wa', wb', ⟨rm, hr1, hr2, hA, hpA⟩, ⟨rm', hr3, hr4, hB, hpB⟩, hI'⟩ := sim_shape_all l D cyC cyI Q K (xs (nI (i + 1)).toNatClampNeg) (xs (nI (i + 2)).toNatClampNeg) (xs (nI (i + 3)).toNatClampNeg) wa wb hI
  obtain ⟨fs, hfs⟩ := hI.headA
  obtain ⟨gs, hgs⟩ := hI.headB
  refine lv_aload_n hx hb dL_law_227 rfl (lv_at hl 1 rfl) ?_
  refine lv_aload_n hx hb dL_law_228 rfl (lv_at hl 0 rfl) ?_
  refine lv_iload_n hx hb dL_law_229 rfl (lv_at hl 3 rfl) ?_
  refine lv_iconst (v := 1) hx hb dL_law_230 (by decide) ?_
  refine bAdd (v := nI (i + 1)) X dL_law_231 (nI_sum (a := i) (b := 1) rfl rfl rfl) ?_
  refine va_sld hx hb hX hbl hbA Y.2.2.1 (bIn (by omega) (by omega)) dL_law_232 ?_
  refine lv_aload_n hx hb dL_law_233 rfl (lv_at hl 0 rfl) ?_
  refine lv_iload_n hx hb dL_law_234 rfl (lv_at hl 3 rfl) ?_
  refine lv_iconst (v := 2) hx hb dL_law_235 (by decide) ?_
  refine bAdd (v := nI (i + 2)) X dL_law_236 (nI_sum (a := i) (b := 2) rfl rfl rfl) ?_
  refine va_sld hx hb hX hbl hbA Y.2.2.1 (bIn (by omega) (by omega)) dL_law_237 ?_
  refine lv_aload_n hx hb dL_law_238 rfl (lv_at hl 0 rfl) ?_
  refine lv_iload_n hx hb dL_law_239 rfl (lv_at hl 3 rfl) ?_
  refine lv_iconst (v := 3) hx hb dL_law_240 (by decide) ?_
  refine bAdd (v := nI (i + 3)) X dL_law_241 (nI_sum (a := i) (b := 3) rfl rfl rfl) ?_
  refine va_sld hx hb hX hbl hbA Y.2.2.1 (bIn (by omega) (by omega)) dL_law_242 ?_
  refine bLA (As := [.int (xs (nI (i + 1)).toNatClampNeg), .int (xs (nI (i + 2)).toNatClampNeg), .int (xs (nI (i + 3)).toNatClampNeg)]) (rest := []) (ci := 7) X Y hA hpA gL_law_X7_shape rfl hr1 hdl_X7_shape ⟨by show rm.frames + 1 ≤ 10; omega, by show 8 + (4 + 11) + rm.locals ≤ 356; omega⟩ rfl rfl hfs rfl rfl hl.1 (Nat.le_of_ble_eq_true rfl) ⟨Nat.le_of_ble_eq_true rfl, Nat.le_of_ble_eq_true rfl⟩ dL_law_243 (fun H locs Y => ?_)
  refine lv_aload_n hx hb dL_law_246 rfl (lv_at hl 2 rfl) ?_
  refine lv_aload_n hx hb dL_law_247 rfl (lv_at hl 0 rfl) ?_
  refine lv_iload_n hx hb dL_law_248 rfl (lv_at hl 3 rfl) ?_
  refine lv_iconst (v := 1) hx hb dL_law_249 (by decide) ?_
  refine bAdd (v := nI (i + 1)) X dL_law_250 (nI_sum (a := i) (b := 1) rfl rfl rfl) ?_
  refine va_sld hx hb hX hbl hbA Y.2.2.1 (bIn (by omega) (by omega)) dL_law_251 ?_
  refine lv_aload_n hx hb dL_law_252 rfl (lv_at hl 0 rfl) ?_
  refine lv_iload_n hx hb dL_law_253 rfl (lv_at hl 3 rfl) ?_
  refine lv_iconst (v := 2) hx hb dL_law_254 (by decide) ?_
  refine bAdd (v := nI (i + 2)) X dL_law_255 (nI_sum (a := i) (b := 2) rfl rfl rfl) ?_
  refine va_sld hx hb hX hbl hbA Y.2.2.1 (bIn (by omega) (by omega)) dL_law_256 ?_
  refine lv_aload_n hx hb dL_law_257 rfl (lv_at hl 0 rfl) ?_
  refine lv_iload_n hx hb dL_law_258 rfl (lv_at hl 3 rfl) ?_
  refine lv_iconst (v := 3) hx hb dL_law_259 (by decide) ?_
  refine bAdd (v := nI (i + 3)) X dL_law_260 (nI_sum (a := i) (b := 3) rfl rfl rfl) ?_
  refine va_sld hx hb hX hbl hbA Y.2.2.1 (bIn (by omega) (by omega)) dL_law_261 ?_
  refine bLB (As := [.int (xs (nI (i + 1)).toNatClampNeg), .int (xs (nI (i + 2)).toNatClampNeg), .int (xs (nI (i + 3)).toNatClampNeg)]) (rest := [.int v]) (ci := 8) X Y hB hpB gL_law_X8_shape rfl hr3 hdl_X8_shape ⟨by show rm'.frames + 1 ≤ 10; omega, by show 8 + (4 + 11) + rm'.locals ≤ 356; omega⟩ rfl rfl hgs rfl rfl hl.1 (Nat.le_of_ble_eq_true rfl) ⟨Nat.le_of_ble_eq_true rfl, Nat.le_of_ble_eq_true rfl⟩ dL_law_262 (fun H locs Y => ?_)
  refine lv_icmp_eq (tgt := 735) hx hb dL_law_265 (by decide) (fun _ => ?_) (fun c_ => absurd rfl c_)
  exact nx wa' wb' H locs ls hI' Y hl
theorem hdl_X7_target : bD1 yX7_target RX7 2 := by decide +kernel
theorem hdl_X8_target : bD1 yX8_target RX8 2 := by decide +kernel
set_option maxHeartbeats 4000000 in
theorem arm_6 (X : bX p s m #[Value.ref b] c cL_law 4 wsL_law RL D cyC cyI) (hX : va_X b L xs s s.heap) (hbl : b < s.heap.size) (hL : L ≤ 2048) (hi : i + 4 ≤ L) (Y : bY D (fun q : Nat => s.heap.size ≤ q) s.heap (wa ++ wb) H locs) (hI : Inv cyC cyI Q K wa wb) (hl : lv_has ls 4 [(0, .ref b), (1, .ref (Q 0)), (2, .ref (K 0)), (3, .int (nI i))]) (nx : Nx p l e s m below meth c Z b D cyC cyI Q K i) : W p l e room_1 s m #[Value.ref b] below meth c H locs 69 6199 Z (F0 m 270 ls []) := by
  have hx := X.1.1
  have hb := X.1.2.1
  have hbA : ¬ (fun q : Nat => s.heap.size ≤ q) b := Nat.not_le.mpr hbl
  obtain ⟨v, wa', wb', ⟨rm, hr1, hr2, hA, hpA⟩, ⟨rm', hr3, hr4, hB, hpB⟩, hI'⟩ := sim_target_all l D cyC cyI Q K (xs (nI (i + 1)).toNatClampNeg) (xs (nI (i + 2)).toNatClampNeg) wa wb hI
  obtain ⟨fs, hfs⟩ := hI.headA
  obtain ⟨gs, hgs⟩ := hI.headB
  refine lv_aload_n hx hb dL_law_270 rfl (lv_at hl 1 rfl) ?_
  refine lv_aload_n hx hb dL_law_271 rfl (lv_at hl 0 rfl) ?_
  refine lv_iload_n hx hb dL_law_272 rfl (lv_at hl 3 rfl) ?_
  refine lv_iconst (v := 1) hx hb dL_law_273 (by decide) ?_
  refine bAdd (v := nI (i + 1)) X dL_law_274 (nI_sum (a := i) (b := 1) rfl rfl rfl) ?_
  refine va_sld hx hb hX hbl hbA Y.2.2.1 (bIn (by omega) (by omega)) dL_law_275 ?_
  refine lv_aload_n hx hb dL_law_276 rfl (lv_at hl 0 rfl) ?_
  refine lv_iload_n hx hb dL_law_277 rfl (lv_at hl 3 rfl) ?_
  refine lv_iconst (v := 2) hx hb dL_law_278 (by decide) ?_
  refine bAdd (v := nI (i + 2)) X dL_law_279 (nI_sum (a := i) (b := 2) rfl rfl rfl) ?_
  refine va_sld hx hb hX hbl hbA Y.2.2.1 (bIn (by omega) (by omega)) dL_law_280 ?_
  refine bLA (As := [.int (xs (nI (i + 1)).toNatClampNeg), .int (xs (nI (i + 2)).toNatClampNeg)]) (rest := []) (ci := 7) X Y hA hpA gL_law_X7_target rfl hr1 hdl_X7_target ⟨by show rm.frames + 1 ≤ 10; omega, by show 8 + (4 + 11) + rm.locals ≤ 356; omega⟩ rfl rfl hfs rfl rfl hl.1 (Nat.le_of_ble_eq_true rfl) ⟨Nat.le_of_ble_eq_true rfl, Nat.le_of_ble_eq_true rfl⟩ dL_law_281 (fun H locs Y => ?_)
  refine lv_aload_n hx hb dL_law_284 rfl (lv_at hl 2 rfl) ?_
  refine lv_aload_n hx hb dL_law_285 rfl (lv_at hl 0 rfl) ?_
  refine lv_iload_n hx hb dL_law_286 rfl (lv_at hl 3 rfl) ?_
  refine lv_iconst (v := 1) hx hb dL_law_287 (by decide) ?_
  refine bAdd (v := nI (i + 1)) X dL_law_288 (nI_sum (a := i) (b := 1) rfl rfl rfl) ?_
  refine va_sld hx hb hX hbl hbA Y.2.2.1 (bIn (by omega) (by omega)) dL_law_289 ?_
  refine lv_aload_n hx hb dL_law_290 rfl (lv_at hl 0 rfl) ?_
  refine lv_iload_n hx hb dL_law_291 rfl (lv_at hl 3 rfl) ?_
  refine lv_iconst (v := 2) hx hb dL_law_292 (by decide) ?_
  refine bAdd (v := nI (i + 2)) X dL_law_293 (nI_sum (a := i) (b := 2) rfl rfl rfl) ?_
  refine va_sld hx hb hX hbl hbA Y.2.2.1 (bIn (by omega) (by omega)) dL_law_294 ?_
  refine bLB (As := [.int (xs (nI (i + 1)).toNatClampNeg), .int (xs (nI (i + 2)).toNatClampNeg)]) (rest := [.int v]) (ci := 8) X Y hB hpB gL_law_X8_target rfl hr3 hdl_X8_target ⟨by show rm'.frames + 1 ≤ 10; omega, by show 8 + (6 + 11) + rm'.locals ≤ 356; omega⟩ rfl rfl hgs rfl rfl hl.1 (Nat.le_of_ble_eq_true rfl) ⟨Nat.le_of_ble_eq_true rfl, Nat.le_of_ble_eq_true rfl⟩ dL_law_295 (fun H locs Y => ?_)
  refine lv_icmp_eq (tgt := 735) hx hb dL_law_298 (by decide) (fun _ => ?_) (fun c_ => absurd rfl c_)
  exact nx wa' wb' H locs ls hI' Y hl
theorem hdl_X7_load : bD1 yX7_load RX7 2 := by decide +kernel
theorem hdl_X8_load : bD1 yX8_load RX8 2 := by decide +kernel
set_option maxHeartbeats 4000000 in
theorem arm_7 (X : bX p s m #[Value.ref b] c cL_law 4 wsL_law RL D cyC cyI) (hX : va_X b L xs s s.heap) (hbl : b < s.heap.size) (hL : L ≤ 2048) (hi : i + 4 ≤ L) (Y : bY D (fun q : Nat => s.heap.size ≤ q) s.heap (wa ++ wb) H locs) (hI : Inv cyC cyI Q K wa wb) (hl : lv_has ls 4 [(0, .ref b), (1, .ref (Q 0)), (2, .ref (K 0)), (3, .int (nI i))]) (nx : Nx p l e s m below meth c Z b D cyC cyI Q K i) : W p l e room_1 s m #[Value.ref b] below meth c H locs 69 6199 Z (F0 m 303 ls []) := by
  have hx := X.1.1
  have hb := X.1.2.1
  have hbA : ¬ (fun q : Nat => s.heap.size ≤ q) b := Nat.not_le.mpr hbl
  obtain ⟨v, wa', wb', ⟨rm, hr1, hr2, hA, hpA⟩, ⟨rm', hr3, hr4, hB, hpB⟩, hI'⟩ := sim_load_all l D cyC cyI Q K (xs (nI (i + 1)).toNatClampNeg) (xs (nI (i + 2)).toNatClampNeg) wa wb hI
  obtain ⟨fs, hfs⟩ := hI.headA
  obtain ⟨gs, hgs⟩ := hI.headB
  refine lv_aload_n hx hb dL_law_303 rfl (lv_at hl 1 rfl) ?_
  refine lv_aload_n hx hb dL_law_304 rfl (lv_at hl 0 rfl) ?_
  refine lv_iload_n hx hb dL_law_305 rfl (lv_at hl 3 rfl) ?_
  refine lv_iconst (v := 1) hx hb dL_law_306 (by decide) ?_
  refine bAdd (v := nI (i + 1)) X dL_law_307 (nI_sum (a := i) (b := 1) rfl rfl rfl) ?_
  refine va_sld hx hb hX hbl hbA Y.2.2.1 (bIn (by omega) (by omega)) dL_law_308 ?_
  refine lv_aload_n hx hb dL_law_309 rfl (lv_at hl 0 rfl) ?_
  refine lv_iload_n hx hb dL_law_310 rfl (lv_at hl 3 rfl) ?_
  refine lv_iconst (v := 2) hx hb dL_law_311 (by decide) ?_
  refine bAdd (v := nI (i + 2)) X dL_law_312 (nI_sum (a := i) (b := 2) rfl rfl rfl) ?_
  refine va_sld hx hb hX hbl hbA Y.2.2.1 (bIn (by omega) (by omega)) dL_law_313 ?_
  refine bLA (As := [.int (xs (nI (i + 1)).toNatClampNeg), .int (xs (nI (i + 2)).toNatClampNeg)]) (rest := []) (ci := 7) X Y hA hpA gL_law_X7_load rfl hr1 hdl_X7_load ⟨by show rm.frames + 1 ≤ 10; omega, by show 8 + (4 + 11) + rm.locals ≤ 356; omega⟩ rfl rfl hfs rfl rfl hl.1 (Nat.le_of_ble_eq_true rfl) ⟨Nat.le_of_ble_eq_true rfl, Nat.le_of_ble_eq_true rfl⟩ dL_law_314 (fun H locs Y => ?_)
  refine lv_aload_n hx hb dL_law_317 rfl (lv_at hl 2 rfl) ?_
  refine lv_aload_n hx hb dL_law_318 rfl (lv_at hl 0 rfl) ?_
  refine lv_iload_n hx hb dL_law_319 rfl (lv_at hl 3 rfl) ?_
  refine lv_iconst (v := 1) hx hb dL_law_320 (by decide) ?_
  refine bAdd (v := nI (i + 1)) X dL_law_321 (nI_sum (a := i) (b := 1) rfl rfl rfl) ?_
  refine va_sld hx hb hX hbl hbA Y.2.2.1 (bIn (by omega) (by omega)) dL_law_322 ?_
  refine lv_aload_n hx hb dL_law_323 rfl (lv_at hl 0 rfl) ?_
  refine lv_iload_n hx hb dL_law_324 rfl (lv_at hl 3 rfl) ?_
  refine lv_iconst (v := 2) hx hb dL_law_325 (by decide) ?_
  refine bAdd (v := nI (i + 2)) X dL_law_326 (nI_sum (a := i) (b := 2) rfl rfl rfl) ?_
  refine va_sld hx hb hX hbl hbA Y.2.2.1 (bIn (by omega) (by omega)) dL_law_327 ?_
  refine bLB (As := [.int (xs (nI (i + 1)).toNatClampNeg), .int (xs (nI (i + 2)).toNatClampNeg)]) (rest := [.int v]) (ci := 8) X Y hB hpB gL_law_X8_load rfl hr3 hdl_X8_load ⟨by show rm'.frames + 1 ≤ 10; omega, by show 8 + (4 + 11) + rm'.locals ≤ 356; omega⟩ rfl rfl hgs rfl rfl hl.1 (Nat.le_of_ble_eq_true rfl) ⟨Nat.le_of_ble_eq_true rfl, Nat.le_of_ble_eq_true rfl⟩ dL_law_328 (fun H locs Y => ?_)
  refine lv_icmp_eq (tgt := 735) hx hb dL_law_331 (by decide) (fun _ => ?_) (fun c_ => absurd rfl c_)
  exact nx wa' wb' H locs ls hI' Y hl
theorem hdl_X7_couple : bD1 yX7_couple RX7 1 := by decide +kernel
theorem hdl_X8_couple : bD1 yX8_couple RX8 1 := by decide +kernel
set_option maxHeartbeats 4000000 in
theorem arm_8 (X : bX p s m #[Value.ref b] c cL_law 4 wsL_law RL D cyC cyI) (hX : va_X b L xs s s.heap) (hbl : b < s.heap.size) (hL : L ≤ 2048) (hi : i + 4 ≤ L) (Y : bY D (fun q : Nat => s.heap.size ≤ q) s.heap (wa ++ wb) H locs) (hI : Inv cyC cyI Q K wa wb) (hl : lv_has ls 4 [(0, .ref b), (1, .ref (Q 0)), (2, .ref (K 0)), (3, .int (nI i))]) (nx : Nx p l e s m below meth c Z b D cyC cyI Q K i) : W p l e room_1 s m #[Value.ref b] below meth c H locs 69 6199 Z (F0 m 336 ls []) := by
  have hx := X.1.1
  have hb := X.1.2.1
  have hbA : ¬ (fun q : Nat => s.heap.size ≤ q) b := Nat.not_le.mpr hbl
  obtain ⟨v, wa', wb', ⟨rm, hr1, hr2, hA, hpA⟩, ⟨rm', hr3, hr4, hB, hpB⟩, hI'⟩ := sim_couple l D cyC cyI Q K (xs (nI (i + 1)).toNatClampNeg) wa wb hI
  obtain ⟨fs, hfs⟩ := hI.headA
  obtain ⟨gs, hgs⟩ := hI.headB
  refine lv_aload_n hx hb dL_law_336 rfl (lv_at hl 1 rfl) ?_
  refine lv_aload_n hx hb dL_law_337 rfl (lv_at hl 0 rfl) ?_
  refine lv_iload_n hx hb dL_law_338 rfl (lv_at hl 3 rfl) ?_
  refine lv_iconst (v := 1) hx hb dL_law_339 (by decide) ?_
  refine bAdd (v := nI (i + 1)) X dL_law_340 (nI_sum (a := i) (b := 1) rfl rfl rfl) ?_
  refine va_sld hx hb hX hbl hbA Y.2.2.1 (bIn (by omega) (by omega)) dL_law_341 ?_
  refine bLA (As := [.int (xs (nI (i + 1)).toNatClampNeg)]) (rest := []) (ci := 7) X Y hA hpA gL_law_X7_couple rfl hr1 hdl_X7_couple ⟨by show rm.frames + 1 ≤ 10; omega, by show 8 + (4 + 11) + rm.locals ≤ 356; omega⟩ rfl rfl hfs rfl rfl hl.1 (Nat.le_of_ble_eq_true rfl) ⟨Nat.le_of_ble_eq_true rfl, Nat.le_of_ble_eq_true rfl⟩ dL_law_342 (fun H locs Y => ?_)
  refine lv_aload_n hx hb dL_law_345 rfl (lv_at hl 2 rfl) ?_
  refine lv_aload_n hx hb dL_law_346 rfl (lv_at hl 0 rfl) ?_
  refine lv_iload_n hx hb dL_law_347 rfl (lv_at hl 3 rfl) ?_
  refine lv_iconst (v := 1) hx hb dL_law_348 (by decide) ?_
  refine bAdd (v := nI (i + 1)) X dL_law_349 (nI_sum (a := i) (b := 1) rfl rfl rfl) ?_
  refine va_sld hx hb hX hbl hbA Y.2.2.1 (bIn (by omega) (by omega)) dL_law_350 ?_
  refine bLB (As := [.int (xs (nI (i + 1)).toNatClampNeg)]) (rest := [.int v]) (ci := 8) X Y hB hpB gL_law_X8_couple rfl hr3 hdl_X8_couple ⟨by show rm'.frames + 1 ≤ 10; omega, by show 8 + (4 + 11) + rm'.locals ≤ 356; omega⟩ rfl rfl hgs rfl rfl hl.1 (Nat.le_of_ble_eq_true rfl) ⟨Nat.le_of_ble_eq_true rfl, Nat.le_of_ble_eq_true rfl⟩ dL_law_351 (fun H locs Y => ?_)
  refine lv_icmp_eq (tgt := 735) hx hb dL_law_354 (by decide) (fun _ => ?_) (fun c_ => absurd rfl c_)
  exact nx wa' wb' H locs ls hI' Y hl
theorem hdl_X7_tick : bD1 yX7_tick RX7 1 := by decide +kernel
theorem hdl_X8_tick : bD1 yX8_tick RX8 1 := by decide +kernel
set_option maxHeartbeats 4000000 in
theorem arm_9 (X : bX p s m #[Value.ref b] c cL_law 4 wsL_law RL D cyC cyI) (hX : va_X b L xs s s.heap) (hbl : b < s.heap.size) (hL : L ≤ 2048) (hi : i + 4 ≤ L) (Y : bY D (fun q : Nat => s.heap.size ≤ q) s.heap (wa ++ wb) H locs) (hI : Inv cyC cyI Q K wa wb) (hl : lv_has ls 4 [(0, .ref b), (1, .ref (Q 0)), (2, .ref (K 0)), (3, .int (nI i))]) (nx : Nx p l e s m below meth c Z b D cyC cyI Q K i) : W p l e room_1 s m #[Value.ref b] below meth c H locs 69 6199 Z (F0 m 359 ls []) := by
  have hx := X.1.1
  have hb := X.1.2.1
  have hbA : ¬ (fun q : Nat => s.heap.size ≤ q) b := Nat.not_le.mpr hbl
  obtain ⟨v, wa', wb', ⟨rm, hr1, hr2, hA, hpA⟩, ⟨rm', hr3, hr4, hB, hpB⟩, hI'⟩ := sim_tick l D cyC cyI Q K (xs (nI (i + 1)).toNatClampNeg) wa wb hI
  obtain ⟨fs, hfs⟩ := hI.headA
  obtain ⟨gs, hgs⟩ := hI.headB
  refine lv_aload_n hx hb dL_law_359 rfl (lv_at hl 1 rfl) ?_
  refine lv_aload_n hx hb dL_law_360 rfl (lv_at hl 0 rfl) ?_
  refine lv_iload_n hx hb dL_law_361 rfl (lv_at hl 3 rfl) ?_
  refine lv_iconst (v := 1) hx hb dL_law_362 (by decide) ?_
  refine bAdd (v := nI (i + 1)) X dL_law_363 (nI_sum (a := i) (b := 1) rfl rfl rfl) ?_
  refine va_sld hx hb hX hbl hbA Y.2.2.1 (bIn (by omega) (by omega)) dL_law_364 ?_
  refine bLA (As := [.int (xs (nI (i + 1)).toNatClampNeg)]) (rest := []) (ci := 7) X Y hA hpA gL_law_X7_tick rfl hr1 hdl_X7_tick ⟨by show rm.frames + 1 ≤ 10; omega, by show 8 + (4 + 11) + rm.locals ≤ 356; omega⟩ rfl rfl hfs rfl rfl hl.1 (Nat.le_of_ble_eq_true rfl) ⟨Nat.le_of_ble_eq_true rfl, Nat.le_of_ble_eq_true rfl⟩ dL_law_365 (fun H locs Y => ?_)
  refine lv_aload_n hx hb dL_law_368 rfl (lv_at hl 2 rfl) ?_
  refine lv_aload_n hx hb dL_law_369 rfl (lv_at hl 0 rfl) ?_
  refine lv_iload_n hx hb dL_law_370 rfl (lv_at hl 3 rfl) ?_
  refine lv_iconst (v := 1) hx hb dL_law_371 (by decide) ?_
  refine bAdd (v := nI (i + 1)) X dL_law_372 (nI_sum (a := i) (b := 1) rfl rfl rfl) ?_
  refine va_sld hx hb hX hbl hbA Y.2.2.1 (bIn (by omega) (by omega)) dL_law_373 ?_
  refine bLB (As := [.int (xs (nI (i + 1)).toNatClampNeg)]) (rest := [.int v]) (ci := 8) X Y hB hpB gL_law_X8_tick rfl hr3 hdl_X8_tick ⟨by show rm'.frames + 1 ≤ 10; omega, by show 8 + (5 + 11) + rm'.locals ≤ 356; omega⟩ rfl rfl hgs rfl rfl hl.1 (Nat.le_of_ble_eq_true rfl) ⟨Nat.le_of_ble_eq_true rfl, Nat.le_of_ble_eq_true rfl⟩ dL_law_374 (fun H locs Y => ?_)
  refine lv_icmp_eq (tgt := 735) hx hb dL_law_377 (by decide) (fun _ => ?_) (fun c_ => absurd rfl c_)
  exact nx wa' wb' H locs ls hI' Y hl
theorem hdl_X7_undo : bD1 yX7_undo RX7 0 := by decide +kernel
theorem hdl_X8_undo : bD1 yX8_undo RX8 0 := by decide +kernel
set_option maxHeartbeats 4000000 in
theorem arm_10 (X : bX p s m #[Value.ref b] c cL_law 4 wsL_law RL D cyC cyI) (hX : va_X b L xs s s.heap) (hbl : b < s.heap.size) (hL : L ≤ 2048) (hi : i + 4 ≤ L) (Y : bY D (fun q : Nat => s.heap.size ≤ q) s.heap (wa ++ wb) H locs) (hI : Inv cyC cyI Q K wa wb) (hl : lv_has ls 4 [(0, .ref b), (1, .ref (Q 0)), (2, .ref (K 0)), (3, .int (nI i))]) (nx : Nx p l e s m below meth c Z b D cyC cyI Q K i) : W p l e room_1 s m #[Value.ref b] below meth c H locs 69 6199 Z (F0 m 382 ls []) := by
  have hx := X.1.1
  have hb := X.1.2.1
  have hbA : ¬ (fun q : Nat => s.heap.size ≤ q) b := Nat.not_le.mpr hbl
  obtain ⟨v, wa', wb', ⟨rm, hr1, hr2, hA, hpA⟩, ⟨rm', hr3, hr4, hB, hpB⟩, hI'⟩ := sim_undo l D cyC cyI Q K wa wb hI
  obtain ⟨fs, hfs⟩ := hI.headA
  obtain ⟨gs, hgs⟩ := hI.headB
  refine lv_aload_n hx hb dL_law_382 rfl (lv_at hl 1 rfl) ?_
  refine bLA (As := []) (rest := []) (ci := 7) X Y hA hpA gL_law_X7_undo rfl hr1 hdl_X7_undo ⟨by show rm.frames + 1 ≤ 10; omega, by show 8 + (2 + 11) + rm.locals ≤ 356; omega⟩ rfl rfl hfs rfl rfl hl.1 (Nat.le_of_ble_eq_true rfl) ⟨Nat.le_of_ble_eq_true rfl, Nat.le_of_ble_eq_true rfl⟩ dL_law_383 (fun H locs Y => ?_)
  refine lv_aload_n hx hb dL_law_386 rfl (lv_at hl 2 rfl) ?_
  refine bLB (As := []) (rest := [.int v]) (ci := 8) X Y hB hpB gL_law_X8_undo rfl hr3 hdl_X8_undo ⟨by show rm'.frames + 1 ≤ 10; omega, by show 8 + (2 + 11) + rm'.locals ≤ 356; omega⟩ rfl rfl hgs rfl rfl hl.1 (Nat.le_of_ble_eq_true rfl) ⟨Nat.le_of_ble_eq_true rfl, Nat.le_of_ble_eq_true rfl⟩ dL_law_387 (fun H locs Y => ?_)
  refine lv_icmp_eq (tgt := 735) hx hb dL_law_390 (by decide) (fun _ => ?_) (fun c_ => absurd rfl c_)
  exact nx wa' wb' H locs ls hI' Y hl
theorem hdl_X7_crane : bD1 yX7_crane RX7 2 := by decide +kernel
theorem hdl_X8_crane : bD1 yX8_crane RX8 2 := by decide +kernel
set_option maxHeartbeats 4000000 in
theorem arm_11 (X : bX p s m #[Value.ref b] c cL_law 4 wsL_law RL D cyC cyI) (hX : va_X b L xs s s.heap) (hbl : b < s.heap.size) (hL : L ≤ 2048) (hi : i + 4 ≤ L) (Y : bY D (fun q : Nat => s.heap.size ≤ q) s.heap (wa ++ wb) H locs) (hI : Inv cyC cyI Q K wa wb) (hl : lv_has ls 4 [(0, .ref b), (1, .ref (Q 0)), (2, .ref (K 0)), (3, .int (nI i))]) (nx : Nx p l e s m below meth c Z b D cyC cyI Q K i) : W p l e room_1 s m #[Value.ref b] below meth c H locs 69 6199 Z (F0 m 395 ls []) := by
  have hx := X.1.1
  have hb := X.1.2.1
  have hbA : ¬ (fun q : Nat => s.heap.size ≤ q) b := Nat.not_le.mpr hbl
  obtain ⟨v, wa', wb', ⟨rm, hr1, hr2, hA, hpA⟩, ⟨rm', hr3, hr4, hB, hpB⟩, hI'⟩ := sim_crane_all l D cyC cyI Q K (xs (nI (i + 1)).toNatClampNeg) (xs (nI (i + 2)).toNatClampNeg) wa wb hI
  obtain ⟨fs, hfs⟩ := hI.headA
  obtain ⟨gs, hgs⟩ := hI.headB
  refine lv_aload_n hx hb dL_law_395 rfl (lv_at hl 1 rfl) ?_
  refine lv_aload_n hx hb dL_law_396 rfl (lv_at hl 0 rfl) ?_
  refine lv_iload_n hx hb dL_law_397 rfl (lv_at hl 3 rfl) ?_
  refine lv_iconst (v := 1) hx hb dL_law_398 (by decide) ?_
  refine bAdd (v := nI (i + 1)) X dL_law_399 (nI_sum (a := i) (b := 1) rfl rfl rfl) ?_
  refine va_sld hx hb hX hbl hbA Y.2.2.1 (bIn (by omega) (by omega)) dL_law_400 ?_
  refine lv_aload_n hx hb dL_law_401 rfl (lv_at hl 0 rfl) ?_
  refine lv_iload_n hx hb dL_law_402 rfl (lv_at hl 3 rfl) ?_
  refine lv_iconst (v := 2) hx hb dL_law_403 (by decide) ?_
  refine bAdd (v := nI (i + 2)) X dL_law_404 (nI_sum (a := i) (b := 2) rfl rfl rfl) ?_
  refine va_sld hx hb hX hbl hbA Y.2.2.1 (bIn (by omega) (by omega)) dL_law_405 ?_
  refine bLA (As := [.int (xs (nI (i + 1)).toNatClampNeg), .int (xs (nI (i + 2)).toNatClampNeg)]) (rest := []) (ci := 7) X Y hA hpA gL_law_X7_crane rfl hr1 hdl_X7_crane ⟨by show rm.frames + 1 ≤ 10; omega, by show 8 + (4 + 11) + rm.locals ≤ 356; omega⟩ rfl rfl hfs rfl rfl hl.1 (Nat.le_of_ble_eq_true rfl) ⟨Nat.le_of_ble_eq_true rfl, Nat.le_of_ble_eq_true rfl⟩ dL_law_406 (fun H locs Y => ?_)
  refine lv_aload_n hx hb dL_law_409 rfl (lv_at hl 2 rfl) ?_
  refine lv_aload_n hx hb dL_law_410 rfl (lv_at hl 0 rfl) ?_
  refine lv_iload_n hx hb dL_law_411 rfl (lv_at hl 3 rfl) ?_
  refine lv_iconst (v := 1) hx hb dL_law_412 (by decide) ?_
  refine bAdd (v := nI (i + 1)) X dL_law_413 (nI_sum (a := i) (b := 1) rfl rfl rfl) ?_
  refine va_sld hx hb hX hbl hbA Y.2.2.1 (bIn (by omega) (by omega)) dL_law_414 ?_
  refine lv_aload_n hx hb dL_law_415 rfl (lv_at hl 0 rfl) ?_
  refine lv_iload_n hx hb dL_law_416 rfl (lv_at hl 3 rfl) ?_
  refine lv_iconst (v := 2) hx hb dL_law_417 (by decide) ?_
  refine bAdd (v := nI (i + 2)) X dL_law_418 (nI_sum (a := i) (b := 2) rfl rfl rfl) ?_
  refine va_sld hx hb hX hbl hbA Y.2.2.1 (bIn (by omega) (by omega)) dL_law_419 ?_
  refine bLB (As := [.int (xs (nI (i + 1)).toNatClampNeg), .int (xs (nI (i + 2)).toNatClampNeg)]) (rest := [.int v]) (ci := 8) X Y hB hpB gL_law_X8_crane rfl hr3 hdl_X8_crane ⟨by show rm'.frames + 1 ≤ 10; omega, by show 8 + (3 + 11) + rm'.locals ≤ 356; omega⟩ rfl rfl hgs rfl rfl hl.1 (Nat.le_of_ble_eq_true rfl) ⟨Nat.le_of_ble_eq_true rfl, Nat.le_of_ble_eq_true rfl⟩ dL_law_420 (fun H locs Y => ?_)
  refine lv_icmp_eq (tgt := 735) hx hb dL_law_423 (by decide) (fun _ => ?_) (fun c_ => absurd rfl c_)
  exact nx wa' wb' H locs ls hI' Y hl
theorem hdl_X7_stepOf : bD1 yX7_stepOf RX7 3 := by decide +kernel
theorem hdl_X8_stepOf : bD1 yX8_stepOf RX8 3 := by decide +kernel
set_option maxHeartbeats 4000000 in
theorem arm_12 (X : bX p s m #[Value.ref b] c cL_law 4 wsL_law RL D cyC cyI) (hX : va_X b L xs s s.heap) (hbl : b < s.heap.size) (hL : L ≤ 2048) (hi : i + 4 ≤ L) (Y : bY D (fun q : Nat => s.heap.size ≤ q) s.heap (wa ++ wb) H locs) (hI : Inv cyC cyI Q K wa wb) (hl : lv_has ls 4 [(0, .ref b), (1, .ref (Q 0)), (2, .ref (K 0)), (3, .int (nI i))]) (nx : Nx p l e s m below meth c Z b D cyC cyI Q K i) : W p l e room_1 s m #[Value.ref b] below meth c H locs 69 6199 Z (F0 m 428 ls []) := by
  have hx := X.1.1
  have hb := X.1.2.1
  have hbA : ¬ (fun q : Nat => s.heap.size ≤ q) b := Nat.not_le.mpr hbl
  obtain ⟨v, wa', wb', ⟨rm, hr1, hr2, hA, hpA⟩, ⟨rm', hr3, hr4, hB, hpB⟩, hI'⟩ := sim_stepOf_all l D cyC cyI Q K (xs (nI (i + 1)).toNatClampNeg) (xs (nI (i + 2)).toNatClampNeg) (xs (nI (i + 3)).toNatClampNeg) wa wb hI
  obtain ⟨fs, hfs⟩ := hI.headA
  obtain ⟨gs, hgs⟩ := hI.headB
  refine lv_aload_n hx hb dL_law_428 rfl (lv_at hl 1 rfl) ?_
  refine lv_aload_n hx hb dL_law_429 rfl (lv_at hl 0 rfl) ?_
  refine lv_iload_n hx hb dL_law_430 rfl (lv_at hl 3 rfl) ?_
  refine lv_iconst (v := 1) hx hb dL_law_431 (by decide) ?_
  refine bAdd (v := nI (i + 1)) X dL_law_432 (nI_sum (a := i) (b := 1) rfl rfl rfl) ?_
  refine va_sld hx hb hX hbl hbA Y.2.2.1 (bIn (by omega) (by omega)) dL_law_433 ?_
  refine lv_aload_n hx hb dL_law_434 rfl (lv_at hl 0 rfl) ?_
  refine lv_iload_n hx hb dL_law_435 rfl (lv_at hl 3 rfl) ?_
  refine lv_iconst (v := 2) hx hb dL_law_436 (by decide) ?_
  refine bAdd (v := nI (i + 2)) X dL_law_437 (nI_sum (a := i) (b := 2) rfl rfl rfl) ?_
  refine va_sld hx hb hX hbl hbA Y.2.2.1 (bIn (by omega) (by omega)) dL_law_438 ?_
  refine lv_aload_n hx hb dL_law_439 rfl (lv_at hl 0 rfl) ?_
  refine lv_iload_n hx hb dL_law_440 rfl (lv_at hl 3 rfl) ?_
  refine lv_iconst (v := 3) hx hb dL_law_441 (by decide) ?_
  refine bAdd (v := nI (i + 3)) X dL_law_442 (nI_sum (a := i) (b := 3) rfl rfl rfl) ?_
  refine va_sld hx hb hX hbl hbA Y.2.2.1 (bIn (by omega) (by omega)) dL_law_443 ?_
  refine bLA (As := [.int (xs (nI (i + 1)).toNatClampNeg), .int (xs (nI (i + 2)).toNatClampNeg), .int (xs (nI (i + 3)).toNatClampNeg)]) (rest := []) (ci := 7) X Y hA hpA gL_law_X7_stepOf rfl hr1 hdl_X7_stepOf ⟨by show rm.frames + 1 ≤ 10; omega, by show 8 + (5 + 11) + rm.locals ≤ 356; omega⟩ rfl rfl hfs rfl rfl hl.1 (Nat.le_of_ble_eq_true rfl) ⟨Nat.le_of_ble_eq_true rfl, Nat.le_of_ble_eq_true rfl⟩ dL_law_444 (fun H locs Y => ?_)
  refine lv_aload_n hx hb dL_law_447 rfl (lv_at hl 2 rfl) ?_
  refine lv_aload_n hx hb dL_law_448 rfl (lv_at hl 0 rfl) ?_
  refine lv_iload_n hx hb dL_law_449 rfl (lv_at hl 3 rfl) ?_
  refine lv_iconst (v := 1) hx hb dL_law_450 (by decide) ?_
  refine bAdd (v := nI (i + 1)) X dL_law_451 (nI_sum (a := i) (b := 1) rfl rfl rfl) ?_
  refine va_sld hx hb hX hbl hbA Y.2.2.1 (bIn (by omega) (by omega)) dL_law_452 ?_
  refine lv_aload_n hx hb dL_law_453 rfl (lv_at hl 0 rfl) ?_
  refine lv_iload_n hx hb dL_law_454 rfl (lv_at hl 3 rfl) ?_
  refine lv_iconst (v := 2) hx hb dL_law_455 (by decide) ?_
  refine bAdd (v := nI (i + 2)) X dL_law_456 (nI_sum (a := i) (b := 2) rfl rfl rfl) ?_
  refine va_sld hx hb hX hbl hbA Y.2.2.1 (bIn (by omega) (by omega)) dL_law_457 ?_
  refine lv_aload_n hx hb dL_law_458 rfl (lv_at hl 0 rfl) ?_
  refine lv_iload_n hx hb dL_law_459 rfl (lv_at hl 3 rfl) ?_
  refine lv_iconst (v := 3) hx hb dL_law_460 (by decide) ?_
  refine bAdd (v := nI (i + 3)) X dL_law_461 (nI_sum (a := i) (b := 3) rfl rfl rfl) ?_
  refine va_sld hx hb hX hbl hbA Y.2.2.1 (bIn (by omega) (by omega)) dL_law_462 ?_
  refine bLB (As := [.int (xs (nI (i + 1)).toNatClampNeg), .int (xs (nI (i + 2)).toNatClampNeg), .int (xs (nI (i + 3)).toNatClampNeg)]) (rest := [.int v]) (ci := 8) X Y hB hpB gL_law_X8_stepOf rfl hr3 hdl_X8_stepOf ⟨by show rm'.frames + 1 ≤ 10; omega, by show 8 + (4 + 11) + rm'.locals ≤ 356; omega⟩ rfl rfl hgs rfl rfl hl.1 (Nat.le_of_ble_eq_true rfl) ⟨Nat.le_of_ble_eq_true rfl, Nat.le_of_ble_eq_true rfl⟩ dL_law_463 (fun H locs Y => ?_)
  refine lv_icmp_eq (tgt := 735) hx hb dL_law_466 (by decide) (fun _ => ?_) (fun c_ => absurd rfl c_)
  exact nx wa' wb' H locs ls hI' Y hl
theorem hdl_X7_stop : bD1 yX7_stop RX7 1 := by decide +kernel
theorem hdl_X8_stop : bD1 yX8_stop RX8 1 := by decide +kernel
set_option maxHeartbeats 4000000 in
theorem arm_13 (X : bX p s m #[Value.ref b] c cL_law 4 wsL_law RL D cyC cyI) (hX : va_X b L xs s s.heap) (hbl : b < s.heap.size) (hL : L ≤ 2048) (hi : i + 4 ≤ L) (Y : bY D (fun q : Nat => s.heap.size ≤ q) s.heap (wa ++ wb) H locs) (hI : Inv cyC cyI Q K wa wb) (hl : lv_has ls 4 [(0, .ref b), (1, .ref (Q 0)), (2, .ref (K 0)), (3, .int (nI i))]) (nx : Nx p l e s m below meth c Z b D cyC cyI Q K i) : W p l e room_1 s m #[Value.ref b] below meth c H locs 69 6199 Z (F0 m 471 ls []) := by
  have hx := X.1.1
  have hb := X.1.2.1
  have hbA : ¬ (fun q : Nat => s.heap.size ≤ q) b := Nat.not_le.mpr hbl
  obtain ⟨v, wa', wb', ⟨rm, hr1, hr2, hA, hpA⟩, ⟨rm', hr3, hr4, hB, hpB⟩, hI'⟩ := sim_stop l D cyC cyI Q K (xs (nI (i + 1)).toNatClampNeg) wa wb hI
  obtain ⟨fs, hfs⟩ := hI.headA
  obtain ⟨gs, hgs⟩ := hI.headB
  refine lv_aload_n hx hb dL_law_471 rfl (lv_at hl 1 rfl) ?_
  refine lv_aload_n hx hb dL_law_472 rfl (lv_at hl 0 rfl) ?_
  refine lv_iload_n hx hb dL_law_473 rfl (lv_at hl 3 rfl) ?_
  refine lv_iconst (v := 1) hx hb dL_law_474 (by decide) ?_
  refine bAdd (v := nI (i + 1)) X dL_law_475 (nI_sum (a := i) (b := 1) rfl rfl rfl) ?_
  refine va_sld hx hb hX hbl hbA Y.2.2.1 (bIn (by omega) (by omega)) dL_law_476 ?_
  refine bLA (As := [.int (xs (nI (i + 1)).toNatClampNeg)]) (rest := []) (ci := 7) X Y hA hpA gL_law_X7_stop rfl hr1 hdl_X7_stop ⟨by show rm.frames + 1 ≤ 10; omega, by show 8 + (2 + 11) + rm.locals ≤ 356; omega⟩ rfl rfl hfs rfl rfl hl.1 (Nat.le_of_ble_eq_true rfl) ⟨Nat.le_of_ble_eq_true rfl, Nat.le_of_ble_eq_true rfl⟩ dL_law_477 (fun H locs Y => ?_)
  refine lv_aload_n hx hb dL_law_480 rfl (lv_at hl 2 rfl) ?_
  refine lv_aload_n hx hb dL_law_481 rfl (lv_at hl 0 rfl) ?_
  refine lv_iload_n hx hb dL_law_482 rfl (lv_at hl 3 rfl) ?_
  refine lv_iconst (v := 1) hx hb dL_law_483 (by decide) ?_
  refine bAdd (v := nI (i + 1)) X dL_law_484 (nI_sum (a := i) (b := 1) rfl rfl rfl) ?_
  refine va_sld hx hb hX hbl hbA Y.2.2.1 (bIn (by omega) (by omega)) dL_law_485 ?_
  refine bLB (As := [.int (xs (nI (i + 1)).toNatClampNeg)]) (rest := [.int v]) (ci := 8) X Y hB hpB gL_law_X8_stop rfl hr3 hdl_X8_stop ⟨by show rm'.frames + 1 ≤ 10; omega, by show 8 + (2 + 11) + rm'.locals ≤ 356; omega⟩ rfl rfl hgs rfl rfl hl.1 (Nat.le_of_ble_eq_true rfl) ⟨Nat.le_of_ble_eq_true rfl, Nat.le_of_ble_eq_true rfl⟩ dL_law_486 (fun H locs Y => ?_)
  refine lv_icmp_eq (tgt := 735) hx hb dL_law_489 (by decide) (fun _ => ?_) (fun c_ => absurd rfl c_)
  exact nx wa' wb' H locs ls hI' Y hl
theorem hdl_X7_half : bD1 yX7_half RX7 1 := by decide +kernel
theorem hdl_X8_half : bD1 yX8_half RX8 1 := by decide +kernel
set_option maxHeartbeats 4000000 in
theorem arm_14 (X : bX p s m #[Value.ref b] c cL_law 4 wsL_law RL D cyC cyI) (hX : va_X b L xs s s.heap) (hbl : b < s.heap.size) (hL : L ≤ 2048) (hi : i + 4 ≤ L) (Y : bY D (fun q : Nat => s.heap.size ≤ q) s.heap (wa ++ wb) H locs) (hI : Inv cyC cyI Q K wa wb) (hl : lv_has ls 4 [(0, .ref b), (1, .ref (Q 0)), (2, .ref (K 0)), (3, .int (nI i))]) (nx : Nx p l e s m below meth c Z b D cyC cyI Q K i) : W p l e room_1 s m #[Value.ref b] below meth c H locs 69 6199 Z (F0 m 494 ls []) := by
  have hx := X.1.1
  have hb := X.1.2.1
  have hbA : ¬ (fun q : Nat => s.heap.size ≤ q) b := Nat.not_le.mpr hbl
  obtain ⟨v, wa', wb', ⟨rm, hr1, hr2, hA, hpA⟩, ⟨rm', hr3, hr4, hB, hpB⟩, hI'⟩ := sim_half l D cyC cyI Q K (xs (nI (i + 1)).toNatClampNeg) wa wb hI
  obtain ⟨fs, hfs⟩ := hI.headA
  obtain ⟨gs, hgs⟩ := hI.headB
  refine lv_aload_n hx hb dL_law_494 rfl (lv_at hl 1 rfl) ?_
  refine lv_aload_n hx hb dL_law_495 rfl (lv_at hl 0 rfl) ?_
  refine lv_iload_n hx hb dL_law_496 rfl (lv_at hl 3 rfl) ?_
  refine lv_iconst (v := 1) hx hb dL_law_497 (by decide) ?_
  refine bAdd (v := nI (i + 1)) X dL_law_498 (nI_sum (a := i) (b := 1) rfl rfl rfl) ?_
  refine va_sld hx hb hX hbl hbA Y.2.2.1 (bIn (by omega) (by omega)) dL_law_499 ?_
  refine bLA (As := [.int (xs (nI (i + 1)).toNatClampNeg)]) (rest := []) (ci := 7) X Y hA hpA gL_law_X7_half rfl hr1 hdl_X7_half ⟨by show rm.frames + 1 ≤ 10; omega, by show 8 + (2 + 11) + rm.locals ≤ 356; omega⟩ rfl rfl hfs rfl rfl hl.1 (Nat.le_of_ble_eq_true rfl) ⟨Nat.le_of_ble_eq_true rfl, Nat.le_of_ble_eq_true rfl⟩ dL_law_500 (fun H locs Y => ?_)
  refine lv_aload_n hx hb dL_law_503 rfl (lv_at hl 2 rfl) ?_
  refine lv_aload_n hx hb dL_law_504 rfl (lv_at hl 0 rfl) ?_
  refine lv_iload_n hx hb dL_law_505 rfl (lv_at hl 3 rfl) ?_
  refine lv_iconst (v := 1) hx hb dL_law_506 (by decide) ?_
  refine bAdd (v := nI (i + 1)) X dL_law_507 (nI_sum (a := i) (b := 1) rfl rfl rfl) ?_
  refine va_sld hx hb hX hbl hbA Y.2.2.1 (bIn (by omega) (by omega)) dL_law_508 ?_
  refine bLB (As := [.int (xs (nI (i + 1)).toNatClampNeg)]) (rest := [.int v]) (ci := 8) X Y hB hpB gL_law_X8_half rfl hr3 hdl_X8_half ⟨by show rm'.frames + 1 ≤ 10; omega, by show 8 + (2 + 11) + rm'.locals ≤ 356; omega⟩ rfl rfl hgs rfl rfl hl.1 (Nat.le_of_ble_eq_true rfl) ⟨Nat.le_of_ble_eq_true rfl, Nat.le_of_ble_eq_true rfl⟩ dL_law_509 (fun H locs Y => ?_)
  refine lv_icmp_eq (tgt := 735) hx hb dL_law_512 (by decide) (fun _ => ?_) (fun c_ => absurd rfl c_)
  exact nx wa' wb' H locs ls hI' Y hl
theorem hdl_X7_spot : bD1 yX7_spot RX7 3 := by decide +kernel
theorem hdl_X8_spot : bD1 yX8_spot RX8 3 := by decide +kernel
set_option maxHeartbeats 4000000 in
theorem arm_15 (X : bX p s m #[Value.ref b] c cL_law 4 wsL_law RL D cyC cyI) (hX : va_X b L xs s s.heap) (hbl : b < s.heap.size) (hL : L ≤ 2048) (hi : i + 4 ≤ L) (Y : bY D (fun q : Nat => s.heap.size ≤ q) s.heap (wa ++ wb) H locs) (hI : Inv cyC cyI Q K wa wb) (hl : lv_has ls 4 [(0, .ref b), (1, .ref (Q 0)), (2, .ref (K 0)), (3, .int (nI i))]) (nx : Nx p l e s m below meth c Z b D cyC cyI Q K i) : W p l e room_1 s m #[Value.ref b] below meth c H locs 69 6199 Z (F0 m 517 ls []) := by
  have hx := X.1.1
  have hb := X.1.2.1
  have hbA : ¬ (fun q : Nat => s.heap.size ≤ q) b := Nat.not_le.mpr hbl
  obtain ⟨v, wa', wb', ⟨rm, hr1, hr2, hA, hpA⟩, ⟨rm', hr3, hr4, hB, hpB⟩, hI'⟩ := sim_spot_all l D cyC cyI Q K (xs (nI (i + 1)).toNatClampNeg) (xs (nI (i + 2)).toNatClampNeg) (xs (nI (i + 3)).toNatClampNeg) wa wb hI
  obtain ⟨fs, hfs⟩ := hI.headA
  obtain ⟨gs, hgs⟩ := hI.headB
  refine lv_aload_n hx hb dL_law_517 rfl (lv_at hl 1 rfl) ?_
  refine lv_aload_n hx hb dL_law_518 rfl (lv_at hl 0 rfl) ?_
  refine lv_iload_n hx hb dL_law_519 rfl (lv_at hl 3 rfl) ?_
  refine lv_iconst (v := 1) hx hb dL_law_520 (by decide) ?_
  refine bAdd (v := nI (i + 1)) X dL_law_521 (nI_sum (a := i) (b := 1) rfl rfl rfl) ?_
  refine va_sld hx hb hX hbl hbA Y.2.2.1 (bIn (by omega) (by omega)) dL_law_522 ?_
  refine lv_aload_n hx hb dL_law_523 rfl (lv_at hl 0 rfl) ?_
  refine lv_iload_n hx hb dL_law_524 rfl (lv_at hl 3 rfl) ?_
  refine lv_iconst (v := 2) hx hb dL_law_525 (by decide) ?_
  refine bAdd (v := nI (i + 2)) X dL_law_526 (nI_sum (a := i) (b := 2) rfl rfl rfl) ?_
  refine va_sld hx hb hX hbl hbA Y.2.2.1 (bIn (by omega) (by omega)) dL_law_527 ?_
  refine lv_aload_n hx hb dL_law_528 rfl (lv_at hl 0 rfl) ?_
  refine lv_iload_n hx hb dL_law_529 rfl (lv_at hl 3 rfl) ?_
  refine lv_iconst (v := 3) hx hb dL_law_530 (by decide) ?_
  refine bAdd (v := nI (i + 3)) X dL_law_531 (nI_sum (a := i) (b := 3) rfl rfl rfl) ?_
  refine va_sld hx hb hX hbl hbA Y.2.2.1 (bIn (by omega) (by omega)) dL_law_532 ?_
  refine bLA (As := [.int (xs (nI (i + 1)).toNatClampNeg), .int (xs (nI (i + 2)).toNatClampNeg), .int (xs (nI (i + 3)).toNatClampNeg)]) (rest := []) (ci := 7) X Y hA hpA gL_law_X7_spot rfl hr1 hdl_X7_spot ⟨by show rm.frames + 1 ≤ 10; omega, by show 8 + (5 + 11) + rm.locals ≤ 356; omega⟩ rfl rfl hfs rfl rfl hl.1 (Nat.le_of_ble_eq_true rfl) ⟨Nat.le_of_ble_eq_true rfl, Nat.le_of_ble_eq_true rfl⟩ dL_law_533 (fun H locs Y => ?_)
  refine lv_aload_n hx hb dL_law_536 rfl (lv_at hl 2 rfl) ?_
  refine lv_aload_n hx hb dL_law_537 rfl (lv_at hl 0 rfl) ?_
  refine lv_iload_n hx hb dL_law_538 rfl (lv_at hl 3 rfl) ?_
  refine lv_iconst (v := 1) hx hb dL_law_539 (by decide) ?_
  refine bAdd (v := nI (i + 1)) X dL_law_540 (nI_sum (a := i) (b := 1) rfl rfl rfl) ?_
  refine va_sld hx hb hX hbl hbA Y.2.2.1 (bIn (by omega) (by omega)) dL_law_541 ?_
  refine lv_aload_n hx hb dL_law_542 rfl (lv_at hl 0 rfl) ?_
  refine lv_iload_n hx hb dL_law_543 rfl (lv_at hl 3 rfl) ?_
  refine lv_iconst (v := 2) hx hb dL_law_544 (by decide) ?_
  refine bAdd (v := nI (i + 2)) X dL_law_545 (nI_sum (a := i) (b := 2) rfl rfl rfl) ?_
  refine va_sld hx hb hX hbl hbA Y.2.2.1 (bIn (by omega) (by omega)) dL_law_546 ?_
  refine lv_aload_n hx hb dL_law_547 rfl (lv_at hl 0 rfl) ?_
  refine lv_iload_n hx hb dL_law_548 rfl (lv_at hl 3 rfl) ?_
  refine lv_iconst (v := 3) hx hb dL_law_549 (by decide) ?_
  refine bAdd (v := nI (i + 3)) X dL_law_550 (nI_sum (a := i) (b := 3) rfl rfl rfl) ?_
  refine va_sld hx hb hX hbl hbA Y.2.2.1 (bIn (by omega) (by omega)) dL_law_551 ?_
  refine bLB (As := [.int (xs (nI (i + 1)).toNatClampNeg), .int (xs (nI (i + 2)).toNatClampNeg), .int (xs (nI (i + 3)).toNatClampNeg)]) (rest := [.int v]) (ci := 8) X Y hB hpB gL_law_X8_spot rfl hr3 hdl_X8_spot ⟨by show rm'.frames + 1 ≤ 10; omega, by show 8 + (6 + 11) + rm'.locals ≤ 356; omega⟩ rfl rfl hgs rfl rfl hl.1 (Nat.le_of_ble_eq_true rfl) ⟨Nat.le_of_ble_eq_true rfl, Nat.le_of_ble_eq_true rfl⟩ dL_law_552 (fun H locs Y => ?_)
  refine lv_icmp_eq (tgt := 735) hx hb dL_law_555 (by decide) (fun _ => ?_) (fun c_ => absurd rfl c_)
  exact nx wa' wb' H locs ls hI' Y hl
theorem hdl_X7_been : bD1 yX7_been RX7 3 := by decide +kernel
theorem hdl_X8_been : bD1 yX8_been RX8 3 := by decide +kernel
set_option maxHeartbeats 4000000 in
theorem arm_16 (X : bX p s m #[Value.ref b] c cL_law 4 wsL_law RL D cyC cyI) (hX : va_X b L xs s s.heap) (hbl : b < s.heap.size) (hL : L ≤ 2048) (hi : i + 4 ≤ L) (Y : bY D (fun q : Nat => s.heap.size ≤ q) s.heap (wa ++ wb) H locs) (hI : Inv cyC cyI Q K wa wb) (hl : lv_has ls 4 [(0, .ref b), (1, .ref (Q 0)), (2, .ref (K 0)), (3, .int (nI i))]) (nx : Nx p l e s m below meth c Z b D cyC cyI Q K i) : W p l e room_1 s m #[Value.ref b] below meth c H locs 69 6199 Z (F0 m 560 ls []) := by
  have hx := X.1.1
  have hb := X.1.2.1
  have hbA : ¬ (fun q : Nat => s.heap.size ≤ q) b := Nat.not_le.mpr hbl
  obtain ⟨v, wa', wb', ⟨rm, hr1, hr2, hA, hpA⟩, ⟨rm', hr3, hr4, hB, hpB⟩, hI'⟩ := sim_been_all l D cyC cyI Q K (xs (nI (i + 1)).toNatClampNeg) (xs (nI (i + 2)).toNatClampNeg) (xs (nI (i + 3)).toNatClampNeg) wa wb hI
  obtain ⟨fs, hfs⟩ := hI.headA
  obtain ⟨gs, hgs⟩ := hI.headB
  refine lv_aload_n hx hb dL_law_560 rfl (lv_at hl 1 rfl) ?_
  refine lv_aload_n hx hb dL_law_561 rfl (lv_at hl 0 rfl) ?_
  refine lv_iload_n hx hb dL_law_562 rfl (lv_at hl 3 rfl) ?_
  refine lv_iconst (v := 1) hx hb dL_law_563 (by decide) ?_
  refine bAdd (v := nI (i + 1)) X dL_law_564 (nI_sum (a := i) (b := 1) rfl rfl rfl) ?_
  refine va_sld hx hb hX hbl hbA Y.2.2.1 (bIn (by omega) (by omega)) dL_law_565 ?_
  refine lv_aload_n hx hb dL_law_566 rfl (lv_at hl 0 rfl) ?_
  refine lv_iload_n hx hb dL_law_567 rfl (lv_at hl 3 rfl) ?_
  refine lv_iconst (v := 2) hx hb dL_law_568 (by decide) ?_
  refine bAdd (v := nI (i + 2)) X dL_law_569 (nI_sum (a := i) (b := 2) rfl rfl rfl) ?_
  refine va_sld hx hb hX hbl hbA Y.2.2.1 (bIn (by omega) (by omega)) dL_law_570 ?_
  refine lv_aload_n hx hb dL_law_571 rfl (lv_at hl 0 rfl) ?_
  refine lv_iload_n hx hb dL_law_572 rfl (lv_at hl 3 rfl) ?_
  refine lv_iconst (v := 3) hx hb dL_law_573 (by decide) ?_
  refine bAdd (v := nI (i + 3)) X dL_law_574 (nI_sum (a := i) (b := 3) rfl rfl rfl) ?_
  refine va_sld hx hb hX hbl hbA Y.2.2.1 (bIn (by omega) (by omega)) dL_law_575 ?_
  refine bLA (As := [.int (xs (nI (i + 1)).toNatClampNeg), .int (xs (nI (i + 2)).toNatClampNeg), .int (xs (nI (i + 3)).toNatClampNeg)]) (rest := []) (ci := 7) X Y hA hpA gL_law_X7_been rfl hr1 hdl_X7_been ⟨by show rm.frames + 1 ≤ 10; omega, by show 8 + (4 + 11) + rm.locals ≤ 356; omega⟩ rfl rfl hfs rfl rfl hl.1 (Nat.le_of_ble_eq_true rfl) ⟨Nat.le_of_ble_eq_true rfl, Nat.le_of_ble_eq_true rfl⟩ dL_law_576 (fun H locs Y => ?_)
  refine lv_aload_n hx hb dL_law_579 rfl (lv_at hl 2 rfl) ?_
  refine lv_aload_n hx hb dL_law_580 rfl (lv_at hl 0 rfl) ?_
  refine lv_iload_n hx hb dL_law_581 rfl (lv_at hl 3 rfl) ?_
  refine lv_iconst (v := 1) hx hb dL_law_582 (by decide) ?_
  refine bAdd (v := nI (i + 1)) X dL_law_583 (nI_sum (a := i) (b := 1) rfl rfl rfl) ?_
  refine va_sld hx hb hX hbl hbA Y.2.2.1 (bIn (by omega) (by omega)) dL_law_584 ?_
  refine lv_aload_n hx hb dL_law_585 rfl (lv_at hl 0 rfl) ?_
  refine lv_iload_n hx hb dL_law_586 rfl (lv_at hl 3 rfl) ?_
  refine lv_iconst (v := 2) hx hb dL_law_587 (by decide) ?_
  refine bAdd (v := nI (i + 2)) X dL_law_588 (nI_sum (a := i) (b := 2) rfl rfl rfl) ?_
  refine va_sld hx hb hX hbl hbA Y.2.2.1 (bIn (by omega) (by omega)) dL_law_589 ?_
  refine lv_aload_n hx hb dL_law_590 rfl (lv_at hl 0 rfl) ?_
  refine lv_iload_n hx hb dL_law_591 rfl (lv_at hl 3 rfl) ?_
  refine lv_iconst (v := 3) hx hb dL_law_592 (by decide) ?_
  refine bAdd (v := nI (i + 3)) X dL_law_593 (nI_sum (a := i) (b := 3) rfl rfl rfl) ?_
  refine va_sld hx hb hX hbl hbA Y.2.2.1 (bIn (by omega) (by omega)) dL_law_594 ?_
  refine bLB (As := [.int (xs (nI (i + 1)).toNatClampNeg), .int (xs (nI (i + 2)).toNatClampNeg), .int (xs (nI (i + 3)).toNatClampNeg)]) (rest := [.int v]) (ci := 8) X Y hB hpB gL_law_X8_been rfl hr3 hdl_X8_been ⟨by show rm'.frames + 1 ≤ 10; omega, by show 8 + (6 + 11) + rm'.locals ≤ 356; omega⟩ rfl rfl hgs rfl rfl hl.1 (Nat.le_of_ble_eq_true rfl) ⟨Nat.le_of_ble_eq_true rfl, Nat.le_of_ble_eq_true rfl⟩ dL_law_595 (fun H locs Y => ?_)
  refine lv_icmp_eq (tgt := 735) hx hb dL_law_598 (by decide) (fun _ => ?_) (fun c_ => absurd rfl c_)
  exact nx wa' wb' H locs ls hI' Y hl
theorem hdl_X7_ahead : bD1 yX7_ahead RX7 3 := by decide +kernel
theorem hdl_X8_ahead : bD1 yX8_ahead RX8 3 := by decide +kernel
set_option maxHeartbeats 4000000 in
theorem arm_17 (X : bX p s m #[Value.ref b] c cL_law 4 wsL_law RL D cyC cyI) (hX : va_X b L xs s s.heap) (hbl : b < s.heap.size) (hL : L ≤ 2048) (hi : i + 4 ≤ L) (Y : bY D (fun q : Nat => s.heap.size ≤ q) s.heap (wa ++ wb) H locs) (hI : Inv cyC cyI Q K wa wb) (hl : lv_has ls 4 [(0, .ref b), (1, .ref (Q 0)), (2, .ref (K 0)), (3, .int (nI i))]) (nx : Nx p l e s m below meth c Z b D cyC cyI Q K i) : W p l e room_1 s m #[Value.ref b] below meth c H locs 69 6199 Z (F0 m 603 ls []) := by
  have hx := X.1.1
  have hb := X.1.2.1
  have hbA : ¬ (fun q : Nat => s.heap.size ≤ q) b := Nat.not_le.mpr hbl
  obtain ⟨v, wa', wb', ⟨rm, hr1, hr2, hA, hpA⟩, ⟨rm', hr3, hr4, hB, hpB⟩, hI'⟩ := sim_ahead_all l D cyC cyI Q K (xs (nI (i + 1)).toNatClampNeg) (xs (nI (i + 2)).toNatClampNeg) (xs (nI (i + 3)).toNatClampNeg) wa wb hI
  obtain ⟨fs, hfs⟩ := hI.headA
  obtain ⟨gs, hgs⟩ := hI.headB
  refine lv_aload_n hx hb dL_law_603 rfl (lv_at hl 1 rfl) ?_
  refine lv_aload_n hx hb dL_law_604 rfl (lv_at hl 0 rfl) ?_
  refine lv_iload_n hx hb dL_law_605 rfl (lv_at hl 3 rfl) ?_
  refine lv_iconst (v := 1) hx hb dL_law_606 (by decide) ?_
  refine bAdd (v := nI (i + 1)) X dL_law_607 (nI_sum (a := i) (b := 1) rfl rfl rfl) ?_
  refine va_sld hx hb hX hbl hbA Y.2.2.1 (bIn (by omega) (by omega)) dL_law_608 ?_
  refine lv_aload_n hx hb dL_law_609 rfl (lv_at hl 0 rfl) ?_
  refine lv_iload_n hx hb dL_law_610 rfl (lv_at hl 3 rfl) ?_
  refine lv_iconst (v := 2) hx hb dL_law_611 (by decide) ?_
  refine bAdd (v := nI (i + 2)) X dL_law_612 (nI_sum (a := i) (b := 2) rfl rfl rfl) ?_
  refine va_sld hx hb hX hbl hbA Y.2.2.1 (bIn (by omega) (by omega)) dL_law_613 ?_
  refine lv_aload_n hx hb dL_law_614 rfl (lv_at hl 0 rfl) ?_
  refine lv_iload_n hx hb dL_law_615 rfl (lv_at hl 3 rfl) ?_
  refine lv_iconst (v := 3) hx hb dL_law_616 (by decide) ?_
  refine bAdd (v := nI (i + 3)) X dL_law_617 (nI_sum (a := i) (b := 3) rfl rfl rfl) ?_
  refine va_sld hx hb hX hbl hbA Y.2.2.1 (bIn (by omega) (by omega)) dL_law_618 ?_
  refine bLA (As := [.int (xs (nI (i + 1)).toNatClampNeg), .int (xs (nI (i + 2)).toNatClampNeg), .int (xs (nI (i + 3)).toNatClampNeg)]) (rest := []) (ci := 7) X Y hA hpA gL_law_X7_ahead rfl hr1 hdl_X7_ahead ⟨by show rm.frames + 1 ≤ 10; omega, by show 8 + (8 + 11) + rm.locals ≤ 356; omega⟩ rfl rfl hfs rfl rfl hl.1 (Nat.le_of_ble_eq_true rfl) ⟨Nat.le_of_ble_eq_true rfl, Nat.le_of_ble_eq_true rfl⟩ dL_law_619 (fun H locs Y => ?_)
  refine lv_aload_n hx hb dL_law_622 rfl (lv_at hl 2 rfl) ?_
  refine lv_aload_n hx hb dL_law_623 rfl (lv_at hl 0 rfl) ?_
  refine lv_iload_n hx hb dL_law_624 rfl (lv_at hl 3 rfl) ?_
  refine lv_iconst (v := 1) hx hb dL_law_625 (by decide) ?_
  refine bAdd (v := nI (i + 1)) X dL_law_626 (nI_sum (a := i) (b := 1) rfl rfl rfl) ?_
  refine va_sld hx hb hX hbl hbA Y.2.2.1 (bIn (by omega) (by omega)) dL_law_627 ?_
  refine lv_aload_n hx hb dL_law_628 rfl (lv_at hl 0 rfl) ?_
  refine lv_iload_n hx hb dL_law_629 rfl (lv_at hl 3 rfl) ?_
  refine lv_iconst (v := 2) hx hb dL_law_630 (by decide) ?_
  refine bAdd (v := nI (i + 2)) X dL_law_631 (nI_sum (a := i) (b := 2) rfl rfl rfl) ?_
  refine va_sld hx hb hX hbl hbA Y.2.2.1 (bIn (by omega) (by omega)) dL_law_632 ?_
  refine lv_aload_n hx hb dL_law_633 rfl (lv_at hl 0 rfl) ?_
  refine lv_iload_n hx hb dL_law_634 rfl (lv_at hl 3 rfl) ?_
  refine lv_iconst (v := 3) hx hb dL_law_635 (by decide) ?_
  refine bAdd (v := nI (i + 3)) X dL_law_636 (nI_sum (a := i) (b := 3) rfl rfl rfl) ?_
  refine va_sld hx hb hX hbl hbA Y.2.2.1 (bIn (by omega) (by omega)) dL_law_637 ?_
  refine bLB (As := [.int (xs (nI (i + 1)).toNatClampNeg), .int (xs (nI (i + 2)).toNatClampNeg), .int (xs (nI (i + 3)).toNatClampNeg)]) (rest := [.int v]) (ci := 8) X Y hB hpB gL_law_X8_ahead rfl hr3 hdl_X8_ahead ⟨by show rm'.frames + 1 ≤ 10; omega, by show 8 + (7 + 11) + rm'.locals ≤ 356; omega⟩ rfl rfl hgs rfl rfl hl.1 (Nat.le_of_ble_eq_true rfl) ⟨Nat.le_of_ble_eq_true rfl, Nat.le_of_ble_eq_true rfl⟩ dL_law_638 (fun H locs Y => ?_)
  refine lv_icmp_eq (tgt := 735) hx hb dL_law_641 (by decide) (fun _ => ?_) (fun c_ => absurd rfl c_)
  exact nx wa' wb' H locs ls hI' Y hl
theorem hdl_X7_quiet : bD1 yX7_quiet RX7 1 := by decide +kernel
theorem hdl_X8_quiet : bD1 yX8_quiet RX8 1 := by decide +kernel
set_option maxHeartbeats 4000000 in
theorem arm_18 (X : bX p s m #[Value.ref b] c cL_law 4 wsL_law RL D cyC cyI) (hX : va_X b L xs s s.heap) (hbl : b < s.heap.size) (hL : L ≤ 2048) (hi : i + 4 ≤ L) (Y : bY D (fun q : Nat => s.heap.size ≤ q) s.heap (wa ++ wb) H locs) (hI : Inv cyC cyI Q K wa wb) (hl : lv_has ls 4 [(0, .ref b), (1, .ref (Q 0)), (2, .ref (K 0)), (3, .int (nI i))]) (nx : Nx p l e s m below meth c Z b D cyC cyI Q K i) : W p l e room_1 s m #[Value.ref b] below meth c H locs 69 6199 Z (F0 m 646 ls []) := by
  have hx := X.1.1
  have hb := X.1.2.1
  have hbA : ¬ (fun q : Nat => s.heap.size ≤ q) b := Nat.not_le.mpr hbl
  obtain ⟨v, wa', wb', ⟨rm, hr1, hr2, hA, hpA⟩, ⟨rm', hr3, hr4, hB, hpB⟩, hI'⟩ := sim_quiet_all l D cyC cyI Q K (xs (nI (i + 1)).toNatClampNeg) wa wb hI
  obtain ⟨fs, hfs⟩ := hI.headA
  obtain ⟨gs, hgs⟩ := hI.headB
  refine lv_aload_n hx hb dL_law_646 rfl (lv_at hl 1 rfl) ?_
  refine lv_aload_n hx hb dL_law_647 rfl (lv_at hl 0 rfl) ?_
  refine lv_iload_n hx hb dL_law_648 rfl (lv_at hl 3 rfl) ?_
  refine lv_iconst (v := 1) hx hb dL_law_649 (by decide) ?_
  refine bAdd (v := nI (i + 1)) X dL_law_650 (nI_sum (a := i) (b := 1) rfl rfl rfl) ?_
  refine va_sld hx hb hX hbl hbA Y.2.2.1 (bIn (by omega) (by omega)) dL_law_651 ?_
  refine bLA (As := [.int (xs (nI (i + 1)).toNatClampNeg)]) (rest := []) (ci := 7) X Y hA hpA gL_law_X7_quiet rfl hr1 hdl_X7_quiet ⟨by show rm.frames + 1 ≤ 10; omega, by show 8 + (4 + 11) + rm.locals ≤ 356; omega⟩ rfl rfl hfs rfl rfl hl.1 (Nat.le_of_ble_eq_true rfl) ⟨Nat.le_of_ble_eq_true rfl, Nat.le_of_ble_eq_true rfl⟩ dL_law_652 (fun H locs Y => ?_)
  refine lv_aload_n hx hb dL_law_655 rfl (lv_at hl 2 rfl) ?_
  refine lv_aload_n hx hb dL_law_656 rfl (lv_at hl 0 rfl) ?_
  refine lv_iload_n hx hb dL_law_657 rfl (lv_at hl 3 rfl) ?_
  refine lv_iconst (v := 1) hx hb dL_law_658 (by decide) ?_
  refine bAdd (v := nI (i + 1)) X dL_law_659 (nI_sum (a := i) (b := 1) rfl rfl rfl) ?_
  refine va_sld hx hb hX hbl hbA Y.2.2.1 (bIn (by omega) (by omega)) dL_law_660 ?_
  refine bLB (As := [.int (xs (nI (i + 1)).toNatClampNeg)]) (rest := [.int v]) (ci := 8) X Y hB hpB gL_law_X8_quiet rfl hr3 hdl_X8_quiet ⟨by show rm'.frames + 1 ≤ 10; omega, by show 8 + (4 + 11) + rm'.locals ≤ 356; omega⟩ rfl rfl hgs rfl rfl hl.1 (Nat.le_of_ble_eq_true rfl) ⟨Nat.le_of_ble_eq_true rfl, Nat.le_of_ble_eq_true rfl⟩ dL_law_661 (fun H locs Y => ?_)
  refine lv_icmp_eq (tgt := 735) hx hb dL_law_664 (by decide) (fun _ => ?_) (fun c_ => absurd rfl c_)
  exact nx wa' wb' H locs ls hI' Y hl
theorem hdl_X7_best : bD1 yX7_best RX7 3 := by decide +kernel
theorem hdl_X8_best : bD1 yX8_best RX8 3 := by decide +kernel
set_option maxHeartbeats 4000000 in
theorem arm_19 (X : bX p s m #[Value.ref b] c cL_law 4 wsL_law RL D cyC cyI) (hX : va_X b L xs s s.heap) (hbl : b < s.heap.size) (hL : L ≤ 2048) (hi : i + 4 ≤ L) (Y : bY D (fun q : Nat => s.heap.size ≤ q) s.heap (wa ++ wb) H locs) (hI : Inv cyC cyI Q K wa wb) (hl : lv_has ls 4 [(0, .ref b), (1, .ref (Q 0)), (2, .ref (K 0)), (3, .int (nI i))]) (nx : Nx p l e s m below meth c Z b D cyC cyI Q K i) : W p l e room_1 s m #[Value.ref b] below meth c H locs 69 6199 Z (F0 m 669 ls []) := by
  have hx := X.1.1
  have hb := X.1.2.1
  have hbA : ¬ (fun q : Nat => s.heap.size ≤ q) b := Nat.not_le.mpr hbl
  obtain ⟨v, wa', wb', ⟨rm, hr1, hr2, hA, hpA⟩, ⟨rm', hr3, hr4, hB, hpB⟩, hI'⟩ := sim_best_all l D cyC cyI Q K (xs (nI (i + 1)).toNatClampNeg) (xs (nI (i + 2)).toNatClampNeg) (xs (nI (i + 3)).toNatClampNeg) wa wb hI
  obtain ⟨fs, hfs⟩ := hI.headA
  obtain ⟨gs, hgs⟩ := hI.headB
  refine lv_aload_n hx hb dL_law_669 rfl (lv_at hl 1 rfl) ?_
  refine lv_aload_n hx hb dL_law_670 rfl (lv_at hl 0 rfl) ?_
  refine lv_iload_n hx hb dL_law_671 rfl (lv_at hl 3 rfl) ?_
  refine lv_iconst (v := 1) hx hb dL_law_672 (by decide) ?_
  refine bAdd (v := nI (i + 1)) X dL_law_673 (nI_sum (a := i) (b := 1) rfl rfl rfl) ?_
  refine va_sld hx hb hX hbl hbA Y.2.2.1 (bIn (by omega) (by omega)) dL_law_674 ?_
  refine lv_aload_n hx hb dL_law_675 rfl (lv_at hl 0 rfl) ?_
  refine lv_iload_n hx hb dL_law_676 rfl (lv_at hl 3 rfl) ?_
  refine lv_iconst (v := 2) hx hb dL_law_677 (by decide) ?_
  refine bAdd (v := nI (i + 2)) X dL_law_678 (nI_sum (a := i) (b := 2) rfl rfl rfl) ?_
  refine va_sld hx hb hX hbl hbA Y.2.2.1 (bIn (by omega) (by omega)) dL_law_679 ?_
  refine lv_aload_n hx hb dL_law_680 rfl (lv_at hl 0 rfl) ?_
  refine lv_iload_n hx hb dL_law_681 rfl (lv_at hl 3 rfl) ?_
  refine lv_iconst (v := 3) hx hb dL_law_682 (by decide) ?_
  refine bAdd (v := nI (i + 3)) X dL_law_683 (nI_sum (a := i) (b := 3) rfl rfl rfl) ?_
  refine va_sld hx hb hX hbl hbA Y.2.2.1 (bIn (by omega) (by omega)) dL_law_684 ?_
  refine bLA (As := [.int (xs (nI (i + 1)).toNatClampNeg), .int (xs (nI (i + 2)).toNatClampNeg), .int (xs (nI (i + 3)).toNatClampNeg)]) (rest := []) (ci := 7) X Y hA hpA gL_law_X7_best rfl hr1 hdl_X7_best ⟨by show rm.frames + 1 ≤ 10; omega, by show 8 + (8 + 11) + rm.locals ≤ 356; omega⟩ rfl rfl hfs rfl rfl hl.1 (Nat.le_of_ble_eq_true rfl) ⟨Nat.le_of_ble_eq_true rfl, Nat.le_of_ble_eq_true rfl⟩ dL_law_685 (fun H locs Y => ?_)
  refine lv_aload_n hx hb dL_law_688 rfl (lv_at hl 2 rfl) ?_
  refine lv_aload_n hx hb dL_law_689 rfl (lv_at hl 0 rfl) ?_
  refine lv_iload_n hx hb dL_law_690 rfl (lv_at hl 3 rfl) ?_
  refine lv_iconst (v := 1) hx hb dL_law_691 (by decide) ?_
  refine bAdd (v := nI (i + 1)) X dL_law_692 (nI_sum (a := i) (b := 1) rfl rfl rfl) ?_
  refine va_sld hx hb hX hbl hbA Y.2.2.1 (bIn (by omega) (by omega)) dL_law_693 ?_
  refine lv_aload_n hx hb dL_law_694 rfl (lv_at hl 0 rfl) ?_
  refine lv_iload_n hx hb dL_law_695 rfl (lv_at hl 3 rfl) ?_
  refine lv_iconst (v := 2) hx hb dL_law_696 (by decide) ?_
  refine bAdd (v := nI (i + 2)) X dL_law_697 (nI_sum (a := i) (b := 2) rfl rfl rfl) ?_
  refine va_sld hx hb hX hbl hbA Y.2.2.1 (bIn (by omega) (by omega)) dL_law_698 ?_
  refine lv_aload_n hx hb dL_law_699 rfl (lv_at hl 0 rfl) ?_
  refine lv_iload_n hx hb dL_law_700 rfl (lv_at hl 3 rfl) ?_
  refine lv_iconst (v := 3) hx hb dL_law_701 (by decide) ?_
  refine bAdd (v := nI (i + 3)) X dL_law_702 (nI_sum (a := i) (b := 3) rfl rfl rfl) ?_
  refine va_sld hx hb hX hbl hbA Y.2.2.1 (bIn (by omega) (by omega)) dL_law_703 ?_
  refine bLB (As := [.int (xs (nI (i + 1)).toNatClampNeg), .int (xs (nI (i + 2)).toNatClampNeg), .int (xs (nI (i + 3)).toNatClampNeg)]) (rest := [.int v]) (ci := 8) X Y hB hpB gL_law_X8_best rfl hr3 hdl_X8_best ⟨by show rm'.frames + 1 ≤ 10; omega, by show 8 + (8 + 11) + rm'.locals ≤ 356; omega⟩ rfl rfl hgs rfl rfl hl.1 (Nat.le_of_ble_eq_true rfl) ⟨Nat.le_of_ble_eq_true rfl, Nat.le_of_ble_eq_true rfl⟩ dL_law_704 (fun H locs Y => ?_)
  refine lv_icmp_eq (tgt := 735) hx hb dL_law_707 (by decide) (fun _ => ?_) (fun c_ => absurd rfl c_)
  exact nx wa' wb' H locs ls hI' Y hl
theorem hdl_X7_count : bD1 yX7_count RX7 1 := by decide +kernel
theorem hdl_X8_count : bD1 yX8_count RX8 1 := by decide +kernel
set_option maxHeartbeats 4000000 in
theorem arm_20 (X : bX p s m #[Value.ref b] c cL_law 4 wsL_law RL D cyC cyI) (hX : va_X b L xs s s.heap) (hbl : b < s.heap.size) (hL : L ≤ 2048) (hi : i + 4 ≤ L) (Y : bY D (fun q : Nat => s.heap.size ≤ q) s.heap (wa ++ wb) H locs) (hI : Inv cyC cyI Q K wa wb) (hl : lv_has ls 4 [(0, .ref b), (1, .ref (Q 0)), (2, .ref (K 0)), (3, .int (nI i))]) (nx : Nx p l e s m below meth c Z b D cyC cyI Q K i) : W p l e room_1 s m #[Value.ref b] below meth c H locs 69 6199 Z (F0 m 712 ls []) := by
  have hx := X.1.1
  have hb := X.1.2.1
  have hbA : ¬ (fun q : Nat => s.heap.size ≤ q) b := Nat.not_le.mpr hbl
  obtain ⟨v, wa', wb', ⟨rm, hr1, hr2, hA, hpA⟩, ⟨rm', hr3, hr4, hB, hpB⟩, hI'⟩ := sim_count l D cyC cyI Q K (xs (nI (i + 1)).toNatClampNeg) wa wb hI
  obtain ⟨fs, hfs⟩ := hI.headA
  obtain ⟨gs, hgs⟩ := hI.headB
  refine lv_aload_n hx hb dL_law_712 rfl (lv_at hl 1 rfl) ?_
  refine lv_aload_n hx hb dL_law_713 rfl (lv_at hl 0 rfl) ?_
  refine lv_iload_n hx hb dL_law_714 rfl (lv_at hl 3 rfl) ?_
  refine lv_iconst (v := 1) hx hb dL_law_715 (by decide) ?_
  refine bAdd (v := nI (i + 1)) X dL_law_716 (nI_sum (a := i) (b := 1) rfl rfl rfl) ?_
  refine va_sld hx hb hX hbl hbA Y.2.2.1 (bIn (by omega) (by omega)) dL_law_717 ?_
  refine bLA (As := [.int (xs (nI (i + 1)).toNatClampNeg)]) (rest := []) (ci := 7) X Y hA hpA gL_law_X7_count rfl hr1 hdl_X7_count ⟨by show rm.frames + 1 ≤ 10; omega, by show 8 + (2 + 11) + rm.locals ≤ 356; omega⟩ rfl rfl hfs rfl rfl hl.1 (Nat.le_of_ble_eq_true rfl) ⟨Nat.le_of_ble_eq_true rfl, Nat.le_of_ble_eq_true rfl⟩ dL_law_718 (fun H locs Y => ?_)
  refine lv_aload_n hx hb dL_law_721 rfl (lv_at hl 2 rfl) ?_
  refine lv_aload_n hx hb dL_law_722 rfl (lv_at hl 0 rfl) ?_
  refine lv_iload_n hx hb dL_law_723 rfl (lv_at hl 3 rfl) ?_
  refine lv_iconst (v := 1) hx hb dL_law_724 (by decide) ?_
  refine bAdd (v := nI (i + 1)) X dL_law_725 (nI_sum (a := i) (b := 1) rfl rfl rfl) ?_
  refine va_sld hx hb hX hbl hbA Y.2.2.1 (bIn (by omega) (by omega)) dL_law_726 ?_
  refine bLB (As := [.int (xs (nI (i + 1)).toNatClampNeg)]) (rest := [.int v]) (ci := 8) X Y hB hpB gL_law_X8_count rfl hr3 hdl_X8_count ⟨by show rm'.frames + 1 ≤ 10; omega, by show 8 + (2 + 11) + rm'.locals ≤ 356; omega⟩ rfl rfl hgs rfl rfl hl.1 (Nat.le_of_ble_eq_true rfl) ⟨Nat.le_of_ble_eq_true rfl, Nat.le_of_ble_eq_true rfl⟩ dL_law_727 (fun H locs Y => ?_)
  refine lv_icmp_eq (tgt := 735) hx hb dL_law_730 (by decide) (fun _ => ?_) (fun c_ => absurd rfl c_)
  exact nx wa' wb' H locs ls hI' Y hl
end ARMS
