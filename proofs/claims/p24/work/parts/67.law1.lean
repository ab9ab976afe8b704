/-! the law's small methods -/
theorem va_nd_of : ∀ l : List Nat, (∀ i j a : Nat, l[i]? = some a → l[j]? = some a → i = j) → va_nd l = true
  | [], _ => rfl
  | b :: l, h => by
    simp only [va_nd, Bool.and_eq_true, decide_eq_true_eq]
    refine ⟨fun q => ?_, va_nd_of l (fun i j a h1 h2 => ?_)⟩
    · obtain ⟨j, hj⟩ := List.getElem?_of_mem q
      have := h 0 (j + 1) b rfl (by rw [List.getElem?_cons_succ]; exact hj)
      omega
    · have := h (i + 1) (j + 1) a (by rw [List.getElem?_cons_succ]; exact h1) (by rw [List.getElem?_cons_succ]; exact h2)
      omega
theorem wPerm.rfl' (a : va_W) (h : ∀ (i j : Nat) (x y : Nat × va_E), a[i]? = some x → a[j]? = some y → x.1 = y.1 → i = j) : wPerm a a := by
  refine ⟨List.range a.length, va_nd_of _ (fun i j v h1 h2 => ?_), ?_⟩
  · have e1 := List.getElem?_eq_some_iff.mp h1
    have e2 := List.getElem?_eq_some_iff.mp h2
    obtain ⟨l1, e1⟩ := e1
    obtain ⟨l2, e2⟩ := e2
    rw [List.getElem_range] at e1 e2
    omega
  · apply List.ext_getElem?
    intro k
    rw [List.getElem?_map, List.getElem?_map]
    by_cases hk : k < a.length
    · rw [List.getElem?_range hk, List.getElem?_map, List.getElem?_eq_getElem hk]
      show some ((a.map (·.1))[k]?) = _
      rw [List.getElem?_map, List.getElem?_eq_getElem hk]
      rfl
    · rw [List.getElem?_eq_none (by rw [List.length_range]; omega), List.getElem?_eq_none (by rw [List.length_map]; omega)]
      rfl
theorem wPerm.trans {a b c : va_W} (h1 : wPerm a b) (h2 : wPerm b c) : wPerm a c := by
  obtain ⟨p1, n1, e1⟩ := h1
  obtain ⟨p2, n2, e2⟩ := h2
  have key : ∀ (i x : Nat), (b.map (·.1))[i]? = some x → p1[i]? = some (p1.getD i 0) ∧ (a.map (·.1))[p1.getD i 0]? = some x := by
    intro i x hx
    have h3 : (p1.map (fun i => (a.map (·.1))[i]?))[i]? = some (some x) := by rw [e1, List.getElem?_map, hx]; rfl
    rw [List.getElem?_map] at h3
    cases hp : p1[i]? with
    | none => rw [hp] at h3; cases h3
    | some y =>
      rw [hp] at h3
      have hy : p1.getD i 0 = y := by rw [List.getD_eq_getElem?_getD, hp]; rfl
      rw [hy]
      exact ⟨rfl, Option.some.inj h3⟩
  have at2 : ∀ (k i : Nat), p2[k]? = some i → ∃ x, (c.map (·.1))[k]? = some x ∧ (b.map (·.1))[i]? = some x := by
    intro k i hk
    have h3 : ((c.map (·.1)).map some)[k]? = some ((b.map (·.1))[i]?) := by rw [← e2, List.getElem?_map, hk]; rfl
    rw [List.getElem?_map] at h3
    cases hc : (c.map (·.1))[k]? with
    | none => rw [hc] at h3; cases h3
    | some x => rw [hc] at h3; exact ⟨x, rfl, (Option.some.inj h3).symm⟩
  refine ⟨p2.map (fun i => p1.getD i 0), va_nd_of _ (fun i j v h3 h4 => ?_), ?_⟩
  · rw [List.getElem?_map] at h3 h4
    cases hi : p2[i]? with
    | none => rw [hi] at h3; cases h3
    | some i2 =>
      cases hj : p2[j]? with
      | none => rw [hj] at h4; cases h4
      | some j2 =>
        rw [hi] at h3
        rw [hj] at h4
        have h3 : p1.getD i2 0 = v := Option.some.inj h3
        have h4 : p1.getD j2 0 = v := Option.some.inj h4
        obtain ⟨x, -, hx⟩ := at2 i i2 hi
        obtain ⟨z, -, hz⟩ := at2 j j2 hj
        have a1 := (key i2 x hx).1
        have a2 := (key j2 z hz).1
        rw [h3] at a1
        rw [h4] at a2
        have := va_nd_inj p1 n1 i2 j2 v a1 a2
        subst this
        exact va_nd_inj p2 n2 i j i2 hi hj
  · apply List.ext_getElem?
    intro k
    rw [List.map_map, List.getElem?_map, ← e2, List.getElem?_map]
    cases hk : p2[k]? with
    | none => rfl
    | some i =>
      obtain ⟨x, -, hx⟩ := at2 k i hk
      show some ((a.map (·.1))[p1.getD i 0]?) = some ((b.map (·.1))[i]?)
      rw [(key i x hx).2, hx]
theorem bY.wp {D : va_G} {A : Nat → Prop} {H0 : Heap} {wa : va_W} {H : Heap} {locs : List Loc} (Y : bY D A H0 wa H locs) : wPerm wa wa := wPerm.rfl' wa Y.2.1.1
section XORROW
variable {p : Program} {l : Launch} {e : Env} {R : Room} {s : State} {m : MethodId} {args : Array Value} {below : List Frame} {meth : Method} {c : Code} {H : Heap} {locs : List Loc} {cells slots : Nat} {Q : State → Prop} {cc : ByteArray} {pc nL : Nat} {ls : Array Slot} {rest : List Value} {Ts : List Cond} {own : String} {D : va_G} {cyC cyI : ClassId}
theorem bXor (X : bX p s m args c cc nL Ts own D cyC cyI) {x z v : Int32} (hdg : decode cc pc = .ok (.ixor, 1)) (hv : x ^^^ z = v) (k : W p l e R s m args below meth c H locs cells slots Q (F0 m (pc + 1) ls (.int v :: rest))) : W p l e R s m args below meth c H locs cells slots Q (F0 m pc ls (.int z :: .int x :: rest)) := by
  subst hv; exact lv_ixor X.1.1 X.1.2.1 hdg k
end XORROW
theorem bY.wpR {D : va_G} {A : Nat → Prop} {H0 : Heap} {al wa : va_W} {H : Heap} {locs : List Loc} (Y : bY D A H0 (al ++ wa) H locs) : wPerm wa wa := wPerm.rfl' wa (fun i j x y hi hj hxy => by have := Y.2.1.1 _ _ x y (lR (wa := al) hi) (lR (wa := al) hj) hxy; omega)
theorem wPerm.cons {a b : va_W} {x y : Nat × va_E} (hxy : x.1 = y.1) (h : wPerm a b) : wPerm ([x] ++ a) ([y] ++ b) := by
  obtain ⟨p, n, e⟩ := h
  refine ⟨0 :: p.map (· + 1), va_nd_of _ (fun i j v h1 h2 => ?_), ?_⟩
  · cases i with
    | zero =>
      cases j with
      | zero => rfl
      | succ j =>
        rw [List.getElem?_cons_succ, List.getElem?_map] at h2
        rw [List.getElem?_cons_zero] at h1
        cases hj : p[j]? with
        | none => rw [hj] at h2; cases h2
        | some z => rw [hj] at h2; have a1 := Option.some.inj h1; have a2 : z + 1 = v := Option.some.inj h2; omega
    | succ i =>
      cases j with
      | zero =>
        rw [List.getElem?_cons_succ, List.getElem?_map] at h1
        rw [List.getElem?_cons_zero] at h2
        cases hj : p[i]? with
        | none => rw [hj] at h1; cases h1
        | some z => rw [hj] at h1; have a1 := Option.some.inj h2; have a2 : z + 1 = v := Option.some.inj h1; omega
      | succ j =>
        rw [List.getElem?_cons_succ, List.getElem?_map] at h1 h2
        cases hi : p[i]? with
        | none => rw [hi] at h1; cases h1
        | some z =>
          cases hj : p[j]? with
          | none => rw [hj] at h2; cases h2
          | some z2 =>
            rw [hi] at h1
            rw [hj] at h2
            have a1 : z + 1 = v := Option.some.inj h1
            have a2 : z2 + 1 = v := Option.some.inj h2
            have a3 : z = z2 := by omega
            subst a3
            have := va_nd_inj p n i j z hi hj
            omega
  · show some x.1 :: (p.map (· + 1)).map (fun i => ((([x] ++ a).map (·.1)))[i]?) = some y.1 :: (b.map (·.1)).map some
    rw [hxy, List.map_map]
    congr 1
def pt (v n : Int32) : Int32 := (v &&& 2147483647) - (v &&& 2147483647) / n * n
theorem kk_part : Cond.constant RL 7 (2147483647) ∈ wsL_part := by decide +kernel
set_option maxHeartbeats 4000000 in
theorem c_part (l : Launch) (D : va_G) (cyC cyI : ClassId) (v n : Int32) (hn : ¬ n = 0) : CI l yL_part wsL_part { frames := 0, cells := 0, slots := 0, locals := 0 } D cyC cyI [.int v, .int n] [] (pt v n) [] := by
  refine CI.of (cc := cL_part) (n := 2) (ret := (some .int)) (by decide +kernel) rfl (Nat.le_of_ble_eq_true rfl) ?_
  intro p_ e_ s_ m_ bl_ me_ cd_ A_ ls X Y hr hlk hl
  have hx := X.1.1
  have hb := X.1.2.1
  have hl : lv_has ls 2 [(0, .int v), (1, .int n)] := hl
  refine lv_iload_n hx hb dL_part_0 rfl (lv_at hl 0 rfl) ?_
  refine lv_ldc (v := 2147483647) hx hb X.1.2.2.2.1 (X.1.2.2.2.2 _ kk_part) dL_part_1 ?_
  refine bAnd (v := v &&& 2147483647) X dL_part_3 rfl ?_
  refine lv_iload_n hx hb dL_part_4 rfl (lv_at hl 1 rfl) ?_
  refine bRem (v := pt v n) X dL_part_5 hn rfl ?_
  exact bEndI X Y hr hlk dL_part_6 rfl rfl
def szI (v : Int32) : Int32 := if 0 ≤ v then v else -v
set_option maxHeartbeats 4000000 in
theorem c_size (l : Launch) (D : va_G) (cyC cyI : ClassId) (v : Int32) : CI l yL_size wsL_size { frames := 0, cells := 0, slots := 0, locals := 0 } D cyC cyI [.int v] [] (szI v) [] := by
  refine CI.of (cc := cL_size) (n := 1) (ret := (some .int)) (by decide +kernel) rfl (Nat.le_of_ble_eq_true rfl) ?_
  intro p_ e_ s_ m_ bl_ me_ cd_ A_ ls X Y hr hlk hl
  have hx := X.1.1
  have hb := X.1.2.1
  have hl : lv_has ls 1 [(0, .int v)] := hl
  refine lv_iload_n hx hb dL_size_0 rfl (lv_at hl 0 rfl) ?_
  refine lv_if_ge (tgt := 9) hx hb dL_size_1 (by decide) (fun c_1 => ?_) (fun c_1 => ?_)
  · refine lv_iload_n hx hb dL_size_9 rfl (lv_at hl 0 rfl) ?_
    exact bEndI X Y hr hlk dL_size_10 (if_pos (show 0 ≤ v from c_1)).symm rfl
  · refine lv_iload_n hx hb dL_size_4 rfl (lv_at hl 0 rfl) ?_
    refine bNeg (v := -v) X dL_size_5 rfl ?_
    refine lv_goto (tgt := 10) hx hb dL_size_6 (by decide) ?_
    exact bEndI X Y hr hlk dL_size_10 (if_neg (show ¬ 0 ≤ v from c_1)).symm rfl
/-- the letters of a number -/
def dg (v : Int32) : List Int32 := (if v ≤ 99 then [] else [48 + v / 100]) ++ (if v ≤ 9 then [] else [48 + (v / 10 - v / 10 / 10 * 10)]) ++ [48 + (v - v / 10 * 10)]
theorem dg_fin : ∀ k : Nat, k < 1000 → (∀ x ∈ dg (nI k), 48 ≤ x.toInt ∧ x.toInt ≤ 57) ∧ (dg (nI k)).length ≤ 3 ∧ (48 ≤ (48 + nI k / 100).toInt ∧ (48 + nI k / 100).toInt ≤ 57) ∧ (48 ≤ (48 + (nI k / 10 - nI k / 10 / 10 * 10)).toInt ∧ (48 + (nI k / 10 - nI k / 10 / 10 * 10)).toInt ≤ 57) ∧ (48 ≤ (48 + (nI k - nI k / 10 * 10)).toInt ∧ (48 + (nI k - nI k / 10 * 10)).toInt ≤ 57) := by decide +kernel
theorem asNI {v : Int32} (h : 0 ≤ v.toInt ∧ v.toInt ≤ 1000) : v = nI v.toInt.toNat := by rw [eqI, nIt (by omega)]; omega
theorem dg_b {v : Int32} (h : 0 ≤ v.toInt ∧ v.toInt ≤ 999) : (dg v).length ≤ 3 ∧ (48 ≤ (48 + v / 100).toInt ∧ (48 + v / 100).toInt ≤ 57) ∧ (48 ≤ (48 + (v / 10 - v / 10 / 10 * 10)).toInt ∧ (48 + (v / 10 - v / 10 / 10 * 10)).toInt ≤ 57) ∧ (48 ≤ (48 + (v - v / 10 * 10)).toInt ∧ (48 + (v - v / 10 * 10)).toInt ≤ 57) := by
  have e := asNI (v := v) (by omega)
  have := dg_fin v.toInt.toNat (by omega)
  rw [← e] at this
  exact this.2
