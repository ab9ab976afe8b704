theorem lAt {pl : List Nat} {wa w2 : va_W} (hp : pl.map (fun i => (wa.map (·.1))[i]?) = (w2.map (·.1)).map some) {k : Nat} {q : Nat × va_E} (h : w2[k]? = some q) : ∃ (i : Nat) (e : va_E), pl[k]? = some i ∧ wa[i]? = some (q.1, e) := by
  have h1 : ((w2.map (·.1)).map some)[k]? = some (some q.1) := by rw [List.getElem?_map, List.getElem?_map, h]; rfl
  rw [← hp, List.getElem?_map] at h1
  cases hi : pl[k]? with
  | none => rw [hi] at h1; cases h1
  | some i =>
    rw [hi] at h1
    have h2 : (wa.map (·.1))[i]? = some q.1 := Option.some.inj h1
    rw [List.getElem?_map] at h2
    cases hw : wa[i]? with
    | none => rw [hw] at h2; cases h2
    | some x =>
      rw [hw] at h2
      have h3 : x.1 = q.1 := Option.some.inj h2
      exact ⟨i, x.2, rfl, by rw [hw, ← h3]⟩
theorem lGet {wa wb : va_W} {k : Nat} {q : Nat × va_E} (h : (wa ++ wb)[k]? = some q) : wa[k]? = some q ∨ (wa.length ≤ k ∧ wb[k - wa.length]? = some q) := by
  rcases Nat.lt_or_ge k wa.length with z | z
  · rw [List.getElem?_append_left z] at h; exact Or.inl h
  · rw [List.getElem?_append_right z] at h; exact Or.inr ⟨z, h⟩
theorem lL {wa wb : va_W} {k : Nat} {q : Nat × va_E} (h : wa[k]? = some q) : (wa ++ wb)[k]? = some q := by
  rw [List.getElem?_append_left (List.getElem?_eq_some_iff.mp h).1]; exact h
theorem lR {wa wb : va_W} {k : Nat} {q : Nat × va_E} (h : wb[k]? = some q) : (wa ++ wb)[wa.length + k]? = some q := by
  rw [List.getElem?_append_right (by omega), Nat.add_sub_cancel_left]; exact h
theorem lLt {wa : va_W} {k : Nat} {q : Nat × va_E} (h : wa[k]? = some q) : k < wa.length := (List.getElem?_eq_some_iff.mp h).1
/-- behind a call by the first part of the world -/
theorem lJoinA {D : va_G} {A0 : Nat → Prop} {wa wb w2 : va_W} {H H1 : Heap} (hP : va_P D vwCl (wa ++ wb) H) (hD : va_D A0 (wa ++ wb)) (hp : wPerm wa w2) (hk : ∀ q : Nat, q < H.size → ¬ va_A wa H.size q → H1[q]? = H[q]?) (hP1 : va_P D vwCl w2 H1) : va_P D vwCl (w2 ++ wb) H1 ∧ va_D A0 (w2 ++ wb) := by
  obtain ⟨pl, hnd, hp⟩ := hp
  refine ⟨fun k q h => ?_, fun i j x y hi hj hxy => ?_, fun k q h => ?_⟩
  · rcases lGet h with h1 | ⟨h0, h1⟩
    · exact hP1 k q h1
    · have h2 : (wa ++ wb)[wa.length + (k - w2.length)]? = some q := lR h1
      refine (hP _ q h2).kept (hk q.1 (hP _ q h2).lt ?_)
      rintro (⟨k2, e, z⟩ | z)
      · have h5 := hD.1 _ _ (q.1, e) q (lL z) h2 rfl
        have h6 := lLt z
        omega
      · exact absurd (hP _ q h2).lt (Nat.not_lt.mpr z)
  · rcases lGet hi with h1 | ⟨h0, h1⟩ <;> rcases lGet hj with h2 | ⟨h3, h2⟩
    · obtain ⟨a, e, a1, a2⟩ := lAt hp h1
      obtain ⟨b, f, b1, b2⟩ := lAt hp h2
      have h5 := hD.1 a b _ _ (lL a2) (lL b2) hxy
      subst h5
      exact va_nd_inj pl hnd i j a a1 b1
    · obtain ⟨a, e, a1, a2⟩ := lAt hp h1
      have h5 := hD.1 _ _ _ _ (lL a2) (lR h2) hxy
      have h6 := lLt a2
      omega
    · obtain ⟨b, f, b1, b2⟩ := lAt hp h2
      have h5 := hD.1 _ _ _ _ (lR h1) (lL b2) hxy
      have h6 := lLt b2
      omega
    · have h5 := hD.1 _ _ _ _ (lR (wa := wa) h1) (lR h2) hxy
      omega
  · rcases lGet h with h1 | ⟨h0, h1⟩
    · obtain ⟨a, e, a1, a2⟩ := lAt hp h1
      exact hD.2 a (q.1, e) (lL a2)
    · exact hD.2 _ q (lR h1)
/-- behind a call by the second part of the world -/
theorem lJoinB {D : va_G} {A0 : Nat → Prop} {wa wb w2 : va_W} {H H1 : Heap} (hP : va_P D vwCl (wa ++ wb) H) (hD : va_D A0 (wa ++ wb)) (hp : wPerm wb w2) (hk : ∀ q : Nat, q < H.size → ¬ va_A wb H.size q → H1[q]? = H[q]?) (hP1 : va_P D vwCl w2 H1) : va_P D vwCl (wa ++ w2) H1 ∧ va_D A0 (wa ++ w2) := by
  obtain ⟨pl, hnd, hp⟩ := hp
  refine ⟨fun k q h => ?_, fun i j x y hi hj hxy => ?_, fun k q h => ?_⟩
  · rcases lGet h with h1 | ⟨h0, h1⟩
    · have h2 : (wa ++ wb)[k]? = some q := lL h1
      refine (hP _ q h2).kept (hk q.1 (hP _ q h2).lt ?_)
      rintro (⟨k2, e, z⟩ | z)
      · have h5 := hD.1 _ _ (q.1, e) q (lR z) h2 rfl
        have h6 := lLt h1
        omega
      · exact absurd (hP _ q h2).lt (Nat.not_lt.mpr z)
    · exact hP1 _ q h1
  · rcases lGet hi with h1 | ⟨h0, h1⟩ <;> rcases lGet hj with h2 | ⟨h3, h2⟩
    · exact hD.1 _ _ _ _ (lL h1) (lL h2) hxy
    · obtain ⟨b, f, b1, b2⟩ := lAt hp h2
      have h5 := hD.1 _ _ _ _ (lL h1) (lR b2) hxy
      have h6 := lLt h1
      omega
    · obtain ⟨a, e, a1, a2⟩ := lAt hp h1
      have h5 := hD.1 _ _ _ _ (lR a2) (lL h2) hxy
      have h6 := lLt h2
      omega
    · obtain ⟨a, e, a1, a2⟩ := lAt hp h1
      obtain ⟨b, f, b1, b2⟩ := lAt hp h2
      have h5 := hD.1 _ _ _ _ (lR a2) (lR b2) hxy
      have h7 : a = b := by omega
      subst h7
      have h8 := va_nd_inj pl hnd _ _ a a1 b1
      omega
  · rcases lGet h with h1 | ⟨h0, h1⟩
    · exact hD.2 _ q (lL h1)
    · obtain ⟨a, e, a1, a2⟩ := lAt hp h1
      exact hD.2 _ (q.1, e) (lR a2)
section LCALL
variable {p : Program} {l : Launch} {e : Env} {R : Room} {s : State} {m : MethodId} {args : Array Value} {below : List Frame} {meth : Method} {c : Code} {H : Heap} {locs : List Loc} {cells slots : Nat} {Q : State → Prop}
variable {cc bytes : ByteArray} {pc nL maxL index n : Nat} {ls : Array Slot} {rest st0 As : List Value} {D : va_G} {cyC cyI : ClassId} {A : Nat → Prop} {b : Nat} {wa wb w2 : va_W} {H0 : Heap} {Ts wsy wsy' : List Cond} {own C : String} {y : MethodName} {ret : Option FieldType} {rm : Room} {r : Int32}
/-- the law calls, by the second part of the world -/
theorem bLB (X : bX p s m args c cc nL Ts own D cyC cyI) (Y : bY D A H0 (wa ++ wb) H locs) (hM : CI l y wsy rm D cyC cyI (.ref b :: As) wb r w2) (hp : wPerm wb w2) (hG : GoodIn Ts (wsV own index C y wsy)) (hw : wsy = Cond.code y bytes maxL ret :: wsy') (hrm : rm.cells = 0 ∧ rm.slots = 0) (hd : bD1 y C n) (hR : rm.frames + 1 ≤ R.frames ∧ 8 + (maxL + 11) + rm.locals ≤ R.locals)
    {ci : Nat} {q : vw_C} {fs : List Value} (hc : vwCl[ci]? = some q) (hqC : q.1 = C) (he : wb[0]? = some (b, .inr (ci, fs)))
    (hn : As.length = n) (hst : st0 = As.reverse ++ .ref b :: rest) (hsz : ls.size = nL) (hroom : (rest.map fun v => v.category).sum ≤ 8) (hcl : cells ≤ R.cells ∧ slots ≤ R.slots) (hdg : decode cc pc = .ok (.invokevirtual index, 3))
    (kk : ∀ (H1 : Heap) (locs1 : List Loc), bY D A H0 (wa ++ w2) H1 locs1 → W p l e R s m args below meth c H1 locs1 cells slots Q (F0 m (pc + 3) ls (.int r :: rest))) : W p l e R s m args below meth c H locs cells slots Q (F0 m pc ls st0) := by
  subst hqC
  have hPc : va_P D vwCl wb H := fun k q h => Y.1 _ q (lR h)
  have hDc : va_D (fun _ => True) wb := ⟨fun i j x y hi hj hxy => by have := Y.2.1.1 _ _ x y (lR hi) (lR hj) hxy; omega, fun _ _ _ => trivial⟩
  have hF : ∀ q, va_A wb H.size q → A q := by
    rintro q (⟨k, e, h⟩ | h)
    · exact Y.2.1.2 _ (q, e) (lR h)
    · exact Y.2.2.2 q (Nat.le_trans Y.2.2.1.1 h)
  refine va_calli (va_runV (As := As) (rest := rest) X.1 (hM H.size) (cwV n X.1.2.2.2.2 hG hw hrm.1 hrm.2 hd hR) ⟨bP.blind, va_recv X.2.1 Y.1 hc (lR he), bPre X hPc hDc _⟩ rfl hn hsz hst (lv_room hroom) hdg ⟨hcl.1, hcl.2⟩) Y.2.2.1 (fun q _ h => hF q h) hF (fun r1 u t H1 locs1 ht hvm hw hB hz1 hk1 hS => ?_)
  rw [ht] at hB
  subst hw
  obtain ⟨g1, g2⟩ := lJoinB Y.1 Y.2.1 hp hk1 hB
  exact kk H1 locs1 ⟨g1, g2, hS, Y.2.2.2⟩
end LCALL
