/-! THE START: literals, statics, classes -/
abbrev tmS (i : Nat) : Term := .string RX0 (poS i)
abbrev fLs : List Cond := flatC (Jvm.Cond.and given_1 narrow_1)
set_option maxRecDepth 100000 in
theorem st_ex : ∀ i, i < 11 → Cond.exactly (tmS i) "java/lang/String" ∈ fLs := by decide +kernel
set_option maxRecDepth 100000 in
theorem st_co : ∀ i, i < 11 → Cond.eq (.field (tmS i) "java/lang/String" "coder" "B") (.int 0) ∈ fLs := by decide +kernel
set_option maxRecDepth 100000 in
theorem st_ar : ∀ i, i < 11 → Cond.arrayOf (.field (tmS i) "java/lang/String" "value" "[B") .byte ∈ fLs := by decide +kernel
set_option maxRecDepth 100000 in
theorem st_le : ∀ i, i < 11 → Cond.eq (.length (.field (tmS i) "java/lang/String" "value" "[B")) (.int (Int32.ofNat (lenS.getD i 0))) ∈ fLs := by decide +kernel
set_option maxRecDepth 100000 in
theorem st_el : ∀ i, i < 11 → ∀ j, j < lenS.getD i 0 → Cond.eq (.elem (.field (tmS i) "java/lang/String" "value" "[B") (.int (Int32.ofNat j))) (.int ((bytS.getD i []).getD j 0)) ∈ fLs := by decide +kernel
set_option maxRecDepth 100000 in
theorem st_ne : ∀ i, i < 11 → ∀ j, j < 11 → i ≠ j → (Cond.not (Cond.eq (tmS i) (tmS j)) ∈ fLs ∨ Cond.not (Cond.eq (tmS j) (tmS i)) ∈ fLs) := by decide +kernel
set_option maxRecDepth 100000 in
theorem st_cs : Cond.eq (.static "java/lang/String" "COMPACT_STRINGS" "Z") (.int 1) ∈ fLs := by decide +kernel
set_option maxRecDepth 100000 in
theorem st_fm : Cond.isRef (.static "jdk/internal/util/Preconditions" "SIOOBE_FORMATTER" "Ljava/util/function/BiFunction;") ∈ fLs := by decide +kernel
set_option maxRecDepth 100000 in
set_option maxHeartbeats 4000000 in
theorem st_SX {s : State} {a : Nat} (hts0 : ∀ w ∈ lw_tbl, w.before #[Value.ref a] s = true) (hgv : (Jvm.Cond.and given_1 narrow_1).before #[Value.ref a] s = true) : ∃ (ad av : Nat → Nat) (fm : Option Nat), SX ad av fm (fun q : Nat => s.heap.size ≤ q) s s.heap := by
  have hs := flat_of_before _ hgv
  have hA : ∀ q : Nat, q < s.heap.size → ¬ (fun q : Nat => s.heap.size ≤ q) q := fun q h => Nat.not_le.mpr h
  obtain ⟨ad, av, h1, h2⟩ := vk_Sof (N := 11) (tm := tmS) (len := lenS) (byt := bytS) (A := (fun q : Nat => s.heap.size ≤ q)) (by decide) (fun i hi => hs _ (st_ex i hi)) (fun i hi => hs _ (st_co i hi)) (fun i hi => hs _ (st_ar i hi)) (fun i hi => hs _ (st_le i hi)) (fun i hi j hj => hs _ (st_el i hi j hj)) (fun i j hi hj hij => (st_ne i hi j hj hij).elim (fun h => Or.inl (hs _ h)) (fun h => Or.inr (hs _ h))) hA
  have h3 : va_Z "java/lang/String" "COMPACT_STRINGS" "Z" (.int 1) (fun q : Nat => s.heap.size ≤ q) s s.heap := va_Zof (hts0 (.laysStatic "java/lang/String" "COMPACT_STRINGS" "Z") (List.mem_append_right _ (List.mem_of_getElem? (i := 449) (by decide +kernel)))) (hts0 (.initialized "java/lang/String") (List.mem_append_right _ (List.mem_of_getElem? (i := 12) (by decide +kernel)))) (va_eqt (hs _ st_cs)) hA
  have h4 : ∀ i : Nat, i < 11 → vk_R RX0 (poS i) (txS i) (ad i) s := fun i hi => vk_R.of (A := #[Value.ref a]) (match i, hi with
    | 0, _ => hts0 (.stringRef RX0 71 "guest") (List.mem_append_right _ (List.mem_of_getElem? (i := 521) (by decide +kernel)))
    | 1, _ => hts0 (.stringRef RX0 61 "bishop") (List.mem_append_right _ (List.mem_of_getElem? (i := 516) (by decide +kernel)))
    | 2, _ => hts0 (.stringRef RX0 63 "lady") (List.mem_append_right _ (List.mem_of_getElem? (i := 517) (by decide +kernel)))
    | 3, _ => hts0 (.stringRef RX0 65 "envoy") (List.mem_append_right _ (List.mem_of_getElem? (i := 518) (by decide +kernel)))
    | 4, _ => hts0 (.stringRef RX0 67 "cardinal") (List.mem_append_right _ (List.mem_of_getElem? (i := 519) (by decide +kernel)))
    | 5, _ => hts0 (.stringRef RX0 69 "bride") (List.mem_append_right _ (List.mem_of_getElem? (i := 520) (by decide +kernel)))
    | 6, _ => hts0 (.stringRef RX0 30 "lay") (List.mem_append_right _ (List.mem_of_getElem? (i := 435) (by decide +kernel)))
    | 7, _ => hts0 (.stringRef RX0 39 "change") (List.mem_append_right _ (List.mem_of_getElem? (i := 505) (by decide +kernel)))
    | 8, _ => hts0 (.stringRef RX0 88 "heart") (List.mem_append_right _ (List.mem_of_getElem? (i := 495) (by decide +kernel)))
    | 9, _ => hts0 (.stringRef RX0 94 "cross") (List.mem_append_right _ (List.mem_of_getElem? (i := 499) (by decide +kernel)))
    | 10, _ => hts0 (.stringRef RX0 96 "spoon") (List.mem_append_right _ (List.mem_of_getElem? (i := 500) (by decide +kernel)))
    | (k + 11), h => absurd h (by omega)) (h2 i hi)
  have h5 : va_Zq "jdk/internal/util/Preconditions" "SIOOBE_FORMATTER" "Ljava/util/function/BiFunction;" (fun q : Nat => s.heap.size ≤ q) s s.heap := va_Zqof (hts0 (.laysStatic "jdk/internal/util/Preconditions" "SIOOBE_FORMATTER" "Ljava/util/function/BiFunction;") (List.mem_append_right _ (List.mem_of_getElem? (i := 465) (by decide +kernel)))) (hts0 (.initialized "jdk/internal/util/Preconditions") (List.mem_append_right _ (List.mem_of_getElem? (i := 14) (by decide +kernel)))) (hs _ st_fm) hA
  rcases h5 with h5 | ⟨t, h5⟩
  · exact ⟨ad, av, none, h1, h3, h5, h4⟩
  · exact ⟨ad, av, some t, h1, h3, h5, h4⟩
set_option maxRecDepth 100000 in
set_option maxHeartbeats 4000000 in
theorem st_K {s : State} {a : Nat} (hts0 : ∀ w ∈ lw_tbl, w.before #[Value.ref a] s = true) : ∃ (D : va_G) (cI cL cS : ClassId), va_K D vwCl (tyG cI cL cS) s ∧ va_AO "KnivesLaid$Sheet" s := by
  obtain ⟨c2, i2, hk2⟩ := u_known (C := RX2) (T := TX2) (N := 3) (n := 3) hts0 in_wsX20 (hts0 (.instantiable RX2 3) (List.mem_append_right _ (List.mem_of_getElem? (i := 122) (by decide +kernel))))
  obtain ⟨c3, i3, hk3⟩ := u_known (C := RX3) (T := TX3) (N := 13) (n := 13) hts0 in_wsX30 (hts0 (.instantiable RX3 13) (List.mem_append_right _ (List.mem_of_getElem? (i := 25) (by decide +kernel))))
  obtain ⟨c4, i4, hk4⟩ := u_known (C := RX4) (T := TX4) (N := 6) (n := 6) hts0 in_wsX40 (hts0 (.instantiable RX4 6) (List.mem_append_right _ (List.mem_of_getElem? (i := 88) (by decide +kernel))))
  obtain ⟨c5, i5, hk5⟩ := u_known (C := RX5) (T := TX5) (N := 7) (n := 7) hts0 in_wsX50 (hts0 (.instantiable RX5 7) (List.mem_append_right _ (List.mem_of_getElem? (i := 17) (by decide +kernel))))
  obtain ⟨c6, i6, hk6⟩ := u_known (C := RX6) (T := TX6) (N := 20) (n := 20) hts0 in_wsX60 (hts0 (.instantiable RX6 20) (List.mem_append_right _ (List.mem_of_getElem? (i := 615) (by decide +kernel))))
  obtain ⟨cI, kI, pI, fI, gI, hI⟩ := Cond.arrayClass_spec (hts0 (.arrayClass .int) (List.mem_append_right _ (List.mem_of_getElem? (i := 86) (by decide +kernel))))
  obtain ⟨cL, kL, pL, fL, gL, hL⟩ := Cond.arrayClass_spec (hts0 (.arrayClass .long) (List.mem_append_right _ (List.mem_of_getElem? (i := 140) (by decide +kernel))))
  have hO := hts0 (.arrayOver (.object "KnivesLaid$Sheet")) (List.mem_append_right _ (List.mem_of_getElem? (i := 121) (by decide +kernel)))
  obtain ⟨pS, cS, kS, fS, -, gS, hS, eS⟩ := Cond.arrayOver_spec hO
  refine ⟨(fun k => match k with | 0 => c2 | 1 => c3 | 2 => c4 | 3 => c5 | _ => c6, fun k => match k with | 0 => i2 | 1 => i3 | 2 => i4 | 3 => i5 | _ => i6), cI, cL, cS, ⟨?_, ?_⟩, va_AO.of hO⟩
  · intro k q hq
    match k, hq with
    | 0, hq => cases hq; exact hk2
    | 1, hq => cases hq; exact hk3
    | 2, hq => cases hq; exact hk4
    | 3, hq => cases hq; exact hk5
    | 4, hq => cases hq; exact hk6
    | k + 5, hq => cases hq
  · intro k q hq
    match k, hq with
    | 0, hq => cases hq; exact ⟨fun n z => ⟨(fun k h => by cases h), kI, gI, pI, hI⟩, fI⟩
    | 1, hq => cases hq; exact ⟨fun n z => ⟨(fun k h => by cases h), kL, gL, pL, hL⟩, fL⟩
    | 2, hq => cases hq; exact ⟨fun n z => ⟨(fun k h => by cases h), kS, gS, pS, hS⟩, kS, pS, gS, hS, fS, eS⟩
    | k + 3, hq => cases hq
