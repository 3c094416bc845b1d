set_option maxRecDepth 100000 in
set_option maxHeartbeats 4000000 in
theorem law_mood {p : Program} {l : Launch} {e : Env} {s : State} {m : MethodId} {below : List Frame} {meth : Method} {c : Code} {a L : Nat} {xs : Nat → Int32} (hL : L ≤ 3072) (C0 : lw_At p s m meth c a L xs) {D : va_G} {cI cL cS : ClassId} {b : Nat → Nat → Nat} {bm ad av : Nat → Nat} {fm : Option Nat} (hK : va_K D vwCl (tyG cI cL cS) s) (hD0 : va_D (fun q : Nat => s.heap.size ≤ q) (djk b ++ dj0 bm 13)) (hZ : SX ad av fm (fun q : Nat => s.heap.size ≤ q) s s.heap) {H : Heap} {locs : List Loc} {ls : Array Slot} {i : Nat} (hI : LW D cI cL cS b bm H) (hS : va_S (fun q : Nat => s.heap.size ≤ q) s.heap H locs) (hi : i + 6 ≤ L) (hl : lv_has ls 4 [(3, .int (nI i)), (2, .ref (bm 0)), (1, .ref (b 0 0)), (0, .ref a)]) (k : ∀ (H : Heap) (locs : List Loc), LW D cI cL cS b bm H → va_S (fun q : Nat => s.heap.size ≤ q) s.heap H locs → W p l e room_1 s m #[Value.ref a] below meth c H locs 62 1366 (lw_Z below #[Value.ref a] s) (F0 m 1281 ls [])) : W p l e room_1 s m #[Value.ref a] below meth c H locs 62 1366 (lw_Z below #[Value.ref a] s) (F0 m 598 ls []) := by
  obtain ⟨hx, hb, hr, hml, hown, hts0, hX, hbl, hlocks, hgv⟩ := id C0
  have hown : s.vm.findClass RL = some m.cls := hown
  have hts : ∀ w ∈ wsL_law, w.before #[Value.ref a] s = true := fun w h => hts0 w (wsL_law_in w h)
  have hbA : ¬ (fun q : Nat => s.heap.size ≤ q) a := Nat.not_le.mpr hbl
  have hdk : va_D (fun _ => True) (djk b) := va_DT (va_segD hD0 0 49 rfl) rfl
  have hdm : va_D (fun _ => True) (dj0 bm 13) := va_DT (va_segD hD0 49 13 rfl) rfl
  have hD : ∀ ws' : va_W, ws'.map Prod.fst = (djk b ++ dj0 bm 13).map Prod.fst → va_D (fun q : Nat => s.heap.size ≤ q) ws' := fun ws' e => va_D_adr hD0 e
  obtain ⟨s1, w1, m1, n1, s2, w2, m2, n2, s3, w3, m3, n3, ik, bt, ln, tk, sb, en, nm, bits, size, num, fnd, mo, tr, b1, so, bg, te, wd, va, gd, le, im, bf, hP, o1, o3, oh, ol, hB, him⟩ := hI
  refine lv_aload_n hx hb dL_law_598 rfl (lv_at hl 2 rfl) ?_
  refine lv_aload_n hx hb dL_law_599 rfl (lv_at hl 3 rfl) ?_
  refine lv_iload_n hx hb dL_law_600 rfl (lv_at hl 0 rfl) ?_
  refine lv_iconst (v := 1) hx hb dL_law_601 (by decide) ?_
  refine lv_iadd hx hb dL_law_602 ?_
  refine va_sld hx hb hX hbl hbA hS (sx_in (k := 1) hi (by decide) hL) dL_law_603 ?_
  refine callMi (va_runV (As := [.int (xs (ix (nI i + 1)))]) (rest := []) ⟨hx, hb, hml, hown, hts⟩ (k_X5_mood l D cI cL cS b s1 w1 m1 n1 s2 w2 m2 n2 s3 w3 m3 n3 ik bt ln tk sb en nm bits size num fnd (xs (ix (nI i + 1))) hdk o1) (cwV 1 hts gL_law_X5_mood rfl rfl rfl (by decide +kernel) ⟨Nat.le_of_ble_eq_true rfl, Nat.le_of_ble_eq_true rfl⟩) ⟨PcR_fb, va_recv hK hP (ci := 3) (q0 := 0) rfl rfl, PcR_pre (va_seg hP 0 49 rfl) hK⟩ rfl rfl hl.1 rfl (lv_room (Nat.le_of_ble_eq_true rfl)) dL_law_604 ⟨Nat.le_of_ble_eq_true rfl, Nat.le_of_ble_eq_true rfl⟩) hP (hD _ rfl) hS 0 49 rfl (fun r1 u H locs h1 hP hS => ?_)
  obtain ⟨x1, x2, x3, x4, x5⟩ := u
  have hP : va_P D vwCl (kcw cI cL cS b s1 w1 m1 n1 x1 x2 x3 x4 s3 w3 m3 n3 ik bt ln tk sb en nm bits size num x5 ++ mdw cI cL bm (encS s1) fnd mo tr b1 bt ln so bg te wd va gd bits size (flat4 num) le im bf ik) H := hP
  refine lv_aload_n hx hb dL_law_607 rfl (lv_at hl 1 rfl) ?_
  refine lv_aload_n hx hb dL_law_608 rfl (lv_at hl 3 rfl) ?_
  refine lv_iload_n hx hb dL_law_609 rfl (lv_at hl 0 rfl) ?_
  refine lv_iconst (v := 1) hx hb dL_law_610 (by decide) ?_
  refine lv_iadd hx hb dL_law_611 ?_
  refine va_sld hx hb hX hbl hbA hS (sx_in (k := 1) hi (by decide) hL) dL_law_612 ?_
  refine callMi (va_runV (As := [.int (xs (ix (nI i + 1)))]) (rest := [.int r1]) ⟨hx, hb, hml, hown, hts⟩ (k_X6_mood l D cI cL cS bm (sCo s1) (sGu s1) (sKn s1) (sFo s1) (sSp s1) (sKi s1) (sPl s1) (sEa s1) (sTo s1) (sQu s1) fnd mo tr b1 bt ln so bg te wd va gd bits size (flat4 num) le im bf ik (xs (ix (nI i + 1))) hdm o1.1.cC o1.2) (cwV 1 hts gL_law_X6_mood rfl rfl rfl (by decide +kernel) ⟨Nat.le_of_ble_eq_true rfl, Nat.le_of_ble_eq_true rfl⟩) ⟨PcR_fb, va_recv hK hP (ci := 4) (q0 := 49) rfl rfl, PcR_pre (va_seg hP 49 13 rfl) hK⟩ rfl rfl hl.1 rfl (lv_room (Nat.le_of_ble_eq_true rfl)) dL_law_613 ⟨Nat.le_of_ble_eq_true rfl, Nat.le_of_ble_eq_true rfl⟩) hP (hD _ rfl) hS 49 13 rfl (fun r2 u H locs h2 hP hS => ?_)
  obtain ⟨y1, y2, y3⟩ := u
  have hP : va_P D vwCl (kcw cI cL cS b s1 w1 m1 n1 x1 x2 x3 x4 s3 w3 m3 n3 ik bt ln tk sb en nm bits size num x5 ++ mdw cI cL bm (encS s1) y3 y1 y2 b1 bt ln so bg te wd va gd bits size (flat4 num) le im bf ik) H := hP
  have eq := (h1).trans (h2).symm
  have eq : (r1, x5) = (r2, y3) := eq
  cases eq
  exact lv_icmp_eq (tgt := 1281) hx hb dL_law_616 (by decide) (fun _ => k H locs ⟨_, _, _, _, _, _, _, _, _, _, _, _, _, _, _, _, _, _, _, _, _, _, _, _, _, _, _, _, _, _, _, _, _, _, _, hP, o1, o3, oh, ol, hB, him⟩ hS) (fun q9 => absurd rfl q9)

set_option maxRecDepth 100000 in
set_option maxHeartbeats 4000000 in
theorem law_peace {p : Program} {l : Launch} {e : Env} {s : State} {m : MethodId} {below : List Frame} {meth : Method} {c : Code} {a L : Nat} {xs : Nat → Int32} (hL : L ≤ 3072) (C0 : lw_At p s m meth c a L xs) {D : va_G} {cI cL cS : ClassId} {b : Nat → Nat → Nat} {bm ad av : Nat → Nat} {fm : Option Nat} (hK : va_K D vwCl (tyG cI cL cS) s) (hD0 : va_D (fun q : Nat => s.heap.size ≤ q) (djk b ++ dj0 bm 13)) (hZ : SX ad av fm (fun q : Nat => s.heap.size ≤ q) s s.heap) {H : Heap} {locs : List Loc} {ls : Array Slot} {i : Nat} (hI : LW D cI cL cS b bm H) (hS : va_S (fun q : Nat => s.heap.size ≤ q) s.heap H locs) (hi : i + 6 ≤ L) (hl : lv_has ls 4 [(3, .int (nI i)), (2, .ref (bm 0)), (1, .ref (b 0 0)), (0, .ref a)]) (k : ∀ (H : Heap) (locs : List Loc), LW D cI cL cS b bm H → va_S (fun q : Nat => s.heap.size ≤ q) s.heap H locs → W p l e room_1 s m #[Value.ref a] below meth c H locs 62 1366 (lw_Z below #[Value.ref a] s) (F0 m 1281 ls [])) : W p l e room_1 s m #[Value.ref a] below meth c H locs 62 1366 (lw_Z below #[Value.ref a] s) (F0 m 621 ls []) := by
  obtain ⟨hx, hb, hr, hml, hown, hts0, hX, hbl, hlocks, hgv⟩ := id C0
  have hown : s.vm.findClass RL = some m.cls := hown
  have hts : ∀ w ∈ wsL_law, w.before #[Value.ref a] s = true := fun w h => hts0 w (wsL_law_in w h)
  have hbA : ¬ (fun q : Nat => s.heap.size ≤ q) a := Nat.not_le.mpr hbl
  have hdk : va_D (fun _ => True) (djk b) := va_DT (va_segD hD0 0 49 rfl) rfl
  have hdm : va_D (fun _ => True) (dj0 bm 13) := va_DT (va_segD hD0 49 13 rfl) rfl
  have hD : ∀ ws' : va_W, ws'.map Prod.fst = (djk b ++ dj0 bm 13).map Prod.fst → va_D (fun q : Nat => s.heap.size ≤ q) ws' := fun ws' e => va_D_adr hD0 e
  obtain ⟨s1, w1, m1, n1, s2, w2, m2, n2, s3, w3, m3, n3, ik, bt, ln, tk, sb, en, nm, bits, size, num, fnd, mo, tr, b1, so, bg, te, wd, va, gd, le, im, bf, hP, o1, o3, oh, ol, hB, him⟩ := hI
  refine lv_aload_n hx hb dL_law_621 rfl (lv_at hl 2 rfl) ?_
  refine callMi (va_runV (As := []) (rest := []) ⟨hx, hb, hml, hown, hts⟩ (k_X5_peace l D cI cL cS b s1 w1 m1 n1 s2 w2 m2 n2 s3 w3 m3 n3 ik bt ln tk sb en nm bits size num fnd hdk o1) (cwV 0 hts gL_law_X5_peace rfl rfl rfl (by decide +kernel) ⟨Nat.le_of_ble_eq_true rfl, Nat.le_of_ble_eq_true rfl⟩) ⟨PcR_fb, va_recv hK hP (ci := 3) (q0 := 0) rfl rfl, PcR_pre (va_seg hP 0 49 rfl) hK⟩ rfl rfl hl.1 rfl (lv_room (Nat.le_of_ble_eq_true rfl)) dL_law_622 ⟨Nat.le_of_ble_eq_true rfl, Nat.le_of_ble_eq_true rfl⟩) hP (hD _ rfl) hS 0 49 rfl (fun r1 u H locs h1 hP hS => ?_)
  obtain ⟨x1, x2, x3, x4, x5⟩ := u
  have hP : va_P D vwCl (kcw cI cL cS b s1 w1 m1 n1 x1 x2 x3 x4 s3 w3 m3 n3 ik bt ln tk sb en nm bits size num x5 ++ mdw cI cL bm (encS s1) fnd mo tr b1 bt ln so bg te wd va gd bits size (flat4 num) le im bf ik) H := hP
  refine lv_aload_n hx hb dL_law_625 rfl (lv_at hl 1 rfl) ?_
  refine callMi (va_runV (As := []) (rest := [.int r1]) ⟨hx, hb, hml, hown, hts⟩ (k_X6_peace l D cI cL cS bm (sCo s1) (sGu s1) (sKn s1) (sFo s1) (sSp s1) (sKi s1) (sPl s1) (sEa s1) (sTo s1) (sQu s1) fnd mo tr b1 bt ln so bg te wd va gd bits size (flat4 num) le im bf ik hdm o1.1.cC o1.2) (cwV 0 hts gL_law_X6_peace rfl rfl rfl (by decide +kernel) ⟨Nat.le_of_ble_eq_true rfl, Nat.le_of_ble_eq_true rfl⟩) ⟨PcR_fb, va_recv hK hP (ci := 4) (q0 := 49) rfl rfl, PcR_pre (va_seg hP 49 13 rfl) hK⟩ rfl rfl hl.1 rfl (lv_room (Nat.le_of_ble_eq_true rfl)) dL_law_626 ⟨Nat.le_of_ble_eq_true rfl, Nat.le_of_ble_eq_true rfl⟩) hP (hD _ rfl) hS 49 13 rfl (fun r2 u H locs h2 hP hS => ?_)
  obtain ⟨y1, y2, y3⟩ := u
  have hP : va_P D vwCl (kcw cI cL cS b s1 w1 m1 n1 x1 x2 x3 x4 s3 w3 m3 n3 ik bt ln tk sb en nm bits size num x5 ++ mdw cI cL bm (encS s1) y3 y1 y2 b1 bt ln so bg te wd va gd bits size (flat4 num) le im bf ik) H := hP
  have eq := (h1).trans (h2).symm
  have eq : (r1, x5) = (r2, y3) := eq
  cases eq
  exact lv_icmp_eq (tgt := 1281) hx hb dL_law_629 (by decide) (fun _ => k H locs ⟨_, _, _, _, _, _, _, _, _, _, _, _, _, _, _, _, _, _, _, _, _, _, _, _, _, _, _, _, _, _, _, _, _, _, _, hP, o1, o3, oh, ol, hB, him⟩ hS) (fun q9 => absurd rfl q9)

set_option maxRecDepth 100000 in
set_option maxHeartbeats 4000000 in
theorem law_tells {p : Program} {l : Launch} {e : Env} {s : State} {m : MethodId} {below : List Frame} {meth : Method} {c : Code} {a L : Nat} {xs : Nat → Int32} (hL : L ≤ 3072) (C0 : lw_At p s m meth c a L xs) {D : va_G} {cI cL cS : ClassId} {b : Nat → Nat → Nat} {bm ad av : Nat → Nat} {fm : Option Nat} (hK : va_K D vwCl (tyG cI cL cS) s) (hD0 : va_D (fun q : Nat => s.heap.size ≤ q) (djk b ++ dj0 bm 13)) (hZ : SX ad av fm (fun q : Nat => s.heap.size ≤ q) s s.heap) {H : Heap} {locs : List Loc} {ls : Array Slot} {i : Nat} (hI : LW D cI cL cS b bm H) (hS : va_S (fun q : Nat => s.heap.size ≤ q) s.heap H locs) (hi : i + 6 ≤ L) (hl : lv_has ls 4 [(3, .int (nI i)), (2, .ref (bm 0)), (1, .ref (b 0 0)), (0, .ref a)]) (k : ∀ (H : Heap) (locs : List Loc), LW D cI cL cS b bm H → va_S (fun q : Nat => s.heap.size ≤ q) s.heap H locs → W p l e room_1 s m #[Value.ref a] below meth c H locs 62 1366 (lw_Z below #[Value.ref a] s) (F0 m 1281 ls [])) : W p l e room_1 s m #[Value.ref a] below meth c H locs 62 1366 (lw_Z below #[Value.ref a] s) (F0 m 634 ls []) := by
  obtain ⟨hx, hb, hr, hml, hown, hts0, hX, hbl, hlocks, hgv⟩ := id C0
  have hown : s.vm.findClass RL = some m.cls := hown
  have hts : ∀ w ∈ wsL_law, w.before #[Value.ref a] s = true := fun w h => hts0 w (wsL_law_in w h)
  have hbA : ¬ (fun q : Nat => s.heap.size ≤ q) a := Nat.not_le.mpr hbl
  have hdk : va_D (fun _ => True) (djk b) := va_DT (va_segD hD0 0 49 rfl) rfl
  have hdm : va_D (fun _ => True) (dj0 bm 13) := va_DT (va_segD hD0 49 13 rfl) rfl
  have hD : ∀ ws' : va_W, ws'.map Prod.fst = (djk b ++ dj0 bm 13).map Prod.fst → va_D (fun q : Nat => s.heap.size ≤ q) ws' := fun ws' e => va_D_adr hD0 e
  obtain ⟨s1, w1, m1, n1, s2, w2, m2, n2, s3, w3, m3, n3, ik, bt, ln, tk, sb, en, nm, bits, size, num, fnd, mo, tr, b1, so, bg, te, wd, va, gd, le, im, bf, hP, o1, o3, oh, ol, hB, him⟩ := hI
  refine lv_aload_n hx hb dL_law_634 rfl (lv_at hl 2 rfl) ?_
  refine lv_aload_n hx hb dL_law_635 rfl (lv_at hl 3 rfl) ?_
  refine lv_iload_n hx hb dL_law_636 rfl (lv_at hl 0 rfl) ?_
  refine lv_iconst (v := 1) hx hb dL_law_637 (by decide) ?_
  refine lv_iadd hx hb dL_law_638 ?_
  refine va_sld hx hb hX hbl hbA hS (sx_in (k := 1) hi (by decide) hL) dL_law_639 ?_
  refine callMi (va_runV (As := [.int (xs (ix (nI i + 1)))]) (rest := []) ⟨hx, hb, hml, hown, hts⟩ (k_X5_tells l D cI cL cS b s1 w1 m1 n1 s2 w2 m2 n2 s3 w3 m3 n3 ik bt ln tk sb en nm bits size num fnd (xs (ix (nI i + 1))) hdk o1) (cwV 1 hts gL_law_X5_tells rfl rfl rfl (by decide +kernel) ⟨Nat.le_of_ble_eq_true rfl, Nat.le_of_ble_eq_true rfl⟩) ⟨PcR_fb, va_recv hK hP (ci := 3) (q0 := 0) rfl rfl, PcR_pre (va_seg hP 0 49 rfl) hK⟩ rfl rfl hl.1 rfl (lv_room (Nat.le_of_ble_eq_true rfl)) dL_law_640 ⟨Nat.le_of_ble_eq_true rfl, Nat.le_of_ble_eq_true rfl⟩) hP (hD _ rfl) hS 0 49 rfl (fun r1 u H locs h1 hP hS => ?_)
  obtain ⟨x1, x2, x3, x4, x5⟩ := u
  have hP : va_P D vwCl (kcw cI cL cS b s1 w1 m1 n1 x1 x2 x3 x4 s3 w3 m3 n3 ik bt ln tk sb en nm bits size num x5 ++ mdw cI cL bm (encS s1) fnd mo tr b1 bt ln so bg te wd va gd bits size (flat4 num) le im bf ik) H := hP
  refine lv_aload_n hx hb dL_law_643 rfl (lv_at hl 1 rfl) ?_
  refine lv_aload_n hx hb dL_law_644 rfl (lv_at hl 3 rfl) ?_
  refine lv_iload_n hx hb dL_law_645 rfl (lv_at hl 0 rfl) ?_
  refine lv_iconst (v := 1) hx hb dL_law_646 (by decide) ?_
  refine lv_iadd hx hb dL_law_647 ?_
  refine va_sld hx hb hX hbl hbA hS (sx_in (k := 1) hi (by decide) hL) dL_law_648 ?_
  refine callMi (va_runV (As := [.int (xs (ix (nI i + 1)))]) (rest := [.int r1]) ⟨hx, hb, hml, hown, hts⟩ (k_X6_tells l D cI cL cS bm (sCo s1) (sGu s1) (sKn s1) (sFo s1) (sSp s1) (sKi s1) (sPl s1) (sEa s1) (sTo s1) (sQu s1) fnd mo tr b1 bt ln so bg te wd va gd bits size (flat4 num) le im bf ik (xs (ix (nI i + 1))) hdm o1.1.cC o1.2) (cwV 1 hts gL_law_X6_tells rfl rfl rfl (by decide +kernel) ⟨Nat.le_of_ble_eq_true rfl, Nat.le_of_ble_eq_true rfl⟩) ⟨PcR_fb, va_recv hK hP (ci := 4) (q0 := 49) rfl rfl, PcR_pre (va_seg hP 49 13 rfl) hK⟩ rfl rfl hl.1 rfl (lv_room (Nat.le_of_ble_eq_true rfl)) dL_law_649 ⟨Nat.le_of_ble_eq_true rfl, Nat.le_of_ble_eq_true rfl⟩) hP (hD _ rfl) hS 49 13 rfl (fun r2 u H locs h2 hP hS => ?_)
  obtain ⟨y1, y2, y3⟩ := u
  have hP : va_P D vwCl (kcw cI cL cS b s1 w1 m1 n1 x1 x2 x3 x4 s3 w3 m3 n3 ik bt ln tk sb en nm bits size num x5 ++ mdw cI cL bm (encS s1) y3 y1 y2 b1 bt ln so bg te wd va gd bits size (flat4 num) le im bf ik) H := hP
  have eq := (h1).trans (h2).symm
  have eq : (r1, x5) = (r2, y3) := eq
  cases eq
  exact lv_icmp_eq (tgt := 1281) hx hb dL_law_652 (by decide) (fun _ => k H locs ⟨_, _, _, _, _, _, _, _, _, _, _, _, _, _, _, _, _, _, _, _, _, _, _, _, _, _, _, _, _, _, _, _, _, _, _, hP, o1, o3, oh, ol, hB, him⟩ hS) (fun q9 => absurd rfl q9)

set_option maxRecDepth 100000 in
set_option maxHeartbeats 4000000 in
theorem law_quarrels {p : Program} {l : Launch} {e : Env} {s : State} {m : MethodId} {below : List Frame} {meth : Method} {c : Code} {a L : Nat} {xs : Nat → Int32} (hL : L ≤ 3072) (C0 : lw_At p s m meth c a L xs) {D : va_G} {cI cL cS : ClassId} {b : Nat → Nat → Nat} {bm ad av : Nat → Nat} {fm : Option Nat} (hK : va_K D vwCl (tyG cI cL cS) s) (hD0 : va_D (fun q : Nat => s.heap.size ≤ q) (djk b ++ dj0 bm 13)) (hZ : SX ad av fm (fun q : Nat => s.heap.size ≤ q) s s.heap) {H : Heap} {locs : List Loc} {ls : Array Slot} {i : Nat} (hI : LW D cI cL cS b bm H) (hS : va_S (fun q : Nat => s.heap.size ≤ q) s.heap H locs) (hi : i + 6 ≤ L) (hl : lv_has ls 4 [(3, .int (nI i)), (2, .ref (bm 0)), (1, .ref (b 0 0)), (0, .ref a)]) (k : ∀ (H : Heap) (locs : List Loc), LW D cI cL cS b bm H → va_S (fun q : Nat => s.heap.size ≤ q) s.heap H locs → W p l e room_1 s m #[Value.ref a] below meth c H locs 62 1366 (lw_Z below #[Value.ref a] s) (F0 m 1281 ls [])) : W p l e room_1 s m #[Value.ref a] below meth c H locs 62 1366 (lw_Z below #[Value.ref a] s) (F0 m 657 ls []) := by
  obtain ⟨hx, hb, hr, hml, hown, hts0, hX, hbl, hlocks, hgv⟩ := id C0
  have hown : s.vm.findClass RL = some m.cls := hown
  have hts : ∀ w ∈ wsL_law, w.before #[Value.ref a] s = true := fun w h => hts0 w (wsL_law_in w h)
  have hbA : ¬ (fun q : Nat => s.heap.size ≤ q) a := Nat.not_le.mpr hbl
  have hdk : va_D (fun _ => True) (djk b) := va_DT (va_segD hD0 0 49 rfl) rfl
  have hdm : va_D (fun _ => True) (dj0 bm 13) := va_DT (va_segD hD0 49 13 rfl) rfl
  have hD : ∀ ws' : va_W, ws'.map Prod.fst = (djk b ++ dj0 bm 13).map Prod.fst → va_D (fun q : Nat => s.heap.size ≤ q) ws' := fun ws' e => va_D_adr hD0 e
  obtain ⟨s1, w1, m1, n1, s2, w2, m2, n2, s3, w3, m3, n3, ik, bt, ln, tk, sb, en, nm, bits, size, num, fnd, mo, tr, b1, so, bg, te, wd, va, gd, le, im, bf, hP, o1, o3, oh, ol, hB, him⟩ := hI
  refine lv_aload_n hx hb dL_law_657 rfl (lv_at hl 2 rfl) ?_
  refine lv_aload_n hx hb dL_law_658 rfl (lv_at hl 3 rfl) ?_
  refine lv_iload_n hx hb dL_law_659 rfl (lv_at hl 0 rfl) ?_
  refine lv_iconst (v := 1) hx hb dL_law_660 (by decide) ?_
  refine lv_iadd hx hb dL_law_661 ?_
  refine va_sld hx hb hX hbl hbA hS (sx_in (k := 1) hi (by decide) hL) dL_law_662 ?_
  refine callMi (va_runV (As := [.int (xs (ix (nI i + 1)))]) (rest := []) ⟨hx, hb, hml, hown, hts⟩ (k_X5_quarrels l D cI cL cS b s1 w1 m1 n1 s2 w2 m2 n2 s3 w3 m3 n3 ik bt ln tk sb en nm bits size num fnd (xs (ix (nI i + 1))) hdk o1) (cwV 1 hts gL_law_X5_quarrels rfl rfl rfl (by decide +kernel) ⟨Nat.le_of_ble_eq_true rfl, Nat.le_of_ble_eq_true rfl⟩) ⟨PcR_fb, va_recv hK hP (ci := 3) (q0 := 0) rfl rfl, PcR_pre (va_seg hP 0 49 rfl) hK⟩ rfl rfl hl.1 rfl (lv_room (Nat.le_of_ble_eq_true rfl)) dL_law_663 ⟨Nat.le_of_ble_eq_true rfl, Nat.le_of_ble_eq_true rfl⟩) hP (hD _ rfl) hS 0 49 rfl (fun r1 u H locs h1 hP hS => ?_)
  obtain ⟨x1, x2, x3, x4, x5⟩ := u
  have hP : va_P D vwCl (kcw cI cL cS b s1 w1 m1 n1 x1 x2 x3 x4 s3 w3 m3 n3 ik bt ln tk sb en nm bits size num x5 ++ mdw cI cL bm (encS s1) fnd mo tr b1 bt ln so bg te wd va gd bits size (flat4 num) le im bf ik) H := hP
  refine lv_aload_n hx hb dL_law_666 rfl (lv_at hl 1 rfl) ?_
  refine lv_aload_n hx hb dL_law_667 rfl (lv_at hl 3 rfl) ?_
  refine lv_iload_n hx hb dL_law_668 rfl (lv_at hl 0 rfl) ?_
  refine lv_iconst (v := 1) hx hb dL_law_669 (by decide) ?_
  refine lv_iadd hx hb dL_law_670 ?_
  refine va_sld hx hb hX hbl hbA hS (sx_in (k := 1) hi (by decide) hL) dL_law_671 ?_
  refine callMi (va_runV (As := [.int (xs (ix (nI i + 1)))]) (rest := [.int r1]) ⟨hx, hb, hml, hown, hts⟩ (k_X6_quarrels l D cI cL cS bm (sCo s1) (sGu s1) (sKn s1) (sFo s1) (sSp s1) (sKi s1) (sPl s1) (sEa s1) (sTo s1) (sQu s1) fnd mo tr b1 bt ln so bg te wd va gd bits size (flat4 num) le im bf ik (xs (ix (nI i + 1))) hdm o1.1.cC o1.2) (cwV 1 hts gL_law_X6_quarrels rfl rfl rfl (by decide +kernel) ⟨Nat.le_of_ble_eq_true rfl, Nat.le_of_ble_eq_true rfl⟩) ⟨PcR_fb, va_recv hK hP (ci := 4) (q0 := 49) rfl rfl, PcR_pre (va_seg hP 49 13 rfl) hK⟩ rfl rfl hl.1 rfl (lv_room (Nat.le_of_ble_eq_true rfl)) dL_law_672 ⟨Nat.le_of_ble_eq_true rfl, Nat.le_of_ble_eq_true rfl⟩) hP (hD _ rfl) hS 49 13 rfl (fun r2 u H locs h2 hP hS => ?_)
  obtain ⟨y1, y2, y3⟩ := u
  have hP : va_P D vwCl (kcw cI cL cS b s1 w1 m1 n1 x1 x2 x3 x4 s3 w3 m3 n3 ik bt ln tk sb en nm bits size num x5 ++ mdw cI cL bm (encS s1) y3 y1 y2 b1 bt ln so bg te wd va gd bits size (flat4 num) le im bf ik) H := hP
  have eq := (h1).trans (h2).symm
  have eq : (r1, x5) = (r2, y3) := eq
  cases eq
  exact lv_icmp_eq (tgt := 1281) hx hb dL_law_675 (by decide) (fun _ => k H locs ⟨_, _, _, _, _, _, _, _, _, _, _, _, _, _, _, _, _, _, _, _, _, _, _, _, _, _, _, _, _, _, _, _, _, _, _, hP, o1, o3, oh, ol, hB, him⟩ hS) (fun q9 => absurd rfl q9)

set_option maxRecDepth 100000 in
set_option maxHeartbeats 4000000 in
theorem law_best {p : Program} {l : Launch} {e : Env} {s : State} {m : MethodId} {below : List Frame} {meth : Method} {c : Code} {a L : Nat} {xs : Nat → Int32} (hL : L ≤ 3072) (C0 : lw_At p s m meth c a L xs) {D : va_G} {cI cL cS : ClassId} {b : Nat → Nat → Nat} {bm ad av : Nat → Nat} {fm : Option Nat} (hK : va_K D vwCl (tyG cI cL cS) s) (hD0 : va_D (fun q : Nat => s.heap.size ≤ q) (djk b ++ dj0 bm 13)) (hZ : SX ad av fm (fun q : Nat => s.heap.size ≤ q) s s.heap) {H : Heap} {locs : List Loc} {ls : Array Slot} {i : Nat} (hI : LW D cI cL cS b bm H) (hS : va_S (fun q : Nat => s.heap.size ≤ q) s.heap H locs) (hi : i + 6 ≤ L) (hl : lv_has ls 4 [(3, .int (nI i)), (2, .ref (bm 0)), (1, .ref (b 0 0)), (0, .ref a)]) (k : ∀ (H : Heap) (locs : List Loc), LW D cI cL cS b bm H → va_S (fun q : Nat => s.heap.size ≤ q) s.heap H locs → W p l e room_1 s m #[Value.ref a] below meth c H locs 62 1366 (lw_Z below #[Value.ref a] s) (F0 m 1281 ls [])) : W p l e room_1 s m #[Value.ref a] below meth c H locs 62 1366 (lw_Z below #[Value.ref a] s) (F0 m 680 ls []) := by
  obtain ⟨hx, hb, hr, hml, hown, hts0, hX, hbl, hlocks, hgv⟩ := id C0
  have hown : s.vm.findClass RL = some m.cls := hown
  have hts : ∀ w ∈ wsL_law, w.before #[Value.ref a] s = true := fun w h => hts0 w (wsL_law_in w h)
  have hbA : ¬ (fun q : Nat => s.heap.size ≤ q) a := Nat.not_le.mpr hbl
  have hdk : va_D (fun _ => True) (djk b) := va_DT (va_segD hD0 0 49 rfl) rfl
  have hdm : va_D (fun _ => True) (dj0 bm 13) := va_DT (va_segD hD0 49 13 rfl) rfl
  have hD : ∀ ws' : va_W, ws'.map Prod.fst = (djk b ++ dj0 bm 13).map Prod.fst → va_D (fun q : Nat => s.heap.size ≤ q) ws' := fun ws' e => va_D_adr hD0 e
  obtain ⟨s1, w1, m1, n1, s2, w2, m2, n2, s3, w3, m3, n3, ik, bt, ln, tk, sb, en, nm, bits, size, num, fnd, mo, tr, b1, so, bg, te, wd, va, gd, le, im, bf, hP, o1, o3, oh, ol, hB, him⟩ := hI
  refine lv_aload_n hx hb dL_law_680 rfl (lv_at hl 2 rfl) ?_
  refine lv_aload_n hx hb dL_law_681 rfl (lv_at hl 3 rfl) ?_
  refine lv_iload_n hx hb dL_law_682 rfl (lv_at hl 0 rfl) ?_
  refine lv_iconst (v := 1) hx hb dL_law_683 (by decide) ?_
  refine lv_iadd hx hb dL_law_684 ?_
  refine va_sld hx hb hX hbl hbA hS (sx_in (k := 1) hi (by decide) hL) dL_law_685 ?_
  refine lv_aload_n hx hb dL_law_686 rfl (lv_at hl 3 rfl) ?_
  refine lv_iload_n hx hb dL_law_687 rfl (lv_at hl 0 rfl) ?_
  refine lv_iconst (v := 2) hx hb dL_law_688 (by decide) ?_
  refine lv_iadd hx hb dL_law_689 ?_
  refine va_sld hx hb hX hbl hbA hS (sx_in (k := 2) hi (by decide) hL) dL_law_690 ?_
  refine callMi (va_runV (As := [.int (xs (ix (nI i + 1))), .int (xs (ix (nI i + 2)))]) (rest := []) ⟨hx, hb, hml, hown, hts⟩ (k_X5_best l D cI cL cS b s1 w1 m1 n1 s2 w2 m2 n2 s3 w3 m3 n3 ik bt ln tk sb en nm bits size num fnd (xs (ix (nI i + 1))) (xs (ix (nI i + 2))) hdk o1) (cwV 2 hts gL_law_X5_best rfl rfl rfl (by decide +kernel) ⟨Nat.le_of_ble_eq_true rfl, Nat.le_of_ble_eq_true rfl⟩) ⟨PcR_fb, va_recv hK hP (ci := 3) (q0 := 0) rfl rfl, PcR_pre (va_seg hP 0 49 rfl) hK⟩ rfl rfl hl.1 rfl (lv_room (Nat.le_of_ble_eq_true rfl)) dL_law_691 ⟨Nat.le_of_ble_eq_true rfl, Nat.le_of_ble_eq_true rfl⟩) hP (hD _ rfl) hS 0 49 rfl (fun r1 u H locs h1 hP hS => ?_)
  obtain ⟨x1, x2, x3, x4, x5⟩ := u
  have hP : va_P D vwCl (kcw cI cL cS b s1 w1 m1 n1 x1 x2 x3 x4 s3 w3 m3 n3 ik bt ln tk sb en nm bits size num x5 ++ mdw cI cL bm (encS s1) fnd mo tr b1 bt ln so bg te wd va gd bits size (flat4 num) le im bf ik) H := hP
  refine lv_aload_n hx hb dL_law_694 rfl (lv_at hl 1 rfl) ?_
  refine lv_aload_n hx hb dL_law_695 rfl (lv_at hl 3 rfl) ?_
  refine lv_iload_n hx hb dL_law_696 rfl (lv_at hl 0 rfl) ?_
  refine lv_iconst (v := 1) hx hb dL_law_697 (by decide) ?_
  refine lv_iadd hx hb dL_law_698 ?_
  refine va_sld hx hb hX hbl hbA hS (sx_in (k := 1) hi (by decide) hL) dL_law_699 ?_
  refine lv_aload_n hx hb dL_law_700 rfl (lv_at hl 3 rfl) ?_
  refine lv_iload_n hx hb dL_law_701 rfl (lv_at hl 0 rfl) ?_
  refine lv_iconst (v := 2) hx hb dL_law_702 (by decide) ?_
  refine lv_iadd hx hb dL_law_703 ?_
  refine va_sld hx hb hX hbl hbA hS (sx_in (k := 2) hi (by decide) hL) dL_law_704 ?_
  refine callMi (va_runV (As := [.int (xs (ix (nI i + 1))), .int (xs (ix (nI i + 2)))]) (rest := [.int r1]) ⟨hx, hb, hml, hown, hts⟩ (k_X6_best l D cI cL cS bm (sCo s1) (sGu s1) (sKn s1) (sFo s1) (sSp s1) (sKi s1) (sPl s1) (sEa s1) (sTo s1) (sQu s1) fnd mo tr b1 bt ln so bg te wd va gd bits size (flat4 num) le im bf ik (xs (ix (nI i + 1))) (xs (ix (nI i + 2))) hdm o1.1.cC o1.2) (cwV 2 hts gL_law_X6_best rfl rfl rfl (by decide +kernel) ⟨Nat.le_of_ble_eq_true rfl, Nat.le_of_ble_eq_true rfl⟩) ⟨PcR_fb, va_recv hK hP (ci := 4) (q0 := 49) rfl rfl, PcR_pre (va_seg hP 49 13 rfl) hK⟩ rfl rfl hl.1 rfl (lv_room (Nat.le_of_ble_eq_true rfl)) dL_law_705 ⟨Nat.le_of_ble_eq_true rfl, Nat.le_of_ble_eq_true rfl⟩) hP (hD _ rfl) hS 49 13 rfl (fun r2 u H locs h2 hP hS => ?_)
  obtain ⟨y1, y2, y3⟩ := u
  have hP : va_P D vwCl (kcw cI cL cS b s1 w1 m1 n1 x1 x2 x3 x4 s3 w3 m3 n3 ik bt ln tk sb en nm bits size num x5 ++ mdw cI cL bm (encS s1) y3 y1 y2 b1 bt ln so bg te wd va gd bits size (flat4 num) le im bf ik) H := hP
  have eq := (h1).trans (h2).symm
  have eq : (r1, x5) = (r2, y3) := eq
  cases eq
  exact lv_icmp_eq (tgt := 1281) hx hb dL_law_708 (by decide) (fun _ => k H locs ⟨_, _, _, _, _, _, _, _, _, _, _, _, _, _, _, _, _, _, _, _, _, _, _, _, _, _, _, _, _, _, _, _, _, _, _, hP, o1, o3, oh, ol, hB, him⟩ hS) (fun q9 => absurd rfl q9)

set_option maxRecDepth 100000 in
set_option maxHeartbeats 4000000 in
theorem law_laid {p : Program} {l : Launch} {e : Env} {s : State} {m : MethodId} {below : List Frame} {meth : Method} {c : Code} {a L : Nat} {xs : Nat → Int32} (hL : L ≤ 3072) (C0 : lw_At p s m meth c a L xs) {D : va_G} {cI cL cS : ClassId} {b : Nat → Nat → Nat} {bm ad av : Nat → Nat} {fm : Option Nat} (hK : va_K D vwCl (tyG cI cL cS) s) (hD0 : va_D (fun q : Nat => s.heap.size ≤ q) (djk b ++ dj0 bm 13)) (hZ : SX ad av fm (fun q : Nat => s.heap.size ≤ q) s s.heap) {H : Heap} {locs : List Loc} {ls : Array Slot} {i : Nat} (hI : LW D cI cL cS b bm H) (hS : va_S (fun q : Nat => s.heap.size ≤ q) s.heap H locs) (hi : i + 6 ≤ L) (hl : lv_has ls 4 [(3, .int (nI i)), (2, .ref (bm 0)), (1, .ref (b 0 0)), (0, .ref a)]) (k : ∀ (H : Heap) (locs : List Loc), LW D cI cL cS b bm H → va_S (fun q : Nat => s.heap.size ≤ q) s.heap H locs → W p l e room_1 s m #[Value.ref a] below meth c H locs 62 1366 (lw_Z below #[Value.ref a] s) (F0 m 1281 ls [])) : W p l e room_1 s m #[Value.ref a] below meth c H locs 62 1366 (lw_Z below #[Value.ref a] s) (F0 m 713 ls []) := by
  obtain ⟨hx, hb, hr, hml, hown, hts0, hX, hbl, hlocks, hgv⟩ := id C0
  have hown : s.vm.findClass RL = some m.cls := hown
  have hts : ∀ w ∈ wsL_law, w.before #[Value.ref a] s = true := fun w h => hts0 w (wsL_law_in w h)
  have hbA : ¬ (fun q : Nat => s.heap.size ≤ q) a := Nat.not_le.mpr hbl
  have hdk : va_D (fun _ => True) (djk b) := va_DT (va_segD hD0 0 49 rfl) rfl
  have hdm : va_D (fun _ => True) (dj0 bm 13) := va_DT (va_segD hD0 49 13 rfl) rfl
  have hD : ∀ ws' : va_W, ws'.map Prod.fst = (djk b ++ dj0 bm 13).map Prod.fst → va_D (fun q : Nat => s.heap.size ≤ q) ws' := fun ws' e => va_D_adr hD0 e
  obtain ⟨s1, w1, m1, n1, s2, w2, m2, n2, s3, w3, m3, n3, ik, bt, ln, tk, sb, en, nm, bits, size, num, fnd, mo, tr, b1, so, bg, te, wd, va, gd, le, im, bf, hP, o1, o3, oh, ol, hB, him⟩ := hI
  refine lv_aload_n hx hb dL_law_713 rfl (lv_at hl 2 rfl) ?_
  refine lv_aload_n hx hb dL_law_714 rfl (lv_at hl 3 rfl) ?_
  refine lv_iload_n hx hb dL_law_715 rfl (lv_at hl 0 rfl) ?_
  refine lv_iconst (v := 1) hx hb dL_law_716 (by decide) ?_
  refine lv_iadd hx hb dL_law_717 ?_
  refine va_sld hx hb hX hbl hbA hS (sx_in (k := 1) hi (by decide) hL) dL_law_718 ?_
  refine lv_aload_n hx hb dL_law_719 rfl (lv_at hl 3 rfl) ?_
  refine lv_iload_n hx hb dL_law_720 rfl (lv_at hl 0 rfl) ?_
  refine lv_iconst (v := 2) hx hb dL_law_721 (by decide) ?_
  refine lv_iadd hx hb dL_law_722 ?_
  refine va_sld hx hb hX hbl hbA hS (sx_in (k := 2) hi (by decide) hL) dL_law_723 ?_
  refine callMi (va_runV (As := [.int (xs (ix (nI i + 1))), .int (xs (ix (nI i + 2)))]) (rest := []) ⟨hx, hb, hml, hown, hts⟩ (k_X5_laid l D cI cL cS b s1 w1 m1 n1 s2 w2 m2 n2 s3 w3 m3 n3 ik bt ln tk sb en nm bits size num fnd (xs (ix (nI i + 1))) (xs (ix (nI i + 2))) hdk o1) (cwV 2 hts gL_law_X5_laid rfl rfl rfl (by decide +kernel) ⟨Nat.le_of_ble_eq_true rfl, Nat.le_of_ble_eq_true rfl⟩) ⟨PcR_fb, va_recv hK hP (ci := 3) (q0 := 0) rfl rfl, PcR_pre (va_seg hP 0 49 rfl) hK⟩ rfl rfl hl.1 rfl (lv_room (Nat.le_of_ble_eq_true rfl)) dL_law_724 ⟨Nat.le_of_ble_eq_true rfl, Nat.le_of_ble_eq_true rfl⟩) hP (hD _ rfl) hS 0 49 rfl (fun r1 u H locs h1 hP hS => ?_)
  obtain ⟨x1, x2, x3, x4, x5⟩ := u
  have hP : va_P D vwCl (kcw cI cL cS b s1 w1 m1 n1 x1 x2 x3 x4 s3 w3 m3 n3 ik bt ln tk sb en nm bits size num x5 ++ mdw cI cL bm (encS s1) fnd mo tr b1 bt ln so bg te wd va gd bits size (flat4 num) le im bf ik) H := hP
  refine lv_aload_n hx hb dL_law_727 rfl (lv_at hl 1 rfl) ?_
  refine lv_aload_n hx hb dL_law_728 rfl (lv_at hl 3 rfl) ?_
  refine lv_iload_n hx hb dL_law_729 rfl (lv_at hl 0 rfl) ?_
  refine lv_iconst (v := 1) hx hb dL_law_730 (by decide) ?_
  refine lv_iadd hx hb dL_law_731 ?_
  refine va_sld hx hb hX hbl hbA hS (sx_in (k := 1) hi (by decide) hL) dL_law_732 ?_
  refine lv_aload_n hx hb dL_law_733 rfl (lv_at hl 3 rfl) ?_
  refine lv_iload_n hx hb dL_law_734 rfl (lv_at hl 0 rfl) ?_
  refine lv_iconst (v := 2) hx hb dL_law_735 (by decide) ?_
  refine lv_iadd hx hb dL_law_736 ?_
  refine va_sld hx hb hX hbl hbA hS (sx_in (k := 2) hi (by decide) hL) dL_law_737 ?_
  refine callMi (va_runV (As := [.int (xs (ix (nI i + 1))), .int (xs (ix (nI i + 2)))]) (rest := [.int r1]) ⟨hx, hb, hml, hown, hts⟩ (k_X6_laid l D cI cL cS bm (sCo s1) (sGu s1) (sKn s1) (sFo s1) (sSp s1) (sKi s1) (sPl s1) (sEa s1) (sTo s1) (sQu s1) fnd mo tr b1 bt ln so bg te wd va gd bits size (flat4 num) le im bf ik (xs (ix (nI i + 1))) (xs (ix (nI i + 2))) hdm o1.1.cC o1.2) (cwV 2 hts gL_law_X6_laid rfl rfl rfl (by decide +kernel) ⟨Nat.le_of_ble_eq_true rfl, Nat.le_of_ble_eq_true rfl⟩) ⟨PcR_fb, va_recv hK hP (ci := 4) (q0 := 49) rfl rfl, PcR_pre (va_seg hP 49 13 rfl) hK⟩ rfl rfl hl.1 rfl (lv_room (Nat.le_of_ble_eq_true rfl)) dL_law_738 ⟨Nat.le_of_ble_eq_true rfl, Nat.le_of_ble_eq_true rfl⟩) hP (hD _ rfl) hS 49 13 rfl (fun r2 u H locs h2 hP hS => ?_)
  obtain ⟨y1, y2, y3⟩ := u
  have hP : va_P D vwCl (kcw cI cL cS b s1 w1 m1 n1 x1 x2 x3 x4 s3 w3 m3 n3 ik bt ln tk sb en nm bits size num x5 ++ mdw cI cL bm (encS s1) y3 y1 y2 b1 bt ln so bg te wd va gd bits size (flat4 num) le im bf ik) H := hP
  have eq := (h1).trans (h2).symm
  have eq : (r1, x5) = (r2, y3) := eq
  cases eq
  exact lv_icmp_eq (tgt := 1281) hx hb dL_law_741 (by decide) (fun _ => k H locs ⟨_, _, _, _, _, _, _, _, _, _, _, _, _, _, _, _, _, _, _, _, _, _, _, _, _, _, _, _, _, _, _, _, _, _, _, hP, o1, o3, oh, ol, hB, him⟩ hS) (fun q9 => absurd rfl q9)

set_option maxRecDepth 100000 in
set_option maxHeartbeats 4000000 in
theorem law_knife {p : Program} {l : Launch} {e : Env} {s : State} {m : MethodId} {below : List Frame} {meth : Method} {c : Code} {a L : Nat} {xs : Nat → Int32} (hL : L ≤ 3072) (C0 : lw_At p s m meth c a L xs) {D : va_G} {cI cL cS : ClassId} {b : Nat → Nat → Nat} {bm ad av : Nat → Nat} {fm : Option Nat} (hK : va_K D vwCl (tyG cI cL cS) s) (hD0 : va_D (fun q : Nat => s.heap.size ≤ q) (djk b ++ dj0 bm 13)) (hZ : SX ad av fm (fun q : Nat => s.heap.size ≤ q) s s.heap) {H : Heap} {locs : List Loc} {ls : Array Slot} {i : Nat} (hI : LW D cI cL cS b bm H) (hS : va_S (fun q : Nat => s.heap.size ≤ q) s.heap H locs) (hi : i + 6 ≤ L) (hl : lv_has ls 4 [(3, .int (nI i)), (2, .ref (bm 0)), (1, .ref (b 0 0)), (0, .ref a)]) (k : ∀ (H : Heap) (locs : List Loc), LW D cI cL cS b bm H → va_S (fun q : Nat => s.heap.size ≤ q) s.heap H locs → W p l e room_1 s m #[Value.ref a] below meth c H locs 62 1366 (lw_Z below #[Value.ref a] s) (F0 m 1281 ls [])) : W p l e room_1 s m #[Value.ref a] below meth c H locs 62 1366 (lw_Z below #[Value.ref a] s) (F0 m 746 ls []) := by
  obtain ⟨hx, hb, hr, hml, hown, hts0, hX, hbl, hlocks, hgv⟩ := id C0
  have hown : s.vm.findClass RL = some m.cls := hown
  have hts : ∀ w ∈ wsL_law, w.before #[Value.ref a] s = true := fun w h => hts0 w (wsL_law_in w h)
  have hbA : ¬ (fun q : Nat => s.heap.size ≤ q) a := Nat.not_le.mpr hbl
  have hdk : va_D (fun _ => True) (djk b) := va_DT (va_segD hD0 0 49 rfl) rfl
  have hdm : va_D (fun _ => True) (dj0 bm 13) := va_DT (va_segD hD0 49 13 rfl) rfl
  have hD : ∀ ws' : va_W, ws'.map Prod.fst = (djk b ++ dj0 bm 13).map Prod.fst → va_D (fun q : Nat => s.heap.size ≤ q) ws' := fun ws' e => va_D_adr hD0 e
  obtain ⟨s1, w1, m1, n1, s2, w2, m2, n2, s3, w3, m3, n3, ik, bt, ln, tk, sb, en, nm, bits, size, num, fnd, mo, tr, b1, so, bg, te, wd, va, gd, le, im, bf, hP, o1, o3, oh, ol, hB, him⟩ := hI
  refine lv_aload_n hx hb dL_law_746 rfl (lv_at hl 2 rfl) ?_
  refine lv_aload_n hx hb dL_law_747 rfl (lv_at hl 3 rfl) ?_
  refine lv_iload_n hx hb dL_law_748 rfl (lv_at hl 0 rfl) ?_
  refine lv_iconst (v := 1) hx hb dL_law_749 (by decide) ?_
  refine lv_iadd hx hb dL_law_750 ?_
  refine va_sld hx hb hX hbl hbA hS (sx_in (k := 1) hi (by decide) hL) dL_law_751 ?_
  refine callMi (va_runV (As := [.int (xs (ix (nI i + 1)))]) (rest := []) ⟨hx, hb, hml, hown, hts⟩ (k_X5_knife l D cI cL cS b s1 w1 m1 n1 s2 w2 m2 n2 s3 w3 m3 n3 ik bt ln tk sb en nm bits size num fnd (xs (ix (nI i + 1))) hdk o1) (cwV 1 hts gL_law_X5_knife rfl rfl rfl (by decide +kernel) ⟨Nat.le_of_ble_eq_true rfl, Nat.le_of_ble_eq_true rfl⟩) ⟨PcR_fb, va_recv hK hP (ci := 3) (q0 := 0) rfl rfl, PcR_pre (va_seg hP 0 49 rfl) hK⟩ rfl rfl hl.1 rfl (lv_room (Nat.le_of_ble_eq_true rfl)) dL_law_752 ⟨Nat.le_of_ble_eq_true rfl, Nat.le_of_ble_eq_true rfl⟩) hP (hD _ rfl) hS 0 49 rfl (fun r1 u H locs h1 hP hS => ?_)
  obtain ⟨x1, x2, x3, x4, x5⟩ := u
  have hP : va_P D vwCl (kcw cI cL cS b s1 w1 m1 n1 x1 x2 x3 x4 s3 w3 m3 n3 ik bt ln tk sb en nm bits size num x5 ++ mdw cI cL bm (encS s1) fnd mo tr b1 bt ln so bg te wd va gd bits size (flat4 num) le im bf ik) H := hP
  refine lv_aload_n hx hb dL_law_755 rfl (lv_at hl 1 rfl) ?_
  refine lv_aload_n hx hb dL_law_756 rfl (lv_at hl 3 rfl) ?_
  refine lv_iload_n hx hb dL_law_757 rfl (lv_at hl 0 rfl) ?_
  refine lv_iconst (v := 1) hx hb dL_law_758 (by decide) ?_
  refine lv_iadd hx hb dL_law_759 ?_
  refine va_sld hx hb hX hbl hbA hS (sx_in (k := 1) hi (by decide) hL) dL_law_760 ?_
  refine callMi (va_runV (As := [.int (xs (ix (nI i + 1)))]) (rest := [.int r1]) ⟨hx, hb, hml, hown, hts⟩ (k_X6_knife l D cI cL cS bm (sCo s1) (sGu s1) (sKn s1) (sFo s1) (sSp s1) (sKi s1) (sPl s1) (sEa s1) (sTo s1) (sQu s1) fnd mo tr b1 bt ln so bg te wd va gd bits size (flat4 num) le im bf ik (xs (ix (nI i + 1))) hdm o1.1.cC o1.2) (cwV 1 hts gL_law_X6_knife rfl rfl rfl (by decide +kernel) ⟨Nat.le_of_ble_eq_true rfl, Nat.le_of_ble_eq_true rfl⟩) ⟨PcR_fb, va_recv hK hP (ci := 4) (q0 := 49) rfl rfl, PcR_pre (va_seg hP 49 13 rfl) hK⟩ rfl rfl hl.1 rfl (lv_room (Nat.le_of_ble_eq_true rfl)) dL_law_761 ⟨Nat.le_of_ble_eq_true rfl, Nat.le_of_ble_eq_true rfl⟩) hP (hD _ rfl) hS 49 13 rfl (fun r2 u H locs h2 hP hS => ?_)
  obtain ⟨y1, y2, y3⟩ := u
  have hP : va_P D vwCl (kcw cI cL cS b s1 w1 m1 n1 x1 x2 x3 x4 s3 w3 m3 n3 ik bt ln tk sb en nm bits size num x5 ++ mdw cI cL bm (encS s1) y3 y1 y2 b1 bt ln so bg te wd va gd bits size (flat4 num) le im bf ik) H := hP
  have eq := (h1).trans (h2).symm
  have eq : (r1, x5) = (r2, y3) := eq
  cases eq
  exact lv_icmp_eq (tgt := 1281) hx hb dL_law_764 (by decide) (fun _ => k H locs ⟨_, _, _, _, _, _, _, _, _, _, _, _, _, _, _, _, _, _, _, _, _, _, _, _, _, _, _, _, _, _, _, _, _, _, _, hP, o1, o3, oh, ol, hB, him⟩ hS) (fun q9 => absurd rfl q9)

set_option maxRecDepth 100000 in
set_option maxHeartbeats 4000000 in
theorem law_kind {p : Program} {l : Launch} {e : Env} {s : State} {m : MethodId} {below : List Frame} {meth : Method} {c : Code} {a L : Nat} {xs : Nat → Int32} (hL : L ≤ 3072) (C0 : lw_At p s m meth c a L xs) {D : va_G} {cI cL cS : ClassId} {b : Nat → Nat → Nat} {bm ad av : Nat → Nat} {fm : Option Nat} (hK : va_K D vwCl (tyG cI cL cS) s) (hD0 : va_D (fun q : Nat => s.heap.size ≤ q) (djk b ++ dj0 bm 13)) (hZ : SX ad av fm (fun q : Nat => s.heap.size ≤ q) s s.heap) {H : Heap} {locs : List Loc} {ls : Array Slot} {i : Nat} (hI : LW D cI cL cS b bm H) (hS : va_S (fun q : Nat => s.heap.size ≤ q) s.heap H locs) (hi : i + 6 ≤ L) (hl : lv_has ls 4 [(3, .int (nI i)), (2, .ref (bm 0)), (1, .ref (b 0 0)), (0, .ref a)]) (k : ∀ (H : Heap) (locs : List Loc), LW D cI cL cS b bm H → va_S (fun q : Nat => s.heap.size ≤ q) s.heap H locs → W p l e room_1 s m #[Value.ref a] below meth c H locs 62 1366 (lw_Z below #[Value.ref a] s) (F0 m 1281 ls [])) : W p l e room_1 s m #[Value.ref a] below meth c H locs 62 1366 (lw_Z below #[Value.ref a] s) (F0 m 769 ls []) := by
  obtain ⟨hx, hb, hr, hml, hown, hts0, hX, hbl, hlocks, hgv⟩ := id C0
  have hown : s.vm.findClass RL = some m.cls := hown
  have hts : ∀ w ∈ wsL_law, w.before #[Value.ref a] s = true := fun w h => hts0 w (wsL_law_in w h)
  have hbA : ¬ (fun q : Nat => s.heap.size ≤ q) a := Nat.not_le.mpr hbl
  have hdk : va_D (fun _ => True) (djk b) := va_DT (va_segD hD0 0 49 rfl) rfl
  have hdm : va_D (fun _ => True) (dj0 bm 13) := va_DT (va_segD hD0 49 13 rfl) rfl
  have hD : ∀ ws' : va_W, ws'.map Prod.fst = (djk b ++ dj0 bm 13).map Prod.fst → va_D (fun q : Nat => s.heap.size ≤ q) ws' := fun ws' e => va_D_adr hD0 e
  obtain ⟨s1, w1, m1, n1, s2, w2, m2, n2, s3, w3, m3, n3, ik, bt, ln, tk, sb, en, nm, bits, size, num, fnd, mo, tr, b1, so, bg, te, wd, va, gd, le, im, bf, hP, o1, o3, oh, ol, hB, him⟩ := hI
  refine lv_aload_n hx hb dL_law_769 rfl (lv_at hl 2 rfl) ?_
  refine lv_aload_n hx hb dL_law_770 rfl (lv_at hl 3 rfl) ?_
  refine lv_iload_n hx hb dL_law_771 rfl (lv_at hl 0 rfl) ?_
  refine lv_iconst (v := 1) hx hb dL_law_772 (by decide) ?_
  refine lv_iadd hx hb dL_law_773 ?_
  refine va_sld hx hb hX hbl hbA hS (sx_in (k := 1) hi (by decide) hL) dL_law_774 ?_
  refine lv_aload_n hx hb dL_law_775 rfl (lv_at hl 3 rfl) ?_
  refine lv_iload_n hx hb dL_law_776 rfl (lv_at hl 0 rfl) ?_
  refine lv_iconst (v := 2) hx hb dL_law_777 (by decide) ?_
  refine lv_iadd hx hb dL_law_778 ?_
  refine va_sld hx hb hX hbl hbA hS (sx_in (k := 2) hi (by decide) hL) dL_law_779 ?_
  refine callMi (va_runV (As := [.int (xs (ix (nI i + 1))), .int (xs (ix (nI i + 2)))]) (rest := []) ⟨hx, hb, hml, hown, hts⟩ (k_X5_kind l D cI cL cS b s1 w1 m1 n1 s2 w2 m2 n2 s3 w3 m3 n3 ik bt ln tk sb en nm bits size num fnd (xs (ix (nI i + 1))) (xs (ix (nI i + 2))) hdk o1) (cwV 2 hts gL_law_X5_kind rfl rfl rfl (by decide +kernel) ⟨Nat.le_of_ble_eq_true rfl, Nat.le_of_ble_eq_true rfl⟩) ⟨PcR_fb, va_recv hK hP (ci := 3) (q0 := 0) rfl rfl, PcR_pre (va_seg hP 0 49 rfl) hK⟩ rfl rfl hl.1 rfl (lv_room (Nat.le_of_ble_eq_true rfl)) dL_law_780 ⟨Nat.le_of_ble_eq_true rfl, Nat.le_of_ble_eq_true rfl⟩) hP (hD _ rfl) hS 0 49 rfl (fun r1 u H locs h1 hP hS => ?_)
  obtain ⟨x1, x2, x3, x4, x5⟩ := u
  have hP : va_P D vwCl (kcw cI cL cS b s1 w1 m1 n1 x1 x2 x3 x4 s3 w3 m3 n3 ik bt ln tk sb en nm bits size num x5 ++ mdw cI cL bm (encS s1) fnd mo tr b1 bt ln so bg te wd va gd bits size (flat4 num) le im bf ik) H := hP
  refine lv_aload_n hx hb dL_law_783 rfl (lv_at hl 1 rfl) ?_
  refine lv_aload_n hx hb dL_law_784 rfl (lv_at hl 3 rfl) ?_
  refine lv_iload_n hx hb dL_law_785 rfl (lv_at hl 0 rfl) ?_
  refine lv_iconst (v := 1) hx hb dL_law_786 (by decide) ?_
  refine lv_iadd hx hb dL_law_787 ?_
  refine va_sld hx hb hX hbl hbA hS (sx_in (k := 1) hi (by decide) hL) dL_law_788 ?_
  refine lv_aload_n hx hb dL_law_789 rfl (lv_at hl 3 rfl) ?_
  refine lv_iload_n hx hb dL_law_790 rfl (lv_at hl 0 rfl) ?_
  refine lv_iconst (v := 2) hx hb dL_law_791 (by decide) ?_
  refine lv_iadd hx hb dL_law_792 ?_
  refine va_sld hx hb hX hbl hbA hS (sx_in (k := 2) hi (by decide) hL) dL_law_793 ?_
  refine callMi (va_runV (As := [.int (xs (ix (nI i + 1))), .int (xs (ix (nI i + 2)))]) (rest := [.int r1]) ⟨hx, hb, hml, hown, hts⟩ (k_X6_kind l D cI cL cS bm (sCo s1) (sGu s1) (sKn s1) (sFo s1) (sSp s1) (sKi s1) (sPl s1) (sEa s1) (sTo s1) (sQu s1) fnd mo tr b1 bt ln so bg te wd va gd bits size (flat4 num) le im bf ik (xs (ix (nI i + 1))) (xs (ix (nI i + 2))) hdm o1.1.cC o1.2) (cwV 2 hts gL_law_X6_kind rfl rfl rfl (by decide +kernel) ⟨Nat.le_of_ble_eq_true rfl, Nat.le_of_ble_eq_true rfl⟩) ⟨PcR_fb, va_recv hK hP (ci := 4) (q0 := 49) rfl rfl, PcR_pre (va_seg hP 49 13 rfl) hK⟩ rfl rfl hl.1 rfl (lv_room (Nat.le_of_ble_eq_true rfl)) dL_law_794 ⟨Nat.le_of_ble_eq_true rfl, Nat.le_of_ble_eq_true rfl⟩) hP (hD _ rfl) hS 49 13 rfl (fun r2 u H locs h2 hP hS => ?_)
  obtain ⟨y1, y2, y3⟩ := u
  have hP : va_P D vwCl (kcw cI cL cS b s1 w1 m1 n1 x1 x2 x3 x4 s3 w3 m3 n3 ik bt ln tk sb en nm bits size num x5 ++ mdw cI cL bm (encS s1) y3 y1 y2 b1 bt ln so bg te wd va gd bits size (flat4 num) le im bf ik) H := hP
  have eq := (h1).trans (h2).symm
  have eq : (r1, x5) = (r2, y3) := eq
  cases eq
  exact lv_icmp_eq (tgt := 1281) hx hb dL_law_797 (by decide) (fun _ => k H locs ⟨_, _, _, _, _, _, _, _, _, _, _, _, _, _, _, _, _, _, _, _, _, _, _, _, _, _, _, _, _, _, _, _, _, _, _, hP, o1, o3, oh, ol, hB, him⟩ hS) (fun q9 => absurd rfl q9)

set_option maxRecDepth 100000 in
set_option maxHeartbeats 4000000 in
theorem law_spoon {p : Program} {l : Launch} {e : Env} {s : State} {m : MethodId} {below : List Frame} {meth : Method} {c : Code} {a L : Nat} {xs : Nat → Int32} (hL : L ≤ 3072) (C0 : lw_At p s m meth c a L xs) {D : va_G} {cI cL cS : ClassId} {b : Nat → Nat → Nat} {bm ad av : Nat → Nat} {fm : Option Nat} (hK : va_K D vwCl (tyG cI cL cS) s) (hD0 : va_D (fun q : Nat => s.heap.size ≤ q) (djk b ++ dj0 bm 13)) (hZ : SX ad av fm (fun q : Nat => s.heap.size ≤ q) s s.heap) {H : Heap} {locs : List Loc} {ls : Array Slot} {i : Nat} (hI : LW D cI cL cS b bm H) (hS : va_S (fun q : Nat => s.heap.size ≤ q) s.heap H locs) (hi : i + 6 ≤ L) (hl : lv_has ls 4 [(3, .int (nI i)), (2, .ref (bm 0)), (1, .ref (b 0 0)), (0, .ref a)]) (k : ∀ (H : Heap) (locs : List Loc), LW D cI cL cS b bm H → va_S (fun q : Nat => s.heap.size ≤ q) s.heap H locs → W p l e room_1 s m #[Value.ref a] below meth c H locs 62 1366 (lw_Z below #[Value.ref a] s) (F0 m 1281 ls [])) : W p l e room_1 s m #[Value.ref a] below meth c H locs 62 1366 (lw_Z below #[Value.ref a] s) (F0 m 802 ls []) := by
  obtain ⟨hx, hb, hr, hml, hown, hts0, hX, hbl, hlocks, hgv⟩ := id C0
  have hown : s.vm.findClass RL = some m.cls := hown
  have hts : ∀ w ∈ wsL_law, w.before #[Value.ref a] s = true := fun w h => hts0 w (wsL_law_in w h)
  have hbA : ¬ (fun q : Nat => s.heap.size ≤ q) a := Nat.not_le.mpr hbl
  have hdk : va_D (fun _ => True) (djk b) := va_DT (va_segD hD0 0 49 rfl) rfl
  have hdm : va_D (fun _ => True) (dj0 bm 13) := va_DT (va_segD hD0 49 13 rfl) rfl
  have hD : ∀ ws' : va_W, ws'.map Prod.fst = (djk b ++ dj0 bm 13).map Prod.fst → va_D (fun q : Nat => s.heap.size ≤ q) ws' := fun ws' e => va_D_adr hD0 e
  obtain ⟨s1, w1, m1, n1, s2, w2, m2, n2, s3, w3, m3, n3, ik, bt, ln, tk, sb, en, nm, bits, size, num, fnd, mo, tr, b1, so, bg, te, wd, va, gd, le, im, bf, hP, o1, o3, oh, ol, hB, him⟩ := hI
  refine lv_aload_n hx hb dL_law_802 rfl (lv_at hl 2 rfl) ?_
  refine lv_aload_n hx hb dL_law_803 rfl (lv_at hl 3 rfl) ?_
  refine lv_iload_n hx hb dL_law_804 rfl (lv_at hl 0 rfl) ?_
  refine lv_iconst (v := 1) hx hb dL_law_805 (by decide) ?_
  refine lv_iadd hx hb dL_law_806 ?_
  refine va_sld hx hb hX hbl hbA hS (sx_in (k := 1) hi (by decide) hL) dL_law_807 ?_
  refine lv_aload_n hx hb dL_law_808 rfl (lv_at hl 3 rfl) ?_
  refine lv_iload_n hx hb dL_law_809 rfl (lv_at hl 0 rfl) ?_
  refine lv_iconst (v := 2) hx hb dL_law_810 (by decide) ?_
  refine lv_iadd hx hb dL_law_811 ?_
  refine va_sld hx hb hX hbl hbA hS (sx_in (k := 2) hi (by decide) hL) dL_law_812 ?_
  refine lv_aload_n hx hb dL_law_813 rfl (lv_at hl 3 rfl) ?_
  refine lv_iload_n hx hb dL_law_814 rfl (lv_at hl 0 rfl) ?_
  refine lv_iconst (v := 3) hx hb dL_law_815 (by decide) ?_
  refine lv_iadd hx hb dL_law_816 ?_
  refine va_sld hx hb hX hbl hbA hS (sx_in (k := 3) hi (by decide) hL) dL_law_817 ?_
  refine callMi (va_runV (As := [.int (xs (ix (nI i + 1))), .int (xs (ix (nI i + 2))), .int (xs (ix (nI i + 3)))]) (rest := []) ⟨hx, hb, hml, hown, hts⟩ (k_X5_spoon l D cI cL cS b s1 w1 m1 n1 s2 w2 m2 n2 s3 w3 m3 n3 ik bt ln tk sb en nm bits size num fnd (xs (ix (nI i + 1))) (xs (ix (nI i + 2))) (xs (ix (nI i + 3))) hdk o1) (cwV 3 hts gL_law_X5_spoon rfl rfl rfl (by decide +kernel) ⟨Nat.le_of_ble_eq_true rfl, Nat.le_of_ble_eq_true rfl⟩) ⟨PcR_fb, va_recv hK hP (ci := 3) (q0 := 0) rfl rfl, PcR_pre (va_seg hP 0 49 rfl) hK⟩ rfl rfl hl.1 rfl (lv_room (Nat.le_of_ble_eq_true rfl)) dL_law_818 ⟨Nat.le_of_ble_eq_true rfl, Nat.le_of_ble_eq_true rfl⟩) hP (hD _ rfl) hS 0 49 rfl (fun r1 u H locs h1 hP hS => ?_)
  obtain ⟨x1, x2, x3, x4, x5⟩ := u
  have hP : va_P D vwCl (kcw cI cL cS b s1 w1 m1 n1 x1 x2 x3 x4 s3 w3 m3 n3 ik bt ln tk sb en nm bits size num x5 ++ mdw cI cL bm (encS s1) fnd mo tr b1 bt ln so bg te wd va gd bits size (flat4 num) le im bf ik) H := hP
  refine lv_aload_n hx hb dL_law_821 rfl (lv_at hl 1 rfl) ?_
  refine lv_aload_n hx hb dL_law_822 rfl (lv_at hl 3 rfl) ?_
  refine lv_iload_n hx hb dL_law_823 rfl (lv_at hl 0 rfl) ?_
  refine lv_iconst (v := 1) hx hb dL_law_824 (by decide) ?_
  refine lv_iadd hx hb dL_law_825 ?_
  refine va_sld hx hb hX hbl hbA hS (sx_in (k := 1) hi (by decide) hL) dL_law_826 ?_
  refine lv_aload_n hx hb dL_law_827 rfl (lv_at hl 3 rfl) ?_
  refine lv_iload_n hx hb dL_law_828 rfl (lv_at hl 0 rfl) ?_
  refine lv_iconst (v := 2) hx hb dL_law_829 (by decide) ?_
  refine lv_iadd hx hb dL_law_830 ?_
  refine va_sld hx hb hX hbl hbA hS (sx_in (k := 2) hi (by decide) hL) dL_law_831 ?_
  refine lv_aload_n hx hb dL_law_832 rfl (lv_at hl 3 rfl) ?_
  refine lv_iload_n hx hb dL_law_833 rfl (lv_at hl 0 rfl) ?_
  refine lv_iconst (v := 3) hx hb dL_law_834 (by decide) ?_
  refine lv_iadd hx hb dL_law_835 ?_
  refine va_sld hx hb hX hbl hbA hS (sx_in (k := 3) hi (by decide) hL) dL_law_836 ?_
  refine callMi (va_runV (As := [.int (xs (ix (nI i + 1))), .int (xs (ix (nI i + 2))), .int (xs (ix (nI i + 3)))]) (rest := [.int r1]) ⟨hx, hb, hml, hown, hts⟩ (k_X6_spoon l D cI cL cS bm (sCo s1) (sGu s1) (sKn s1) (sFo s1) (sSp s1) (sKi s1) (sPl s1) (sEa s1) (sTo s1) (sQu s1) fnd mo tr b1 bt ln so bg te wd va gd bits size (flat4 num) le im bf ik (xs (ix (nI i + 1))) (xs (ix (nI i + 2))) (xs (ix (nI i + 3))) hdm o1.1.cC o1.2) (cwV 3 hts gL_law_X6_spoon rfl rfl rfl (by decide +kernel) ⟨Nat.le_of_ble_eq_true rfl, Nat.le_of_ble_eq_true rfl⟩) ⟨PcR_fb, va_recv hK hP (ci := 4) (q0 := 49) rfl rfl, PcR_pre (va_seg hP 49 13 rfl) hK⟩ rfl rfl hl.1 rfl (lv_room (Nat.le_of_ble_eq_true rfl)) dL_law_837 ⟨Nat.le_of_ble_eq_true rfl, Nat.le_of_ble_eq_true rfl⟩) hP (hD _ rfl) hS 49 13 rfl (fun r2 u H locs h2 hP hS => ?_)
  obtain ⟨y1, y2, y3⟩ := u
  have hP : va_P D vwCl (kcw cI cL cS b s1 w1 m1 n1 x1 x2 x3 x4 s3 w3 m3 n3 ik bt ln tk sb en nm bits size num x5 ++ mdw cI cL bm (encS s1) y3 y1 y2 b1 bt ln so bg te wd va gd bits size (flat4 num) le im bf ik) H := hP
  have eq := (h1).trans (h2).symm
  have eq : (r1, x5) = (r2, y3) := eq
  cases eq
  exact lv_icmp_eq (tgt := 1281) hx hb dL_law_840 (by decide) (fun _ => k H locs ⟨_, _, _, _, _, _, _, _, _, _, _, _, _, _, _, _, _, _, _, _, _, _, _, _, _, _, _, _, _, _, _, _, _, _, _, hP, o1, o3, oh, ol, hB, him⟩ hS) (fun q9 => absurd rfl q9)

set_option maxRecDepth 100000 in
set_option maxHeartbeats 4000000 in
theorem law_change {p : Program} {l : Launch} {e : Env} {s : State} {m : MethodId} {below : List Frame} {meth : Method} {c : Code} {a L : Nat} {xs : Nat → Int32} (hL : L ≤ 3072) (C0 : lw_At p s m meth c a L xs) {D : va_G} {cI cL cS : ClassId} {b : Nat → Nat → Nat} {bm ad av : Nat → Nat} {fm : Option Nat} (hK : va_K D vwCl (tyG cI cL cS) s) (hD0 : va_D (fun q : Nat => s.heap.size ≤ q) (djk b ++ dj0 bm 13)) (hZ : SX ad av fm (fun q : Nat => s.heap.size ≤ q) s s.heap) {H : Heap} {locs : List Loc} {ls : Array Slot} {i : Nat} (hI : LW D cI cL cS b bm H) (hS : va_S (fun q : Nat => s.heap.size ≤ q) s.heap H locs) (hi : i + 6 ≤ L) (hl : lv_has ls 4 [(3, .int (nI i)), (2, .ref (bm 0)), (1, .ref (b 0 0)), (0, .ref a)]) (k : ∀ (H : Heap) (locs : List Loc), LW D cI cL cS b bm H → va_S (fun q : Nat => s.heap.size ≤ q) s.heap H locs → W p l e room_1 s m #[Value.ref a] below meth c H locs 62 1366 (lw_Z below #[Value.ref a] s) (F0 m 1281 ls [])) : W p l e room_1 s m #[Value.ref a] below meth c H locs 62 1366 (lw_Z below #[Value.ref a] s) (F0 m 845 ls []) := by
  obtain ⟨hx, hb, hr, hml, hown, hts0, hX, hbl, hlocks, hgv⟩ := id C0
  have hown : s.vm.findClass RL = some m.cls := hown
  have hts : ∀ w ∈ wsL_law, w.before #[Value.ref a] s = true := fun w h => hts0 w (wsL_law_in w h)
  have hbA : ¬ (fun q : Nat => s.heap.size ≤ q) a := Nat.not_le.mpr hbl
  have hdk : va_D (fun _ => True) (djk b) := va_DT (va_segD hD0 0 49 rfl) rfl
  have hdm : va_D (fun _ => True) (dj0 bm 13) := va_DT (va_segD hD0 49 13 rfl) rfl
  have hD : ∀ ws' : va_W, ws'.map Prod.fst = (djk b ++ dj0 bm 13).map Prod.fst → va_D (fun q : Nat => s.heap.size ≤ q) ws' := fun ws' e => va_D_adr hD0 e
  obtain ⟨s1, w1, m1, n1, s2, w2, m2, n2, s3, w3, m3, n3, ik, bt, ln, tk, sb, en, nm, bits, size, num, fnd, mo, tr, b1, so, bg, te, wd, va, gd, le, im, bf, hP, o1, o3, oh, ol, hB, him⟩ := hI
  refine lv_aload_n hx hb dL_law_845 rfl (lv_at hl 2 rfl) ?_
  refine lv_aload_n hx hb dL_law_846 rfl (lv_at hl 3 rfl) ?_
  refine lv_iload_n hx hb dL_law_847 rfl (lv_at hl 0 rfl) ?_
  refine lv_iconst (v := 1) hx hb dL_law_848 (by decide) ?_
  refine lv_iadd hx hb dL_law_849 ?_
  refine va_sld hx hb hX hbl hbA hS (sx_in (k := 1) hi (by decide) hL) dL_law_850 ?_
  refine callMi (va_runV (As := [.int (xs (ix (nI i + 1)))]) (rest := []) ⟨hx, hb, hml, hown, hts⟩ (k_X5_change l D cI cL cS b s1 w1 m1 n1 s2 w2 m2 n2 s3 w3 m3 n3 ik bt ln tk sb en nm bits size num fnd (xs (ix (nI i + 1))) hdk o1) (cwV 1 hts gL_law_X5_change rfl rfl rfl (by decide +kernel) ⟨Nat.le_of_ble_eq_true rfl, Nat.le_of_ble_eq_true rfl⟩) ⟨PcR_fb, va_recv hK hP (ci := 3) (q0 := 0) rfl rfl, PcR_pre (va_seg hP 0 49 rfl) hK⟩ rfl rfl hl.1 rfl (lv_room (Nat.le_of_ble_eq_true rfl)) dL_law_851 ⟨Nat.le_of_ble_eq_true rfl, Nat.le_of_ble_eq_true rfl⟩) hP (hD _ rfl) hS 0 49 rfl (fun r1 u H locs h1 hP hS => ?_)
  obtain ⟨x1, x2, x3, x4, x5⟩ := u
  have hP : va_P D vwCl (kcw cI cL cS b s1 w1 m1 n1 x1 x2 x3 x4 s3 w3 m3 n3 ik bt ln tk sb en nm bits size num x5 ++ mdw cI cL bm (encS s1) fnd mo tr b1 bt ln so bg te wd va gd bits size (flat4 num) le im bf ik) H := hP
  refine lv_aload_n hx hb dL_law_854 rfl (lv_at hl 1 rfl) ?_
  refine lv_aload_n hx hb dL_law_855 rfl (lv_at hl 3 rfl) ?_
  refine lv_iload_n hx hb dL_law_856 rfl (lv_at hl 0 rfl) ?_
  refine lv_iconst (v := 1) hx hb dL_law_857 (by decide) ?_
  refine lv_iadd hx hb dL_law_858 ?_
  refine va_sld hx hb hX hbl hbA hS (sx_in (k := 1) hi (by decide) hL) dL_law_859 ?_
  refine callMi (va_runV (As := [.int (xs (ix (nI i + 1)))]) (rest := [.int r1]) ⟨hx, hb, hml, hown, hts⟩ (k_X6_change l D cI cL cS bm (sCo s1) (sGu s1) (sKn s1) (sFo s1) (sSp s1) (sKi s1) (sPl s1) (sEa s1) (sTo s1) (sQu s1) fnd mo tr b1 bt ln so bg te wd va gd bits size (flat4 num) le im bf ik (xs (ix (nI i + 1))) hdm o1.1.cC o1.2) (cwV 1 hts gL_law_X6_change rfl rfl rfl (by decide +kernel) ⟨Nat.le_of_ble_eq_true rfl, Nat.le_of_ble_eq_true rfl⟩) ⟨PcR_fb, va_recv hK hP (ci := 4) (q0 := 49) rfl rfl, PcR_pre (va_seg hP 49 13 rfl) hK⟩ rfl rfl hl.1 rfl (lv_room (Nat.le_of_ble_eq_true rfl)) dL_law_860 ⟨Nat.le_of_ble_eq_true rfl, Nat.le_of_ble_eq_true rfl⟩) hP (hD _ rfl) hS 49 13 rfl (fun r2 u H locs h2 hP hS => ?_)
  obtain ⟨y1, y2, y3⟩ := u
  have hP : va_P D vwCl (kcw cI cL cS b s1 w1 m1 n1 x1 x2 x3 x4 s3 w3 m3 n3 ik bt ln tk sb en nm bits size num x5 ++ mdw cI cL bm (encS s1) y3 y1 y2 b1 bt ln so bg te wd va gd bits size (flat4 num) le im bf ik) H := hP
  have eq := (h1).trans (h2).symm
  have eq : (r1, x5) = (r2, y3) := eq
  cases eq
  exact lv_icmp_eq (tgt := 1281) hx hb dL_law_863 (by decide) (fun _ => k H locs ⟨_, _, _, _, _, _, _, _, _, _, _, _, _, _, _, _, _, _, _, _, _, _, _, _, _, _, _, _, _, _, _, _, _, _, _, hP, o1, o3, oh, ol, hB, him⟩ hS) (fun q9 => absurd rfl q9)

set_option maxRecDepth 100000 in
set_option maxHeartbeats 4000000 in
theorem law_feed {p : Program} {l : Launch} {e : Env} {s : State} {m : MethodId} {below : List Frame} {meth : Method} {c : Code} {a L : Nat} {xs : Nat → Int32} (hL : L ≤ 3072) (C0 : lw_At p s m meth c a L xs) {D : va_G} {cI cL cS : ClassId} {b : Nat → Nat → Nat} {bm ad av : Nat → Nat} {fm : Option Nat} (hK : va_K D vwCl (tyG cI cL cS) s) (hD0 : va_D (fun q : Nat => s.heap.size ≤ q) (djk b ++ dj0 bm 13)) (hZ : SX ad av fm (fun q : Nat => s.heap.size ≤ q) s s.heap) {H : Heap} {locs : List Loc} {ls : Array Slot} {i : Nat} (hI : LW D cI cL cS b bm H) (hS : va_S (fun q : Nat => s.heap.size ≤ q) s.heap H locs) (hi : i + 6 ≤ L) (hl : lv_has ls 4 [(3, .int (nI i)), (2, .ref (bm 0)), (1, .ref (b 0 0)), (0, .ref a)]) (k : ∀ (H : Heap) (locs : List Loc), LW D cI cL cS b bm H → va_S (fun q : Nat => s.heap.size ≤ q) s.heap H locs → W p l e room_1 s m #[Value.ref a] below meth c H locs 62 1366 (lw_Z below #[Value.ref a] s) (F0 m 1281 ls [])) : W p l e room_1 s m #[Value.ref a] below meth c H locs 62 1366 (lw_Z below #[Value.ref a] s) (F0 m 868 ls []) := by
  obtain ⟨hx, hb, hr, hml, hown, hts0, hX, hbl, hlocks, hgv⟩ := id C0
  have hown : s.vm.findClass RL = some m.cls := hown
  have hts : ∀ w ∈ wsL_law, w.before #[Value.ref a] s = true := fun w h => hts0 w (wsL_law_in w h)
  have hbA : ¬ (fun q : Nat => s.heap.size ≤ q) a := Nat.not_le.mpr hbl
  have hdk : va_D (fun _ => True) (djk b) := va_DT (va_segD hD0 0 49 rfl) rfl
  have hdm : va_D (fun _ => True) (dj0 bm 13) := va_DT (va_segD hD0 49 13 rfl) rfl
  have hD : ∀ ws' : va_W, ws'.map Prod.fst = (djk b ++ dj0 bm 13).map Prod.fst → va_D (fun q : Nat => s.heap.size ≤ q) ws' := fun ws' e => va_D_adr hD0 e
  obtain ⟨s1, w1, m1, n1, s2, w2, m2, n2, s3, w3, m3, n3, ik, bt, ln, tk, sb, en, nm, bits, size, num, fnd, mo, tr, b1, so, bg, te, wd, va, gd, le, im, bf, hP, o1, o3, oh, ol, hB, him⟩ := hI
  refine lv_aload_n hx hb dL_law_868 rfl (lv_at hl 2 rfl) ?_
  refine lv_aload_n hx hb dL_law_869 rfl (lv_at hl 3 rfl) ?_
  refine lv_iload_n hx hb dL_law_870 rfl (lv_at hl 0 rfl) ?_
  refine lv_iconst (v := 1) hx hb dL_law_871 (by decide) ?_
  refine lv_iadd hx hb dL_law_872 ?_
  refine va_sld hx hb hX hbl hbA hS (sx_in (k := 1) hi (by decide) hL) dL_law_873 ?_
  refine lv_aload_n hx hb dL_law_874 rfl (lv_at hl 3 rfl) ?_
  refine lv_iload_n hx hb dL_law_875 rfl (lv_at hl 0 rfl) ?_
  refine lv_iconst (v := 2) hx hb dL_law_876 (by decide) ?_
  refine lv_iadd hx hb dL_law_877 ?_
  refine va_sld hx hb hX hbl hbA hS (sx_in (k := 2) hi (by decide) hL) dL_law_878 ?_
  refine callMi (va_runV (As := [.int (xs (ix (nI i + 1))), .int (xs (ix (nI i + 2)))]) (rest := []) ⟨hx, hb, hml, hown, hts⟩ (k_X5_feed l D cI cL cS b s1 w1 m1 n1 s2 w2 m2 n2 s3 w3 m3 n3 ik bt ln tk sb en nm bits size num fnd (xs (ix (nI i + 1))) (xs (ix (nI i + 2))) hdk ol) (cwV 2 hts gL_law_X5_feed rfl rfl rfl (by decide +kernel) ⟨Nat.le_of_ble_eq_true rfl, Nat.le_of_ble_eq_true rfl⟩) ⟨PcR_fb, va_recv hK hP (ci := 3) (q0 := 0) rfl rfl, PcR_pre (va_seg hP 0 49 rfl) hK⟩ rfl rfl hl.1 rfl (lv_room (Nat.le_of_ble_eq_true rfl)) dL_law_879 ⟨Nat.le_of_ble_eq_true rfl, Nat.le_of_ble_eq_true rfl⟩) hP (hD _ rfl) hS 0 49 rfl (fun r1 u H locs h1 hP hS => ?_)
  obtain ⟨x1, x2, x3⟩ := u
  have hP : va_P D vwCl (kcw cI cL cS b s1 w1 m1 n1 s2 w2 m2 n2 s3 w3 m3 n3 ik x1 x2 tk sb en nm bits size num x3 ++ mdw cI cL bm (encS s1) fnd mo tr b1 bt ln so bg te wd va gd bits size (flat4 num) le im bf ik) H := hP
  refine lv_aload_n hx hb dL_law_882 rfl (lv_at hl 1 rfl) ?_
  refine lv_aload_n hx hb dL_law_883 rfl (lv_at hl 3 rfl) ?_
  refine lv_iload_n hx hb dL_law_884 rfl (lv_at hl 0 rfl) ?_
  refine lv_iconst (v := 1) hx hb dL_law_885 (by decide) ?_
  refine lv_iadd hx hb dL_law_886 ?_
  refine va_sld hx hb hX hbl hbA hS (sx_in (k := 1) hi (by decide) hL) dL_law_887 ?_
  refine lv_aload_n hx hb dL_law_888 rfl (lv_at hl 3 rfl) ?_
  refine lv_iload_n hx hb dL_law_889 rfl (lv_at hl 0 rfl) ?_
  refine lv_iconst (v := 2) hx hb dL_law_890 (by decide) ?_
  refine lv_iadd hx hb dL_law_891 ?_
  refine va_sld hx hb hX hbl hbA hS (sx_in (k := 2) hi (by decide) hL) dL_law_892 ?_
  refine callMi (va_runV (As := [.int (xs (ix (nI i + 1))), .int (xs (ix (nI i + 2)))]) (rest := [.int r1]) ⟨hx, hb, hml, hown, hts⟩ (k_X6_feed l D cI cL cS bm (sCo s1) (sGu s1) (sKn s1) (sFo s1) (sSp s1) (sKi s1) (sPl s1) (sEa s1) (sTo s1) (sQu s1) fnd mo tr b1 bt ln so bg te wd va gd bits size (flat4 num) le im bf ik (xs (ix (nI i + 1))) (xs (ix (nI i + 2))) hdm ol) (cwV 2 hts gL_law_X6_feed rfl rfl rfl (by decide +kernel) ⟨Nat.le_of_ble_eq_true rfl, Nat.le_of_ble_eq_true rfl⟩) ⟨PcR_fb, va_recv hK hP (ci := 4) (q0 := 49) rfl rfl, PcR_pre (va_seg hP 49 13 rfl) hK⟩ rfl rfl hl.1 rfl (lv_room (Nat.le_of_ble_eq_true rfl)) dL_law_893 ⟨Nat.le_of_ble_eq_true rfl, Nat.le_of_ble_eq_true rfl⟩) hP (hD _ rfl) hS 49 13 rfl (fun r2 u H locs h2 hP hS => ?_)
  obtain ⟨y1, y2, y3⟩ := u
  have hP : va_P D vwCl (kcw cI cL cS b s1 w1 m1 n1 s2 w2 m2 n2 s3 w3 m3 n3 ik x1 x2 tk sb en nm bits size num x3 ++ mdw cI cL bm (encS s1) y3 mo tr b1 y1 y2 so bg te wd va gd bits size (flat4 num) le im bf ik) H := hP
  have eq := (h1.1).trans (h2).symm
  have hB9 := feed_B h1.1 hB
  have eq : (r1, x1, x2, x3) = (r2, y1, y2, y3) := eq
  cases eq
  exact lv_icmp_eq (tgt := 1281) hx hb dL_law_896 (by decide) (fun _ => k H locs ⟨_, _, _, _, _, _, _, _, _, _, _, _, _, _, _, _, _, _, _, _, _, _, _, _, _, _, _, _, _, _, _, _, _, _, _, hP, o1, o3, oh, h1.2, hB9, him⟩ hS) (fun q9 => absurd rfl q9)

set_option maxRecDepth 100000 in
set_option maxHeartbeats 4000000 in
theorem law_wipe {p : Program} {l : Launch} {e : Env} {s : State} {m : MethodId} {below : List Frame} {meth : Method} {c : Code} {a L : Nat} {xs : Nat → Int32} (hL : L ≤ 3072) (C0 : lw_At p s m meth c a L xs) {D : va_G} {cI cL cS : ClassId} {b : Nat → Nat → Nat} {bm ad av : Nat → Nat} {fm : Option Nat} (hK : va_K D vwCl (tyG cI cL cS) s) (hD0 : va_D (fun q : Nat => s.heap.size ≤ q) (djk b ++ dj0 bm 13)) (hZ : SX ad av fm (fun q : Nat => s.heap.size ≤ q) s s.heap) {H : Heap} {locs : List Loc} {ls : Array Slot} {i : Nat} (hI : LW D cI cL cS b bm H) (hS : va_S (fun q : Nat => s.heap.size ≤ q) s.heap H locs) (hi : i + 6 ≤ L) (hl : lv_has ls 4 [(3, .int (nI i)), (2, .ref (bm 0)), (1, .ref (b 0 0)), (0, .ref a)]) (k : ∀ (H : Heap) (locs : List Loc), LW D cI cL cS b bm H → va_S (fun q : Nat => s.heap.size ≤ q) s.heap H locs → W p l e room_1 s m #[Value.ref a] below meth c H locs 62 1366 (lw_Z below #[Value.ref a] s) (F0 m 1281 ls [])) : W p l e room_1 s m #[Value.ref a] below meth c H locs 62 1366 (lw_Z below #[Value.ref a] s) (F0 m 901 ls []) := by
  obtain ⟨hx, hb, hr, hml, hown, hts0, hX, hbl, hlocks, hgv⟩ := id C0
  have hown : s.vm.findClass RL = some m.cls := hown
  have hts : ∀ w ∈ wsL_law, w.before #[Value.ref a] s = true := fun w h => hts0 w (wsL_law_in w h)
  have hbA : ¬ (fun q : Nat => s.heap.size ≤ q) a := Nat.not_le.mpr hbl
  have hdk : va_D (fun _ => True) (djk b) := va_DT (va_segD hD0 0 49 rfl) rfl
  have hdm : va_D (fun _ => True) (dj0 bm 13) := va_DT (va_segD hD0 49 13 rfl) rfl
  have hD : ∀ ws' : va_W, ws'.map Prod.fst = (djk b ++ dj0 bm 13).map Prod.fst → va_D (fun q : Nat => s.heap.size ≤ q) ws' := fun ws' e => va_D_adr hD0 e
  obtain ⟨s1, w1, m1, n1, s2, w2, m2, n2, s3, w3, m3, n3, ik, bt, ln, tk, sb, en, nm, bits, size, num, fnd, mo, tr, b1, so, bg, te, wd, va, gd, le, im, bf, hP, o1, o3, oh, ol, hB, him⟩ := hI
  refine lv_aload_n hx hb dL_law_901 rfl (lv_at hl 2 rfl) ?_
  refine callMi (va_runV (As := []) (rest := []) ⟨hx, hb, hml, hown, hts⟩ (k_X5_wipe l D cI cL cS b s1 w1 m1 n1 s2 w2 m2 n2 s3 w3 m3 n3 ik bt ln tk sb en nm bits size num fnd hdk ) (cwV 0 hts gL_law_X5_wipe rfl rfl rfl (by decide +kernel) ⟨Nat.le_of_ble_eq_true rfl, Nat.le_of_ble_eq_true rfl⟩) ⟨PcR_fb, va_recv hK hP (ci := 3) (q0 := 0) rfl rfl, PcR_pre (va_seg hP 0 49 rfl) hK⟩ rfl rfl hl.1 rfl (lv_room (Nat.le_of_ble_eq_true rfl)) dL_law_902 ⟨Nat.le_of_ble_eq_true rfl, Nat.le_of_ble_eq_true rfl⟩) hP (hD _ rfl) hS 0 49 rfl (fun r1 u H locs h1 hP hS => ?_)
  obtain ⟨x1, rfl⟩ : ∃ z, z = u := ⟨_, rfl⟩
  have hP : va_P D vwCl (kcw cI cL cS b s1 w1 m1 n1 s2 w2 m2 n2 s3 w3 m3 n3 ik bt x1 tk sb en nm bits size num fnd ++ mdw cI cL bm (encS s1) fnd mo tr b1 bt ln so bg te wd va gd bits size (flat4 num) le im bf ik) H := hP
  refine lv_aload_n hx hb dL_law_905 rfl (lv_at hl 1 rfl) ?_
  refine callMi (va_runV (As := []) (rest := [.int r1]) ⟨hx, hb, hml, hown, hts⟩ (k_X6_wipe l D cI cL cS bm (sCo s1) (sGu s1) (sKn s1) (sFo s1) (sSp s1) (sKi s1) (sPl s1) (sEa s1) (sTo s1) (sQu s1) fnd mo tr b1 bt ln so bg te wd va gd bits size (flat4 num) le im bf ik hdm ) (cwV 0 hts gL_law_X6_wipe rfl rfl rfl (by decide +kernel) ⟨Nat.le_of_ble_eq_true rfl, Nat.le_of_ble_eq_true rfl⟩) ⟨PcR_fb, va_recv hK hP (ci := 4) (q0 := 49) rfl rfl, PcR_pre (va_seg hP 49 13 rfl) hK⟩ rfl rfl hl.1 rfl (lv_room (Nat.le_of_ble_eq_true rfl)) dL_law_906 ⟨Nat.le_of_ble_eq_true rfl, Nat.le_of_ble_eq_true rfl⟩) hP (hD _ rfl) hS 49 13 rfl (fun r2 u H locs h2 hP hS => ?_)
  obtain ⟨y1, rfl⟩ : ∃ z, z = u := ⟨_, rfl⟩
  have hP : va_P D vwCl (kcw cI cL cS b s1 w1 m1 n1 s2 w2 m2 n2 s3 w3 m3 n3 ik bt x1 tk sb en nm bits size num fnd ++ mdw cI cL bm (encS s1) fnd mo tr b1 bt y1 so bg te wd va gd bits size (flat4 num) le im bf ik) H := hP
  obtain ⟨ra, ea⟩ := h1
  obtain ⟨rb, eb⟩ := h2
  have ea : x1 = 0 := ea
  have eb : y1 = 0 := eb
  subst ea
  subst eb
  exact lv_icmp_eq (tgt := 1281) hx hb dL_law_909 (by decide) (fun _ => k H locs ⟨_, _, _, _, _, _, _, _, _, _, _, _, _, _, _, _, _, _, _, _, _, _, _, _, _, _, _, _, _, _, _, _, _, _, _, hP, o1, o3, oh, (vp_in_iff.mpr (by decide)), hB, him⟩ hS) (fun q9 => absurd (ra.trans rb.symm) q9)
