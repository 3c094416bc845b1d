set_option maxRecDepth 100000 in
set_option maxHeartbeats 4000000 in
theorem law_dinner {p : Program} {l : Launch} {e : Env} {s : State} {m : MethodId} {below : List Frame} {meth : Method} {c : Code} {a L : Nat} {xs : Nat → Int32} (hL : L ≤ 3072) (C0 : lw_At p s m meth c a L xs) {D : va_G} {cI cL cS : ClassId} {b : Nat → Nat → Nat} {bm ad av : Nat → Nat} {fm : Option Nat} (hK : va_K D vwCl (tyG cI cL cS) s) (hD0 : va_D (fun q : Nat => s.heap.size ≤ q) (djk b ++ dj0 bm 13)) (hZ : SX ad av fm (fun q : Nat => s.heap.size ≤ q) s s.heap) {H : Heap} {locs : List Loc} {ls : Array Slot} {i : Nat} (hI : LW D cI cL cS b bm H) (hS : va_S (fun q : Nat => s.heap.size ≤ q) s.heap H locs) (hi : i + 6 ≤ L) (hl : lv_has ls 4 [(3, .int (nI i)), (2, .ref (bm 0)), (1, .ref (b 0 0)), (0, .ref a)]) (k : ∀ (H : Heap) (locs : List Loc), LW D cI cL cS b bm H → va_S (fun q : Nat => s.heap.size ≤ q) s.heap H locs → W p l e room_1 s m #[Value.ref a] below meth c H locs 62 1366 (lw_Z below #[Value.ref a] s) (F0 m 1281 ls [])) : W p l e room_1 s m #[Value.ref a] below meth c H locs 62 1366 (lw_Z below #[Value.ref a] s) (F0 m 914 ls []) := by
  obtain ⟨hx, hb, hr, hml, hown, hts0, hX, hbl, hlocks, hgv⟩ := id C0
  have hown : s.vm.findClass RL = some m.cls := hown
  have hts : ∀ w ∈ wsL_law, w.before #[Value.ref a] s = true := fun w h => hts0 w (wsL_law_in w h)
  have hbA : ¬ (fun q : Nat => s.heap.size ≤ q) a := Nat.not_le.mpr hbl
  have hdk : va_D (fun _ => True) (djk b) := va_DT (va_segD hD0 0 49 rfl) rfl
  have hdm : va_D (fun _ => True) (dj0 bm 13) := va_DT (va_segD hD0 49 13 rfl) rfl
  have hD : ∀ ws' : va_W, ws'.map Prod.fst = (djk b ++ dj0 bm 13).map Prod.fst → va_D (fun q : Nat => s.heap.size ≤ q) ws' := fun ws' e => va_D_adr hD0 e
  obtain ⟨s1, w1, m1, n1, s2, w2, m2, n2, s3, w3, m3, n3, ik, bt, ln, tk, sb, en, nm, bits, size, num, fnd, mo, tr, b1, so, bg, te, wd, va, gd, le, im, bf, hP, o1, o3, oh, ol, hB, him⟩ := hI
  refine lv_aload_n hx hb dL_law_914 rfl (lv_at hl 2 rfl) ?_
  refine callMi (va_runV (As := []) (rest := []) ⟨hx, hb, hml, hown, hts⟩ (k_X5_dinner l D cI cL cS b s1 w1 m1 n1 s2 w2 m2 n2 s3 w3 m3 n3 ik bt ln tk sb en nm bits size num fnd ad av fm 0 hdk o1 ol) (cwV 0 hts gL_law_X5_dinner rfl rfl rfl (by decide +kernel) ⟨Nat.le_of_ble_eq_true rfl, Nat.le_of_ble_eq_true rfl⟩) ⟨PcQ_fb, va_recv hK hP (ci := 3) (q0 := 0) rfl rfl, PcQ_pre (va_seg hP 0 49 rfl) hK hZ hS (Aof_in (va_segD (hD (kcw cI cL cS b s1 w1 m1 n1 s2 w2 m2 n2 s3 w3 m3 n3 ik bt ln tk sb en nm bits size num fnd ++ mdw cI cL bm (encS s1) fnd mo tr b1 bt ln so bg te wd va gd bits size (flat4 num) le im bf ik) rfl) 0 49 rfl))⟩ rfl rfl hl.1 rfl (lv_room (Nat.le_of_ble_eq_true rfl)) dL_law_915 ⟨Nat.le_of_ble_eq_true rfl, Nat.le_of_ble_eq_true rfl⟩) hP (hD _ rfl) hS 0 49 rfl (fun r1 u H locs h1 hP hS => ?_)
  obtain ⟨x1, x2, x3, x4, x5, x6, x7, x8, x9⟩ := u
  have hP : va_P D vwCl (kcw cI cL cS b x1 x2 m1 n1 x3 x4 m2 n2 s3 w3 m3 n3 ik bt x5 x6 x7 x8 x9 bits size num fnd ++ mdw cI cL bm (encS s1) fnd mo tr b1 bt ln so bg te wd va gd bits size (flat4 num) le im bf ik) H := hP
  refine lv_aload_n hx hb dL_law_918 rfl (lv_at hl 1 rfl) ?_
  refine callMi (va_runV (As := []) (rest := [.int r1]) ⟨hx, hb, hml, hown, hts⟩ (k_X6_dinner l D cI cL cS bm (sCo s1) (sGu s1) (sKn s1) (sFo s1) (sSp s1) (sKi s1) (sPl s1) (sEa s1) (sTo s1) (sQu s1) fnd mo tr b1 bt ln so bg te wd va gd bits size (flat4 num) le im bf ik 0 hdm o1.1.cC o1.2 ol (fun j _ => hB j)) (cwV 0 hts gL_law_X6_dinner rfl rfl rfl (by decide +kernel) ⟨Nat.le_of_ble_eq_true rfl, Nat.le_of_ble_eq_true rfl⟩) ⟨PcR_fb, va_recv hK hP (ci := 4) (q0 := 49) rfl rfl, PcR_pre (va_seg hP 49 13 rfl) hK⟩ rfl rfl hl.1 rfl (lv_room (Nat.le_of_ble_eq_true rfl)) dL_law_919 ⟨Nat.le_of_ble_eq_true rfl, Nat.le_of_ble_eq_true rfl⟩) hP (hD _ rfl) hS 49 13 rfl (fun r2 u H locs h2 hP hS => ?_)
  obtain ⟨y1, y2, y3, y4, y5, y6, y7, y8, y9⟩ := u
  have hP : va_P D vwCl (kcw cI cL cS b x1 x2 m1 n1 x3 x4 m2 n2 s3 w3 m3 n3 ik bt x5 x6 x7 x8 x9 bits size num fnd ++ mdw cI cL bm (encS y1) fnd mo tr b1 bt y2 y5 y6 y7 y8 y9 y3 bits size (flat4 num) le im y4 ik) H := hP
  have eq := (h1.1).trans (h2.1).symm
  obtain ⟨-, e0, o9⟩ := h1
  have e9 := h2.2
  dsimp only at e0 e9
  have eq : (r1, x1) = (r2, y1) := eq
  cases eq
  subst e0
  subst e9
  exact lv_icmp_eq (tgt := 1281) hx hb dL_law_922 (by decide) (fun _ => k H locs ⟨_, _, _, _, _, _, _, _, _, _, _, _, _, _, _, _, _, _, _, _, _, _, _, _, _, _, _, _, _, _, _, _, _, _, _, hP, o9, o3, oh, (vp_in_iff.mpr (by decide)), hB, him⟩ hS) (fun q9 => absurd rfl q9)

set_option maxRecDepth 100000 in
set_option maxHeartbeats 4000000 in
theorem law_sheet {p : Program} {l : Launch} {e : Env} {s : State} {m : MethodId} {below : List Frame} {meth : Method} {c : Code} {a L : Nat} {xs : Nat → Int32} (hL : L ≤ 3072) (C0 : lw_At p s m meth c a L xs) {D : va_G} {cI cL cS : ClassId} {b : Nat → Nat → Nat} {bm ad av : Nat → Nat} {fm : Option Nat} (hK : va_K D vwCl (tyG cI cL cS) s) (hD0 : va_D (fun q : Nat => s.heap.size ≤ q) (djk b ++ dj0 bm 13)) (hZ : SX ad av fm (fun q : Nat => s.heap.size ≤ q) s s.heap) {H : Heap} {locs : List Loc} {ls : Array Slot} {i : Nat} (hI : LW D cI cL cS b bm H) (hS : va_S (fun q : Nat => s.heap.size ≤ q) s.heap H locs) (hi : i + 6 ≤ L) (hl : lv_has ls 4 [(3, .int (nI i)), (2, .ref (bm 0)), (1, .ref (b 0 0)), (0, .ref a)]) (k : ∀ (H : Heap) (locs : List Loc), LW D cI cL cS b bm H → va_S (fun q : Nat => s.heap.size ≤ q) s.heap H locs → W p l e room_1 s m #[Value.ref a] below meth c H locs 62 1366 (lw_Z below #[Value.ref a] s) (F0 m 1281 ls [])) : W p l e room_1 s m #[Value.ref a] below meth c H locs 62 1366 (lw_Z below #[Value.ref a] s) (F0 m 927 ls []) := by
  obtain ⟨hx, hb, hr, hml, hown, hts0, hX, hbl, hlocks, hgv⟩ := id C0
  have hown : s.vm.findClass RL = some m.cls := hown
  have hts : ∀ w ∈ wsL_law, w.before #[Value.ref a] s = true := fun w h => hts0 w (wsL_law_in w h)
  have hbA : ¬ (fun q : Nat => s.heap.size ≤ q) a := Nat.not_le.mpr hbl
  have hdk : va_D (fun _ => True) (djk b) := va_DT (va_segD hD0 0 49 rfl) rfl
  have hdm : va_D (fun _ => True) (dj0 bm 13) := va_DT (va_segD hD0 49 13 rfl) rfl
  have hD : ∀ ws' : va_W, ws'.map Prod.fst = (djk b ++ dj0 bm 13).map Prod.fst → va_D (fun q : Nat => s.heap.size ≤ q) ws' := fun ws' e => va_D_adr hD0 e
  obtain ⟨s1, w1, m1, n1, s2, w2, m2, n2, s3, w3, m3, n3, ik, bt, ln, tk, sb, en, nm, bits, size, num, fnd, mo, tr, b1, so, bg, te, wd, va, gd, le, im, bf, hP, o1, o3, oh, ol, hB, him⟩ := hI
  refine lv_aload_n hx hb dL_law_927 rfl (lv_at hl 2 rfl) ?_
  refine lv_aload_n hx hb dL_law_928 rfl (lv_at hl 3 rfl) ?_
  refine lv_iload_n hx hb dL_law_929 rfl (lv_at hl 0 rfl) ?_
  refine lv_iconst (v := 1) hx hb dL_law_930 (by decide) ?_
  refine lv_iadd hx hb dL_law_931 ?_
  refine va_sld hx hb hX hbl hbA hS (sx_in (k := 1) hi (by decide) hL) dL_law_932 ?_
  refine lv_aload_n hx hb dL_law_933 rfl (lv_at hl 3 rfl) ?_
  refine lv_iload_n hx hb dL_law_934 rfl (lv_at hl 0 rfl) ?_
  refine lv_iconst (v := 2) hx hb dL_law_935 (by decide) ?_
  refine lv_iadd hx hb dL_law_936 ?_
  refine va_sld hx hb hX hbl hbA hS (sx_in (k := 2) hi (by decide) hL) dL_law_937 ?_
  refine lv_aload_n hx hb dL_law_938 rfl (lv_at hl 3 rfl) ?_
  refine lv_iload_n hx hb dL_law_939 rfl (lv_at hl 0 rfl) ?_
  refine lv_iconst (v := 3) hx hb dL_law_940 (by decide) ?_
  refine lv_iadd hx hb dL_law_941 ?_
  refine va_sld hx hb hX hbl hbA hS (sx_in (k := 3) hi (by decide) hL) dL_law_942 ?_
  refine callMi (va_runV (As := [.int (xs (ix (nI i + 1))), .int (xs (ix (nI i + 2))), .int (xs (ix (nI i + 3)))]) (rest := []) ⟨hx, hb, hml, hown, hts⟩ (k_X5_sheet l D cI cL cS b s1 w1 m1 n1 s2 w2 m2 n2 s3 w3 m3 n3 ik bt ln tk sb en nm bits size num fnd (xs (ix (nI i + 1))) (xs (ix (nI i + 2))) (xs (ix (nI i + 3))) hdk ) (cwV 3 hts gL_law_X5_sheet rfl rfl rfl (by decide +kernel) ⟨Nat.le_of_ble_eq_true rfl, Nat.le_of_ble_eq_true rfl⟩) ⟨PcR_fb, va_recv hK hP (ci := 3) (q0 := 0) rfl rfl, PcR_pre (va_seg hP 0 49 rfl) hK⟩ rfl rfl hl.1 rfl (lv_room (Nat.le_of_ble_eq_true rfl)) dL_law_943 ⟨Nat.le_of_ble_eq_true rfl, Nat.le_of_ble_eq_true rfl⟩) hP (hD _ rfl) hS 0 49 rfl (fun r1 u H locs h1 hP hS => ?_)
  obtain ⟨x1, x2, x3, x4⟩ := u
  have hP : va_P D vwCl (kcw cI cL cS b s1 w1 m1 n1 s2 w2 m2 n2 s3 w3 m3 n3 ik bt ln tk sb en nm x1 x2 x3 x4 ++ mdw cI cL bm (encS s1) fnd mo tr b1 bt ln so bg te wd va gd bits size (flat4 num) le im bf ik) H := hP
  refine lv_aload_n hx hb dL_law_946 rfl (lv_at hl 1 rfl) ?_
  refine lv_aload_n hx hb dL_law_947 rfl (lv_at hl 3 rfl) ?_
  refine lv_iload_n hx hb dL_law_948 rfl (lv_at hl 0 rfl) ?_
  refine lv_iconst (v := 1) hx hb dL_law_949 (by decide) ?_
  refine lv_iadd hx hb dL_law_950 ?_
  refine va_sld hx hb hX hbl hbA hS (sx_in (k := 1) hi (by decide) hL) dL_law_951 ?_
  refine lv_aload_n hx hb dL_law_952 rfl (lv_at hl 3 rfl) ?_
  refine lv_iload_n hx hb dL_law_953 rfl (lv_at hl 0 rfl) ?_
  refine lv_iconst (v := 2) hx hb dL_law_954 (by decide) ?_
  refine lv_iadd hx hb dL_law_955 ?_
  refine va_sld hx hb hX hbl hbA hS (sx_in (k := 2) hi (by decide) hL) dL_law_956 ?_
  refine lv_aload_n hx hb dL_law_957 rfl (lv_at hl 3 rfl) ?_
  refine lv_iload_n hx hb dL_law_958 rfl (lv_at hl 0 rfl) ?_
  refine lv_iconst (v := 3) hx hb dL_law_959 (by decide) ?_
  refine lv_iadd hx hb dL_law_960 ?_
  refine va_sld hx hb hX hbl hbA hS (sx_in (k := 3) hi (by decide) hL) dL_law_961 ?_
  refine callMi (va_runV (As := [.int (xs (ix (nI i + 1))), .int (xs (ix (nI i + 2))), .int (xs (ix (nI i + 3)))]) (rest := [.int r1]) ⟨hx, hb, hml, hown, hts⟩ (k_X6_sheet l D cI cL cS bm (sCo s1) (sGu s1) (sKn s1) (sFo s1) (sSp s1) (sKi s1) (sPl s1) (sEa s1) (sTo s1) (sQu s1) fnd mo tr b1 bt ln so bg te wd va gd bits size le im bf ik num (xs (ix (nI i + 1))) (xs (ix (nI i + 2))) (xs (ix (nI i + 3))) hdm ) (cwV 3 hts gL_law_X6_sheet rfl rfl rfl (by decide +kernel) ⟨Nat.le_of_ble_eq_true rfl, Nat.le_of_ble_eq_true rfl⟩) ⟨PcR_fb, va_recv hK hP (ci := 4) (q0 := 49) rfl rfl, PcR_pre (va_seg hP 49 13 rfl) hK⟩ rfl rfl hl.1 rfl (lv_room (Nat.le_of_ble_eq_true rfl)) dL_law_962 ⟨Nat.le_of_ble_eq_true rfl, Nat.le_of_ble_eq_true rfl⟩) hP (hD _ rfl) hS 49 13 rfl (fun r2 u H locs h2 hP hS => ?_)
  obtain ⟨y1, y2, y3, y4⟩ := u
  have hP : va_P D vwCl (kcw cI cL cS b s1 w1 m1 n1 s2 w2 m2 n2 s3 w3 m3 n3 ik bt ln tk sb en nm x1 x2 x3 x4 ++ mdw cI cL bm (encS s1) y4 mo tr b1 bt ln so bg te wd va gd y1 y2 (flat4 y3) le im bf ik) H := hP
  have eq := (h1).trans (h2).symm
  have oh9 := sheet_H h1 oh
  have eq : (r1, x1, x2, x3, x4) = (r2, y1, y2, y3, y4) := eq
  cases eq
  exact lv_icmp_eq (tgt := 1281) hx hb dL_law_965 (by decide) (fun _ => k H locs ⟨_, _, _, _, _, _, _, _, _, _, _, _, _, _, _, _, _, _, _, _, _, _, _, _, _, _, _, _, _, _, _, _, _, _, _, hP, o1, o3, oh9, ol, hB, him⟩ hS) (fun q9 => absurd rfl q9)

set_option maxRecDepth 100000 in
set_option maxHeartbeats 4000000 in
theorem law_write {p : Program} {l : Launch} {e : Env} {s : State} {m : MethodId} {below : List Frame} {meth : Method} {c : Code} {a L : Nat} {xs : Nat → Int32} (hL : L ≤ 3072) (C0 : lw_At p s m meth c a L xs) {D : va_G} {cI cL cS : ClassId} {b : Nat → Nat → Nat} {bm ad av : Nat → Nat} {fm : Option Nat} (hK : va_K D vwCl (tyG cI cL cS) s) (hD0 : va_D (fun q : Nat => s.heap.size ≤ q) (djk b ++ dj0 bm 13)) (hZ : SX ad av fm (fun q : Nat => s.heap.size ≤ q) s s.heap) {H : Heap} {locs : List Loc} {ls : Array Slot} {i : Nat} (hI : LW D cI cL cS b bm H) (hS : va_S (fun q : Nat => s.heap.size ≤ q) s.heap H locs) (hi : i + 6 ≤ L) (hl : lv_has ls 4 [(3, .int (nI i)), (2, .ref (bm 0)), (1, .ref (b 0 0)), (0, .ref a)]) (k : ∀ (H : Heap) (locs : List Loc), LW D cI cL cS b bm H → va_S (fun q : Nat => s.heap.size ≤ q) s.heap H locs → W p l e room_1 s m #[Value.ref a] below meth c H locs 62 1366 (lw_Z below #[Value.ref a] s) (F0 m 1281 ls [])) : W p l e room_1 s m #[Value.ref a] below meth c H locs 62 1366 (lw_Z below #[Value.ref a] s) (F0 m 970 ls []) := by
  obtain ⟨hx, hb, hr, hml, hown, hts0, hX, hbl, hlocks, hgv⟩ := id C0
  have hown : s.vm.findClass RL = some m.cls := hown
  have hts : ∀ w ∈ wsL_law, w.before #[Value.ref a] s = true := fun w h => hts0 w (wsL_law_in w h)
  have hbA : ¬ (fun q : Nat => s.heap.size ≤ q) a := Nat.not_le.mpr hbl
  have hdk : va_D (fun _ => True) (djk b) := va_DT (va_segD hD0 0 49 rfl) rfl
  have hdm : va_D (fun _ => True) (dj0 bm 13) := va_DT (va_segD hD0 49 13 rfl) rfl
  have hD : ∀ ws' : va_W, ws'.map Prod.fst = (djk b ++ dj0 bm 13).map Prod.fst → va_D (fun q : Nat => s.heap.size ≤ q) ws' := fun ws' e => va_D_adr hD0 e
  obtain ⟨s1, w1, m1, n1, s2, w2, m2, n2, s3, w3, m3, n3, ik, bt, ln, tk, sb, en, nm, bits, size, num, fnd, mo, tr, b1, so, bg, te, wd, va, gd, le, im, bf, hP, o1, o3, oh, ol, hB, him⟩ := hI
  refine lv_aload_n hx hb dL_law_970 rfl (lv_at hl 2 rfl) ?_
  refine lv_aload_n hx hb dL_law_971 rfl (lv_at hl 3 rfl) ?_
  refine lv_iload_n hx hb dL_law_972 rfl (lv_at hl 0 rfl) ?_
  refine lv_iconst (v := 1) hx hb dL_law_973 (by decide) ?_
  refine lv_iadd hx hb dL_law_974 ?_
  refine va_sld hx hb hX hbl hbA hS (sx_in (k := 1) hi (by decide) hL) dL_law_975 ?_
  refine lv_aload_n hx hb dL_law_976 rfl (lv_at hl 3 rfl) ?_
  refine lv_iload_n hx hb dL_law_977 rfl (lv_at hl 0 rfl) ?_
  refine lv_iconst (v := 2) hx hb dL_law_978 (by decide) ?_
  refine lv_iadd hx hb dL_law_979 ?_
  refine va_sld hx hb hX hbl hbA hS (sx_in (k := 2) hi (by decide) hL) dL_law_980 ?_
  refine lv_aload_n hx hb dL_law_981 rfl (lv_at hl 3 rfl) ?_
  refine lv_iload_n hx hb dL_law_982 rfl (lv_at hl 0 rfl) ?_
  refine lv_iconst (v := 3) hx hb dL_law_983 (by decide) ?_
  refine lv_iadd hx hb dL_law_984 ?_
  refine va_sld hx hb hX hbl hbA hS (sx_in (k := 3) hi (by decide) hL) dL_law_985 ?_
  refine lv_i2l (v := (xs (ix (nI i + 3))).toInt64) hx hb dL_law_986 rfl ?_
  refine lv_bipush (v := 32) hx hb dL_law_987 (by decide) ?_
  refine lv_lshl (v := (((xs (ix (nI i + 3))).toInt64) <<< ((32 : Int32).toInt64 &&& 63))) hx hb dL_law_989 rfl ?_
  refine lv_aload_n hx hb dL_law_990 rfl (lv_at hl 3 rfl) ?_
  refine lv_iload_n hx hb dL_law_991 rfl (lv_at hl 0 rfl) ?_
  refine lv_iconst (v := 4) hx hb dL_law_992 (by decide) ?_
  refine lv_iadd hx hb dL_law_993 ?_
  refine va_sld hx hb hX hbl hbA hS (sx_in (k := 4) hi (by decide) hL) dL_law_994 ?_
  refine lv_i2l (v := (xs (ix (nI i + 4))).toInt64) hx hb dL_law_995 rfl ?_
  refine lv_ldc2 hx hb hown (hts (.constantLong RL 121 (4294967295)) (List.mem_of_getElem? (i := 6) rfl)) dL_law_996 ?_
  refine lv_land hx hb dL_law_999 ?_
  refine lv_lor hx hb dL_law_1000 ?_
  refine callMl (va_runV (As := [.int (xs (ix (nI i + 1))), .int (xs (ix (nI i + 2))), .long ((((xs (ix (nI i + 3))).toInt64) <<< ((32 : Int32).toInt64 &&& 63)) ||| (((xs (ix (nI i + 4))).toInt64) &&& 4294967295))]) (rest := []) ⟨hx, hb, hml, hown, hts⟩ (k_X5_write l D cI cL cS b s1 w1 m1 n1 s2 w2 m2 n2 s3 w3 m3 n3 ik bt ln tk sb en nm bits size num fnd (xs (ix (nI i + 1))) (xs (ix (nI i + 2))) ((((xs (ix (nI i + 3))).toInt64) <<< ((32 : Int32).toInt64 &&& 63)) ||| (((xs (ix (nI i + 4))).toInt64) &&& 4294967295)) hdk oh) (cwV 3 hts gL_law_X5_write rfl rfl rfl (by decide +kernel) ⟨Nat.le_of_ble_eq_true rfl, Nat.le_of_ble_eq_true rfl⟩) ⟨PcR_fb, va_recv hK hP (ci := 3) (q0 := 0) rfl rfl, PcR_pre (va_seg hP 0 49 rfl) hK⟩ rfl rfl hl.1 rfl (lv_room (Nat.le_of_ble_eq_true rfl)) dL_law_1001 ⟨Nat.le_of_ble_eq_true rfl, Nat.le_of_ble_eq_true rfl⟩) hP (hD _ rfl) hS 0 49 rfl (fun r1 u H locs h1 hP hS => ?_)
  obtain ⟨x1, x2⟩ := u
  have hP : va_P D vwCl (kcw cI cL cS b s1 w1 m1 n1 s2 w2 m2 n2 s3 w3 m3 n3 ik bt ln tk sb en nm bits size x1 x2 ++ mdw cI cL bm (encS s1) fnd mo tr b1 bt ln so bg te wd va gd bits size (flat4 num) le im bf ik) H := hP
  refine lv_aload_n hx hb dL_law_1004 rfl (lv_at hl 1 rfl) ?_
  refine lv_aload_n hx hb dL_law_1005 rfl (lv_at hl 3 rfl) ?_
  refine lv_iload_n hx hb dL_law_1006 rfl (lv_at hl 0 rfl) ?_
  refine lv_iconst (v := 1) hx hb dL_law_1007 (by decide) ?_
  refine lv_iadd hx hb dL_law_1008 ?_
  refine va_sld hx hb hX hbl hbA hS (sx_in (k := 1) hi (by decide) hL) dL_law_1009 ?_
  refine lv_aload_n hx hb dL_law_1010 rfl (lv_at hl 3 rfl) ?_
  refine lv_iload_n hx hb dL_law_1011 rfl (lv_at hl 0 rfl) ?_
  refine lv_iconst (v := 2) hx hb dL_law_1012 (by decide) ?_
  refine lv_iadd hx hb dL_law_1013 ?_
  refine va_sld hx hb hX hbl hbA hS (sx_in (k := 2) hi (by decide) hL) dL_law_1014 ?_
  refine lv_aload_n hx hb dL_law_1015 rfl (lv_at hl 3 rfl) ?_
  refine lv_iload_n hx hb dL_law_1016 rfl (lv_at hl 0 rfl) ?_
  refine lv_iconst (v := 3) hx hb dL_law_1017 (by decide) ?_
  refine lv_iadd hx hb dL_law_1018 ?_
  refine va_sld hx hb hX hbl hbA hS (sx_in (k := 3) hi (by decide) hL) dL_law_1019 ?_
  refine lv_i2l (v := (xs (ix (nI i + 3))).toInt64) hx hb dL_law_1020 rfl ?_
  refine lv_bipush (v := 32) hx hb dL_law_1021 (by decide) ?_
  refine lv_lshl (v := (((xs (ix (nI i + 3))).toInt64) <<< ((32 : Int32).toInt64 &&& 63))) hx hb dL_law_1023 rfl ?_
  refine lv_aload_n hx hb dL_law_1024 rfl (lv_at hl 3 rfl) ?_
  refine lv_iload_n hx hb dL_law_1025 rfl (lv_at hl 0 rfl) ?_
  refine lv_iconst (v := 4) hx hb dL_law_1026 (by decide) ?_
  refine lv_iadd hx hb dL_law_1027 ?_
  refine va_sld hx hb hX hbl hbA hS (sx_in (k := 4) hi (by decide) hL) dL_law_1028 ?_
  refine lv_i2l (v := (xs (ix (nI i + 4))).toInt64) hx hb dL_law_1029 rfl ?_
  refine lv_ldc2 hx hb hown (hts (.constantLong RL 121 (4294967295)) (List.mem_of_getElem? (i := 6) rfl)) dL_law_1030 ?_
  refine lv_land hx hb dL_law_1033 ?_
  refine lv_lor hx hb dL_law_1034 ?_
  refine callMl (va_runV (As := [.int (xs (ix (nI i + 1))), .int (xs (ix (nI i + 2))), .long ((((xs (ix (nI i + 3))).toInt64) <<< ((32 : Int32).toInt64 &&& 63)) ||| (((xs (ix (nI i + 4))).toInt64) &&& 4294967295))]) (rest := [.long r1]) ⟨hx, hb, hml, hown, hts⟩ (k_X6_write l D cI cL cS bm (sCo s1) (sGu s1) (sKn s1) (sFo s1) (sSp s1) (sKi s1) (sPl s1) (sEa s1) (sTo s1) (sQu s1) fnd mo tr b1 bt ln so bg te wd va gd bits size le im bf ik num (xs (ix (nI i + 1))) (xs (ix (nI i + 2))) ((((xs (ix (nI i + 3))).toInt64) <<< ((32 : Int32).toInt64 &&& 63)) ||| (((xs (ix (nI i + 4))).toInt64) &&& 4294967295)) hdm oh) (cwV 3 hts gL_law_X6_write rfl rfl rfl (by decide +kernel) ⟨Nat.le_of_ble_eq_true rfl, Nat.le_of_ble_eq_true rfl⟩) ⟨PcR_fb, va_recv hK hP (ci := 4) (q0 := 49) rfl rfl, PcR_pre (va_seg hP 49 13 rfl) hK⟩ rfl rfl hl.1 rfl (lv_room (Nat.le_of_ble_eq_true rfl)) dL_law_1035 ⟨Nat.le_of_ble_eq_true rfl, Nat.le_of_ble_eq_true rfl⟩) hP (hD _ rfl) hS 49 13 rfl (fun r2 u H locs h2 hP hS => ?_)
  obtain ⟨y1, y2⟩ := u
  have hP : va_P D vwCl (kcw cI cL cS b s1 w1 m1 n1 s2 w2 m2 n2 s3 w3 m3 n3 ik bt ln tk sb en nm bits size x1 x2 ++ mdw cI cL bm (encS s1) y2 mo tr b1 bt ln so bg te wd va gd bits size (flat4 y1) le im bf ik) H := hP
  refine W.lcmp hx hb dL_law_1038 ?_
  have eq := (h1).trans (h2).symm
  have eq : (r1, x1, x2) = (r2, y1, y2) := eq
  cases eq
  exact lv_if_eq (tgt := 1281) hx hb dL_law_1039 (by decide) (fun _ => k H locs ⟨_, _, _, _, _, _, _, _, _, _, _, _, _, _, _, _, _, _, _, _, _, _, _, _, _, _, _, _, _, _, _, _, _, _, _, hP, o1, o3, oh, ol, hB, him⟩ hS) (fun q9 => absurd ((lg_cmp_eq _ _).mpr rfl) q9)

set_option maxRecDepth 100000 in
set_option maxHeartbeats 4000000 in
theorem law_copy {p : Program} {l : Launch} {e : Env} {s : State} {m : MethodId} {below : List Frame} {meth : Method} {c : Code} {a L : Nat} {xs : Nat → Int32} (hL : L ≤ 3072) (C0 : lw_At p s m meth c a L xs) {D : va_G} {cI cL cS : ClassId} {b : Nat → Nat → Nat} {bm ad av : Nat → Nat} {fm : Option Nat} (hK : va_K D vwCl (tyG cI cL cS) s) (hD0 : va_D (fun q : Nat => s.heap.size ≤ q) (djk b ++ dj0 bm 13)) (hZ : SX ad av fm (fun q : Nat => s.heap.size ≤ q) s s.heap) {H : Heap} {locs : List Loc} {ls : Array Slot} {i : Nat} (hI : LW D cI cL cS b bm H) (hS : va_S (fun q : Nat => s.heap.size ≤ q) s.heap H locs) (hi : i + 6 ≤ L) (hl : lv_has ls 4 [(3, .int (nI i)), (2, .ref (bm 0)), (1, .ref (b 0 0)), (0, .ref a)]) (k : ∀ (H : Heap) (locs : List Loc), LW D cI cL cS b bm H → va_S (fun q : Nat => s.heap.size ≤ q) s.heap H locs → W p l e room_1 s m #[Value.ref a] below meth c H locs 62 1366 (lw_Z below #[Value.ref a] s) (F0 m 1281 ls [])) : W p l e room_1 s m #[Value.ref a] below meth c H locs 62 1366 (lw_Z below #[Value.ref a] s) (F0 m 1044 ls []) := by
  obtain ⟨hx, hb, hr, hml, hown, hts0, hX, hbl, hlocks, hgv⟩ := id C0
  have hown : s.vm.findClass RL = some m.cls := hown
  have hts : ∀ w ∈ wsL_law, w.before #[Value.ref a] s = true := fun w h => hts0 w (wsL_law_in w h)
  have hbA : ¬ (fun q : Nat => s.heap.size ≤ q) a := Nat.not_le.mpr hbl
  have hdk : va_D (fun _ => True) (djk b) := va_DT (va_segD hD0 0 49 rfl) rfl
  have hdm : va_D (fun _ => True) (dj0 bm 13) := va_DT (va_segD hD0 49 13 rfl) rfl
  have hD : ∀ ws' : va_W, ws'.map Prod.fst = (djk b ++ dj0 bm 13).map Prod.fst → va_D (fun q : Nat => s.heap.size ≤ q) ws' := fun ws' e => va_D_adr hD0 e
  obtain ⟨s1, w1, m1, n1, s2, w2, m2, n2, s3, w3, m3, n3, ik, bt, ln, tk, sb, en, nm, bits, size, num, fnd, mo, tr, b1, so, bg, te, wd, va, gd, le, im, bf, hP, o1, o3, oh, ol, hB, him⟩ := hI
  refine lv_aload_n hx hb dL_law_1044 rfl (lv_at hl 2 rfl) ?_
  refine lv_aload_n hx hb dL_law_1045 rfl (lv_at hl 3 rfl) ?_
  refine lv_iload_n hx hb dL_law_1046 rfl (lv_at hl 0 rfl) ?_
  refine lv_iconst (v := 1) hx hb dL_law_1047 (by decide) ?_
  refine lv_iadd hx hb dL_law_1048 ?_
  refine va_sld hx hb hX hbl hbA hS (sx_in (k := 1) hi (by decide) hL) dL_law_1049 ?_
  refine lv_aload_n hx hb dL_law_1050 rfl (lv_at hl 3 rfl) ?_
  refine lv_iload_n hx hb dL_law_1051 rfl (lv_at hl 0 rfl) ?_
  refine lv_iconst (v := 2) hx hb dL_law_1052 (by decide) ?_
  refine lv_iadd hx hb dL_law_1053 ?_
  refine va_sld hx hb hX hbl hbA hS (sx_in (k := 2) hi (by decide) hL) dL_law_1054 ?_
  refine lv_aload_n hx hb dL_law_1055 rfl (lv_at hl 3 rfl) ?_
  refine lv_iload_n hx hb dL_law_1056 rfl (lv_at hl 0 rfl) ?_
  refine lv_iconst (v := 3) hx hb dL_law_1057 (by decide) ?_
  refine lv_iadd hx hb dL_law_1058 ?_
  refine va_sld hx hb hX hbl hbA hS (sx_in (k := 3) hi (by decide) hL) dL_law_1059 ?_
  refine lv_aload_n hx hb dL_law_1060 rfl (lv_at hl 3 rfl) ?_
  refine lv_iload_n hx hb dL_law_1061 rfl (lv_at hl 0 rfl) ?_
  refine lv_iconst (v := 4) hx hb dL_law_1062 (by decide) ?_
  refine lv_iadd hx hb dL_law_1063 ?_
  refine va_sld hx hb hX hbl hbA hS (sx_in (k := 4) hi (by decide) hL) dL_law_1064 ?_
  refine lv_aload_n hx hb dL_law_1065 rfl (lv_at hl 3 rfl) ?_
  refine lv_iload_n hx hb dL_law_1066 rfl (lv_at hl 0 rfl) ?_
  refine lv_iconst (v := 5) hx hb dL_law_1067 (by decide) ?_
  refine lv_iadd hx hb dL_law_1068 ?_
  refine va_sld hx hb hX hbl hbA hS (sx_in (k := 5) hi (by decide) hL) dL_law_1069 ?_
  refine callMi (va_runV (As := [.int (xs (ix (nI i + 1))), .int (xs (ix (nI i + 2))), .int (xs (ix (nI i + 3))), .int (xs (ix (nI i + 4))), .int (xs (ix (nI i + 5)))]) (rest := []) ⟨hx, hb, hml, hown, hts⟩ (k_X5_copy l D cI cL cS b s1 w1 m1 n1 s2 w2 m2 n2 s3 w3 m3 n3 ik bt ln tk sb en nm bits size num fnd (xs (ix (nI i + 1))) (xs (ix (nI i + 2))) (xs (ix (nI i + 3))) (xs (ix (nI i + 4))) (xs (ix (nI i + 5))) hdk oh) (cwV 5 hts gL_law_X5_copy rfl rfl rfl (by decide +kernel) ⟨Nat.le_of_ble_eq_true rfl, Nat.le_of_ble_eq_true rfl⟩) ⟨PcR_fb, va_recv hK hP (ci := 3) (q0 := 0) rfl rfl, PcR_pre (va_seg hP 0 49 rfl) hK⟩ rfl rfl hl.1 rfl (lv_room (Nat.le_of_ble_eq_true rfl)) dL_law_1070 ⟨Nat.le_of_ble_eq_true rfl, Nat.le_of_ble_eq_true rfl⟩) hP (hD _ rfl) hS 0 49 rfl (fun r1 u H locs h1 hP hS => ?_)
  obtain ⟨x1, x2⟩ := u
  have hP : va_P D vwCl (kcw cI cL cS b s1 w1 m1 n1 s2 w2 m2 n2 s3 w3 m3 n3 ik bt ln tk sb en nm bits size x1 x2 ++ mdw cI cL bm (encS s1) fnd mo tr b1 bt ln so bg te wd va gd bits size (flat4 num) le im bf ik) H := hP
  refine lv_aload_n hx hb dL_law_1073 rfl (lv_at hl 1 rfl) ?_
  refine lv_aload_n hx hb dL_law_1074 rfl (lv_at hl 3 rfl) ?_
  refine lv_iload_n hx hb dL_law_1075 rfl (lv_at hl 0 rfl) ?_
  refine lv_iconst (v := 1) hx hb dL_law_1076 (by decide) ?_
  refine lv_iadd hx hb dL_law_1077 ?_
  refine va_sld hx hb hX hbl hbA hS (sx_in (k := 1) hi (by decide) hL) dL_law_1078 ?_
  refine lv_aload_n hx hb dL_law_1079 rfl (lv_at hl 3 rfl) ?_
  refine lv_iload_n hx hb dL_law_1080 rfl (lv_at hl 0 rfl) ?_
  refine lv_iconst (v := 2) hx hb dL_law_1081 (by decide) ?_
  refine lv_iadd hx hb dL_law_1082 ?_
  refine va_sld hx hb hX hbl hbA hS (sx_in (k := 2) hi (by decide) hL) dL_law_1083 ?_
  refine lv_aload_n hx hb dL_law_1084 rfl (lv_at hl 3 rfl) ?_
  refine lv_iload_n hx hb dL_law_1085 rfl (lv_at hl 0 rfl) ?_
  refine lv_iconst (v := 3) hx hb dL_law_1086 (by decide) ?_
  refine lv_iadd hx hb dL_law_1087 ?_
  refine va_sld hx hb hX hbl hbA hS (sx_in (k := 3) hi (by decide) hL) dL_law_1088 ?_
  refine lv_aload_n hx hb dL_law_1089 rfl (lv_at hl 3 rfl) ?_
  refine lv_iload_n hx hb dL_law_1090 rfl (lv_at hl 0 rfl) ?_
  refine lv_iconst (v := 4) hx hb dL_law_1091 (by decide) ?_
  refine lv_iadd hx hb dL_law_1092 ?_
  refine va_sld hx hb hX hbl hbA hS (sx_in (k := 4) hi (by decide) hL) dL_law_1093 ?_
  refine lv_aload_n hx hb dL_law_1094 rfl (lv_at hl 3 rfl) ?_
  refine lv_iload_n hx hb dL_law_1095 rfl (lv_at hl 0 rfl) ?_
  refine lv_iconst (v := 5) hx hb dL_law_1096 (by decide) ?_
  refine lv_iadd hx hb dL_law_1097 ?_
  refine va_sld hx hb hX hbl hbA hS (sx_in (k := 5) hi (by decide) hL) dL_law_1098 ?_
  refine callMi (va_runV (As := [.int (xs (ix (nI i + 1))), .int (xs (ix (nI i + 2))), .int (xs (ix (nI i + 3))), .int (xs (ix (nI i + 4))), .int (xs (ix (nI i + 5)))]) (rest := [.int r1]) ⟨hx, hb, hml, hown, hts⟩ (k_X6_copy l D cI cL cS bm (sCo s1) (sGu s1) (sKn s1) (sFo s1) (sSp s1) (sKi s1) (sPl s1) (sEa s1) (sTo s1) (sQu s1) fnd mo tr b1 bt ln so bg te wd va gd bits size le im bf ik num (xs (ix (nI i + 1))) (xs (ix (nI i + 2))) (xs (ix (nI i + 3))) (xs (ix (nI i + 4))) (xs (ix (nI i + 5))) hdm oh) (cwV 5 hts gL_law_X6_copy rfl rfl rfl (by decide +kernel) ⟨Nat.le_of_ble_eq_true rfl, Nat.le_of_ble_eq_true rfl⟩) ⟨PcR_fb, va_recv hK hP (ci := 4) (q0 := 49) rfl rfl, PcR_pre (va_seg hP 49 13 rfl) hK⟩ rfl rfl hl.1 rfl (lv_room (Nat.le_of_ble_eq_true rfl)) dL_law_1099 ⟨Nat.le_of_ble_eq_true rfl, Nat.le_of_ble_eq_true rfl⟩) hP (hD _ rfl) hS 49 13 rfl (fun r2 u H locs h2 hP hS => ?_)
  obtain ⟨y1, y2, y3⟩ := u
  have hP : va_P D vwCl (kcw cI cL cS b s1 w1 m1 n1 s2 w2 m2 n2 s3 w3 m3 n3 ik bt ln tk sb en nm bits size x1 x2 ++ mdw cI cL bm (encS s1) y3 mo tr b1 bt ln so bg te wd va gd bits size (flat4 y2) y1 im bf ik) H := hP
  have eq := (h1).trans (h2).symm
  have eq : (r1, x1, x2) = (r2, y2, y3) := eq
  cases eq
  exact lv_icmp_eq (tgt := 1281) hx hb dL_law_1102 (by decide) (fun _ => k H locs ⟨_, _, _, _, _, _, _, _, _, _, _, _, _, _, _, _, _, _, _, _, _, _, _, _, _, _, _, _, _, _, _, _, _, _, _, hP, o1, o3, oh, ol, hB, him⟩ hS) (fun q9 => absurd rfl q9)

set_option maxRecDepth 100000 in
set_option maxHeartbeats 4000000 in
theorem law_lays {p : Program} {l : Launch} {e : Env} {s : State} {m : MethodId} {below : List Frame} {meth : Method} {c : Code} {a L : Nat} {xs : Nat → Int32} (hL : L ≤ 3072) (C0 : lw_At p s m meth c a L xs) {D : va_G} {cI cL cS : ClassId} {b : Nat → Nat → Nat} {bm ad av : Nat → Nat} {fm : Option Nat} (hK : va_K D vwCl (tyG cI cL cS) s) (hD0 : va_D (fun q : Nat => s.heap.size ≤ q) (djk b ++ dj0 bm 13)) (hZ : SX ad av fm (fun q : Nat => s.heap.size ≤ q) s s.heap) {H : Heap} {locs : List Loc} {ls : Array Slot} {i : Nat} (hI : LW D cI cL cS b bm H) (hS : va_S (fun q : Nat => s.heap.size ≤ q) s.heap H locs) (hi : i + 6 ≤ L) (hl : lv_has ls 4 [(3, .int (nI i)), (2, .ref (bm 0)), (1, .ref (b 0 0)), (0, .ref a)]) (k : ∀ (H : Heap) (locs : List Loc), LW D cI cL cS b bm H → va_S (fun q : Nat => s.heap.size ≤ q) s.heap H locs → W p l e room_1 s m #[Value.ref a] below meth c H locs 62 1366 (lw_Z below #[Value.ref a] s) (F0 m 1281 ls [])) : W p l e room_1 s m #[Value.ref a] below meth c H locs 62 1366 (lw_Z below #[Value.ref a] s) (F0 m 1107 ls []) := by
  obtain ⟨hx, hb, hr, hml, hown, hts0, hX, hbl, hlocks, hgv⟩ := id C0
  have hown : s.vm.findClass RL = some m.cls := hown
  have hts : ∀ w ∈ wsL_law, w.before #[Value.ref a] s = true := fun w h => hts0 w (wsL_law_in w h)
  have hbA : ¬ (fun q : Nat => s.heap.size ≤ q) a := Nat.not_le.mpr hbl
  have hdk : va_D (fun _ => True) (djk b) := va_DT (va_segD hD0 0 49 rfl) rfl
  have hdm : va_D (fun _ => True) (dj0 bm 13) := va_DT (va_segD hD0 49 13 rfl) rfl
  have hD : ∀ ws' : va_W, ws'.map Prod.fst = (djk b ++ dj0 bm 13).map Prod.fst → va_D (fun q : Nat => s.heap.size ≤ q) ws' := fun ws' e => va_D_adr hD0 e
  obtain ⟨s1, w1, m1, n1, s2, w2, m2, n2, s3, w3, m3, n3, ik, bt, ln, tk, sb, en, nm, bits, size, num, fnd, mo, tr, b1, so, bg, te, wd, va, gd, le, im, bf, hP, o1, o3, oh, ol, hB, him⟩ := hI
  refine lv_aload_n hx hb dL_law_1107 rfl (lv_at hl 2 rfl) ?_
  refine lv_aload_n hx hb dL_law_1108 rfl (lv_at hl 3 rfl) ?_
  refine lv_iload_n hx hb dL_law_1109 rfl (lv_at hl 0 rfl) ?_
  refine lv_iconst (v := 1) hx hb dL_law_1110 (by decide) ?_
  refine lv_iadd hx hb dL_law_1111 ?_
  refine va_sld hx hb hX hbl hbA hS (sx_in (k := 1) hi (by decide) hL) dL_law_1112 ?_
  refine callMi (va_runV (As := [.int (xs (ix (nI i + 1)))]) (rest := []) ⟨hx, hb, hml, hown, hts⟩ (k_X5_lays l D cI cL cS b s1 w1 m1 n1 s2 w2 m2 n2 s3 w3 m3 n3 ik bt ln tk sb en nm bits size num fnd (xs (ix (nI i + 1))) hdk o1 oh) (cwV 1 hts gL_law_X5_lays rfl rfl rfl (by decide +kernel) ⟨Nat.le_of_ble_eq_true rfl, Nat.le_of_ble_eq_true rfl⟩) ⟨PcR_fb, va_recv hK hP (ci := 3) (q0 := 0) rfl rfl, PcR_pre (va_seg hP 0 49 rfl) hK⟩ rfl rfl hl.1 rfl (lv_room (Nat.le_of_ble_eq_true rfl)) dL_law_1113 ⟨Nat.le_of_ble_eq_true rfl, Nat.le_of_ble_eq_true rfl⟩) hP (hD _ rfl) hS 0 49 rfl (fun r1 u H locs h1 hP hS => ?_)
  obtain ⟨x1, x2⟩ := u
  have hP : va_P D vwCl (kcw cI cL cS b x1 w1 m1 n1 s2 w2 m2 n2 s3 w3 m3 n3 ik bt ln tk sb en nm bits size num x2 ++ mdw cI cL bm (encS s1) fnd mo tr b1 bt ln so bg te wd va gd bits size (flat4 num) le im bf ik) H := hP
  refine lv_aload_n hx hb dL_law_1116 rfl (lv_at hl 1 rfl) ?_
  refine lv_aload_n hx hb dL_law_1117 rfl (lv_at hl 3 rfl) ?_
  refine lv_iload_n hx hb dL_law_1118 rfl (lv_at hl 0 rfl) ?_
  refine lv_iconst (v := 1) hx hb dL_law_1119 (by decide) ?_
  refine lv_iadd hx hb dL_law_1120 ?_
  refine va_sld hx hb hX hbl hbA hS (sx_in (k := 1) hi (by decide) hL) dL_law_1121 ?_
  refine callMi (va_runV (As := [.int (xs (ix (nI i + 1)))]) (rest := [.int r1]) ⟨hx, hb, hml, hown, hts⟩ (k_X6_lays l D cI cL cS bm (sCo s1) (sGu s1) (sKn s1) (sFo s1) (sSp s1) (sKi s1) (sPl s1) (sEa s1) (sTo s1) (sQu s1) fnd mo tr b1 bt ln so bg te wd va gd bits size le im bf ik num (xs (ix (nI i + 1))) hdm o1.1.cC oh) (cwV 1 hts gL_law_X6_lays rfl rfl rfl (by decide +kernel) ⟨Nat.le_of_ble_eq_true rfl, Nat.le_of_ble_eq_true rfl⟩) ⟨PcR_fb, va_recv hK hP (ci := 4) (q0 := 49) rfl rfl, PcR_pre (va_seg hP 49 13 rfl) hK⟩ rfl rfl hl.1 rfl (lv_room (Nat.le_of_ble_eq_true rfl)) dL_law_1122 ⟨Nat.le_of_ble_eq_true rfl, Nat.le_of_ble_eq_true rfl⟩) hP (hD _ rfl) hS 49 13 rfl (fun r2 u H locs h2 hP hS => ?_)
  obtain ⟨y1, y2⟩ := u
  have hP : va_P D vwCl (kcw cI cL cS b x1 w1 m1 n1 s2 w2 m2 n2 s3 w3 m3 n3 ik bt ln tk sb en nm bits size num x2 ++ mdw cI cL bm (encS y1) y2 mo tr b1 bt ln so bg te wd va gd bits size (flat4 num) le im bf ik) H := hP
  have eq := (h1.1).trans (h2).symm
  have o9 := h1.2
  have eq : (r1, x1, x2) = (r2, y1, y2) := eq
  cases eq
  exact lv_icmp_eq (tgt := 1281) hx hb dL_law_1125 (by decide) (fun _ => k H locs ⟨_, _, _, _, _, _, _, _, _, _, _, _, _, _, _, _, _, _, _, _, _, _, _, _, _, _, _, _, _, _, _, _, _, _, _, hP, o9, o3, oh, ol, hB, him⟩ hS) (fun q9 => absurd rfl q9)

set_option maxRecDepth 100000 in
set_option maxHeartbeats 4000000 in
theorem law_book {p : Program} {l : Launch} {e : Env} {s : State} {m : MethodId} {below : List Frame} {meth : Method} {c : Code} {a L : Nat} {xs : Nat → Int32} (hL : L ≤ 3072) (C0 : lw_At p s m meth c a L xs) {D : va_G} {cI cL cS : ClassId} {b : Nat → Nat → Nat} {bm ad av : Nat → Nat} {fm : Option Nat} (hK : va_K D vwCl (tyG cI cL cS) s) (hD0 : va_D (fun q : Nat => s.heap.size ≤ q) (djk b ++ dj0 bm 13)) (hZ : SX ad av fm (fun q : Nat => s.heap.size ≤ q) s s.heap) {H : Heap} {locs : List Loc} {ls : Array Slot} {i : Nat} (hI : LW D cI cL cS b bm H) (hS : va_S (fun q : Nat => s.heap.size ≤ q) s.heap H locs) (hi : i + 6 ≤ L) (hl : lv_has ls 4 [(3, .int (nI i)), (2, .ref (bm 0)), (1, .ref (b 0 0)), (0, .ref a)]) (k : ∀ (H : Heap) (locs : List Loc), LW D cI cL cS b bm H → va_S (fun q : Nat => s.heap.size ≤ q) s.heap H locs → W p l e room_1 s m #[Value.ref a] below meth c H locs 62 1366 (lw_Z below #[Value.ref a] s) (F0 m 1281 ls [])) : W p l e room_1 s m #[Value.ref a] below meth c H locs 62 1366 (lw_Z below #[Value.ref a] s) (F0 m 1130 ls []) := by
  obtain ⟨hx, hb, hr, hml, hown, hts0, hX, hbl, hlocks, hgv⟩ := id C0
  have hown : s.vm.findClass RL = some m.cls := hown
  have hts : ∀ w ∈ wsL_law, w.before #[Value.ref a] s = true := fun w h => hts0 w (wsL_law_in w h)
  have hbA : ¬ (fun q : Nat => s.heap.size ≤ q) a := Nat.not_le.mpr hbl
  have hdk : va_D (fun _ => True) (djk b) := va_DT (va_segD hD0 0 49 rfl) rfl
  have hdm : va_D (fun _ => True) (dj0 bm 13) := va_DT (va_segD hD0 49 13 rfl) rfl
  have hD : ∀ ws' : va_W, ws'.map Prod.fst = (djk b ++ dj0 bm 13).map Prod.fst → va_D (fun q : Nat => s.heap.size ≤ q) ws' := fun ws' e => va_D_adr hD0 e
  obtain ⟨s1, w1, m1, n1, s2, w2, m2, n2, s3, w3, m3, n3, ik, bt, ln, tk, sb, en, nm, bits, size, num, fnd, mo, tr, b1, so, bg, te, wd, va, gd, le, im, bf, hP, o1, o3, oh, ol, hB, him⟩ := hI
  refine lv_aload_n hx hb dL_law_1130 rfl (lv_at hl 2 rfl) ?_
  refine lv_aload_n hx hb dL_law_1131 rfl (lv_at hl 3 rfl) ?_
  refine lv_iload_n hx hb dL_law_1132 rfl (lv_at hl 0 rfl) ?_
  refine lv_iconst (v := 1) hx hb dL_law_1133 (by decide) ?_
  refine lv_iadd hx hb dL_law_1134 ?_
  refine va_sld hx hb hX hbl hbA hS (sx_in (k := 1) hi (by decide) hL) dL_law_1135 ?_
  refine lv_aload_n hx hb dL_law_1136 rfl (lv_at hl 3 rfl) ?_
  refine lv_iload_n hx hb dL_law_1137 rfl (lv_at hl 0 rfl) ?_
  refine lv_iconst (v := 2) hx hb dL_law_1138 (by decide) ?_
  refine lv_iadd hx hb dL_law_1139 ?_
  refine va_sld hx hb hX hbl hbA hS (sx_in (k := 2) hi (by decide) hL) dL_law_1140 ?_
  refine callMi (va_runV (As := [.int (xs (ix (nI i + 1))), .int (xs (ix (nI i + 2)))]) (rest := []) ⟨hx, hb, hml, hown, hts⟩ (k_X5_book l D cI cL cS b s1 w1 m1 n1 s2 w2 m2 n2 s3 w3 m3 n3 ik bt ln tk sb en nm bits size num fnd (xs (ix (nI i + 1))) (xs (ix (nI i + 2))) hdk o1 oh) (cwV 2 hts gL_law_X5_book rfl rfl rfl (by decide +kernel) ⟨Nat.le_of_ble_eq_true rfl, Nat.le_of_ble_eq_true rfl⟩) ⟨PcR_fb, va_recv hK hP (ci := 3) (q0 := 0) rfl rfl, PcR_pre (va_seg hP 0 49 rfl) hK⟩ rfl rfl hl.1 rfl (lv_room (Nat.le_of_ble_eq_true rfl)) dL_law_1141 ⟨Nat.le_of_ble_eq_true rfl, Nat.le_of_ble_eq_true rfl⟩) hP (hD _ rfl) hS 0 49 rfl (fun r1 u H locs h1 hP hS => ?_)
  obtain ⟨x1, x2, x3, x4, x5, x6⟩ := u
  have hP : va_P D vwCl (kcw cI cL cS b s1 w1 m1 n1 x1 x2 x3 x4 s3 w3 m3 n3 ik bt ln tk sb en nm bits size x5 x6 ++ mdw cI cL bm (encS s1) fnd mo tr b1 bt ln so bg te wd va gd bits size (flat4 num) le im bf ik) H := hP
  refine lv_aload_n hx hb dL_law_1144 rfl (lv_at hl 1 rfl) ?_
  refine lv_aload_n hx hb dL_law_1145 rfl (lv_at hl 3 rfl) ?_
  refine lv_iload_n hx hb dL_law_1146 rfl (lv_at hl 0 rfl) ?_
  refine lv_iconst (v := 1) hx hb dL_law_1147 (by decide) ?_
  refine lv_iadd hx hb dL_law_1148 ?_
  refine va_sld hx hb hX hbl hbA hS (sx_in (k := 1) hi (by decide) hL) dL_law_1149 ?_
  refine lv_aload_n hx hb dL_law_1150 rfl (lv_at hl 3 rfl) ?_
  refine lv_iload_n hx hb dL_law_1151 rfl (lv_at hl 0 rfl) ?_
  refine lv_iconst (v := 2) hx hb dL_law_1152 (by decide) ?_
  refine lv_iadd hx hb dL_law_1153 ?_
  refine va_sld hx hb hX hbl hbA hS (sx_in (k := 2) hi (by decide) hL) dL_law_1154 ?_
  refine callMi (va_runV (As := [.int (xs (ix (nI i + 1))), .int (xs (ix (nI i + 2)))]) (rest := [.int r1]) ⟨hx, hb, hml, hown, hts⟩ (k_X6_book l D cI cL cS bm (sCo s1) (sGu s1) (sKn s1) (sFo s1) (sSp s1) (sKi s1) (sPl s1) (sEa s1) (sTo s1) (sQu s1) fnd mo tr b1 bt ln so bg te wd va gd bits size le im bf ik num (xs (ix (nI i + 1))) (xs (ix (nI i + 2))) hdm o1.1.cC o1.2 oh) (cwV 2 hts gL_law_X6_book rfl rfl rfl (by decide +kernel) ⟨Nat.le_of_ble_eq_true rfl, Nat.le_of_ble_eq_true rfl⟩) ⟨PcR_fb, va_recv hK hP (ci := 4) (q0 := 49) rfl rfl, PcR_pre (va_seg hP 49 13 rfl) hK⟩ rfl rfl hl.1 rfl (lv_room (Nat.le_of_ble_eq_true rfl)) dL_law_1155 ⟨Nat.le_of_ble_eq_true rfl, Nat.le_of_ble_eq_true rfl⟩) hP (hD _ rfl) hS 49 13 rfl (fun r2 u H locs h2 hP hS => ?_)
  obtain ⟨y1, y2, y3, y4⟩ := u
  have hP : va_P D vwCl (kcw cI cL cS b s1 w1 m1 n1 x1 x2 x3 x4 s3 w3 m3 n3 ik bt ln tk sb en nm bits size x5 x6 ++ mdw cI cL bm (encS s1) y4 y1 y2 b1 bt ln so bg te wd va gd bits size (flat4 y3) le im bf ik) H := hP
  have eq := (h1).trans (h2).symm
  have eq : (r1, x5, x6) = (r2, y3, y4) := eq
  cases eq
  exact lv_icmp_eq (tgt := 1281) hx hb dL_law_1158 (by decide) (fun _ => k H locs ⟨_, _, _, _, _, _, _, _, _, _, _, _, _, _, _, _, _, _, _, _, _, _, _, _, _, _, _, _, _, _, _, _, _, _, _, hP, o1, o3, oh, ol, hB, him⟩ hS) (fun q9 => absurd rfl q9)

set_option maxRecDepth 100000 in
set_option maxHeartbeats 4000000 in
theorem law_read {p : Program} {l : Launch} {e : Env} {s : State} {m : MethodId} {below : List Frame} {meth : Method} {c : Code} {a L : Nat} {xs : Nat → Int32} (hL : L ≤ 3072) (C0 : lw_At p s m meth c a L xs) {D : va_G} {cI cL cS : ClassId} {b : Nat → Nat → Nat} {bm ad av : Nat → Nat} {fm : Option Nat} (hK : va_K D vwCl (tyG cI cL cS) s) (hD0 : va_D (fun q : Nat => s.heap.size ≤ q) (djk b ++ dj0 bm 13)) (hZ : SX ad av fm (fun q : Nat => s.heap.size ≤ q) s s.heap) {H : Heap} {locs : List Loc} {ls : Array Slot} {i : Nat} (hI : LW D cI cL cS b bm H) (hS : va_S (fun q : Nat => s.heap.size ≤ q) s.heap H locs) (hi : i + 6 ≤ L) (hl : lv_has ls 4 [(3, .int (nI i)), (2, .ref (bm 0)), (1, .ref (b 0 0)), (0, .ref a)]) (k : ∀ (H : Heap) (locs : List Loc), LW D cI cL cS b bm H → va_S (fun q : Nat => s.heap.size ≤ q) s.heap H locs → W p l e room_1 s m #[Value.ref a] below meth c H locs 62 1366 (lw_Z below #[Value.ref a] s) (F0 m 1281 ls [])) : W p l e room_1 s m #[Value.ref a] below meth c H locs 62 1366 (lw_Z below #[Value.ref a] s) (F0 m 1163 ls []) := by
  obtain ⟨hx, hb, hr, hml, hown, hts0, hX, hbl, hlocks, hgv⟩ := id C0
  have hown : s.vm.findClass RL = some m.cls := hown
  have hts : ∀ w ∈ wsL_law, w.before #[Value.ref a] s = true := fun w h => hts0 w (wsL_law_in w h)
  have hbA : ¬ (fun q : Nat => s.heap.size ≤ q) a := Nat.not_le.mpr hbl
  have hdk : va_D (fun _ => True) (djk b) := va_DT (va_segD hD0 0 49 rfl) rfl
  have hdm : va_D (fun _ => True) (dj0 bm 13) := va_DT (va_segD hD0 49 13 rfl) rfl
  have hD : ∀ ws' : va_W, ws'.map Prod.fst = (djk b ++ dj0 bm 13).map Prod.fst → va_D (fun q : Nat => s.heap.size ≤ q) ws' := fun ws' e => va_D_adr hD0 e
  obtain ⟨s1, w1, m1, n1, s2, w2, m2, n2, s3, w3, m3, n3, ik, bt, ln, tk, sb, en, nm, bits, size, num, fnd, mo, tr, b1, so, bg, te, wd, va, gd, le, im, bf, hP, o1, o3, oh, ol, hB, him⟩ := hI
  refine lv_aload_n hx hb dL_law_1163 rfl (lv_at hl 2 rfl) ?_
  refine lv_aload_n hx hb dL_law_1164 rfl (lv_at hl 3 rfl) ?_
  refine lv_iload_n hx hb dL_law_1165 rfl (lv_at hl 0 rfl) ?_
  refine lv_iconst (v := 1) hx hb dL_law_1166 (by decide) ?_
  refine lv_iadd hx hb dL_law_1167 ?_
  refine va_sld hx hb hX hbl hbA hS (sx_in (k := 1) hi (by decide) hL) dL_law_1168 ?_
  refine lv_aload_n hx hb dL_law_1169 rfl (lv_at hl 3 rfl) ?_
  refine lv_iload_n hx hb dL_law_1170 rfl (lv_at hl 0 rfl) ?_
  refine lv_iconst (v := 2) hx hb dL_law_1171 (by decide) ?_
  refine lv_iadd hx hb dL_law_1172 ?_
  refine va_sld hx hb hX hbl hbA hS (sx_in (k := 2) hi (by decide) hL) dL_law_1173 ?_
  refine callMi (va_runV (As := [.int (xs (ix (nI i + 1))), .int (xs (ix (nI i + 2)))]) (rest := []) ⟨hx, hb, hml, hown, hts⟩ (k_X5_read l D cI cL cS b s1 w1 m1 n1 s2 w2 m2 n2 s3 w3 m3 n3 ik bt ln tk sb en nm bits size num fnd (xs (ix (nI i + 1))) (xs (ix (nI i + 2))) hdk o1 oh) (cwV 2 hts gL_law_X5_read rfl rfl rfl (by decide +kernel) ⟨Nat.le_of_ble_eq_true rfl, Nat.le_of_ble_eq_true rfl⟩) ⟨PcR_fb, va_recv hK hP (ci := 3) (q0 := 0) rfl rfl, PcR_pre (va_seg hP 0 49 rfl) hK⟩ rfl rfl hl.1 rfl (lv_room (Nat.le_of_ble_eq_true rfl)) dL_law_1174 ⟨Nat.le_of_ble_eq_true rfl, Nat.le_of_ble_eq_true rfl⟩) hP (hD _ rfl) hS 0 49 rfl (fun r1 u H locs h1 hP hS => ?_)
  obtain ⟨x1, x2, x3, x4, x5⟩ := u
  have hP : va_P D vwCl (kcw cI cL cS b s1 w1 m1 n1 x1 x2 x3 x4 s3 w3 m3 n3 ik bt ln tk sb en nm bits size num x5 ++ mdw cI cL bm (encS s1) fnd mo tr b1 bt ln so bg te wd va gd bits size (flat4 num) le im bf ik) H := hP
  refine lv_aload_n hx hb dL_law_1177 rfl (lv_at hl 1 rfl) ?_
  refine lv_aload_n hx hb dL_law_1178 rfl (lv_at hl 3 rfl) ?_
  refine lv_iload_n hx hb dL_law_1179 rfl (lv_at hl 0 rfl) ?_
  refine lv_iconst (v := 1) hx hb dL_law_1180 (by decide) ?_
  refine lv_iadd hx hb dL_law_1181 ?_
  refine va_sld hx hb hX hbl hbA hS (sx_in (k := 1) hi (by decide) hL) dL_law_1182 ?_
  refine lv_aload_n hx hb dL_law_1183 rfl (lv_at hl 3 rfl) ?_
  refine lv_iload_n hx hb dL_law_1184 rfl (lv_at hl 0 rfl) ?_
  refine lv_iconst (v := 2) hx hb dL_law_1185 (by decide) ?_
  refine lv_iadd hx hb dL_law_1186 ?_
  refine va_sld hx hb hX hbl hbA hS (sx_in (k := 2) hi (by decide) hL) dL_law_1187 ?_
  refine callMi (va_runV (As := [.int (xs (ix (nI i + 1))), .int (xs (ix (nI i + 2)))]) (rest := [.int r1]) ⟨hx, hb, hml, hown, hts⟩ (k_X6_read l D cI cL cS bm (sCo s1) (sGu s1) (sKn s1) (sFo s1) (sSp s1) (sKi s1) (sPl s1) (sEa s1) (sTo s1) (sQu s1) fnd mo tr b1 bt ln so bg te wd va gd bits size le im bf ik num (xs (ix (nI i + 1))) (xs (ix (nI i + 2))) hdm o1.1.cC o1.2 oh) (cwV 2 hts gL_law_X6_read rfl rfl rfl (by decide +kernel) ⟨Nat.le_of_ble_eq_true rfl, Nat.le_of_ble_eq_true rfl⟩) ⟨PcR_fb, va_recv hK hP (ci := 4) (q0 := 49) rfl rfl, PcR_pre (va_seg hP 49 13 rfl) hK⟩ rfl rfl hl.1 rfl (lv_room (Nat.le_of_ble_eq_true rfl)) dL_law_1188 ⟨Nat.le_of_ble_eq_true rfl, Nat.le_of_ble_eq_true rfl⟩) hP (hD _ rfl) hS 49 13 rfl (fun r2 u H locs h2 hP hS => ?_)
  obtain ⟨y1, y2, y3⟩ := u
  have hP : va_P D vwCl (kcw cI cL cS b s1 w1 m1 n1 x1 x2 x3 x4 s3 w3 m3 n3 ik bt ln tk sb en nm bits size num x5 ++ mdw cI cL bm (encS s1) y3 y1 tr y2 bt ln so bg te wd va gd bits size (flat4 num) le im bf ik) H := hP
  have eq := (h1).trans (h2).symm
  have eq : (r1, x5) = (r2, y3) := eq
  cases eq
  exact lv_icmp_eq (tgt := 1281) hx hb dL_law_1191 (by decide) (fun _ => k H locs ⟨_, _, _, _, _, _, _, _, _, _, _, _, _, _, _, _, _, _, _, _, _, _, _, _, _, _, _, _, _, _, _, _, _, _, _, hP, o1, o3, oh, ol, hB, him⟩ hS) (fun q9 => absurd rfl q9)

set_option maxRecDepth 100000 in
set_option maxHeartbeats 4000000 in
theorem law_image {p : Program} {l : Launch} {e : Env} {s : State} {m : MethodId} {below : List Frame} {meth : Method} {c : Code} {a L : Nat} {xs : Nat → Int32} (hL : L ≤ 3072) (C0 : lw_At p s m meth c a L xs) {D : va_G} {cI cL cS : ClassId} {b : Nat → Nat → Nat} {bm ad av : Nat → Nat} {fm : Option Nat} (hK : va_K D vwCl (tyG cI cL cS) s) (hD0 : va_D (fun q : Nat => s.heap.size ≤ q) (djk b ++ dj0 bm 13)) (hZ : SX ad av fm (fun q : Nat => s.heap.size ≤ q) s s.heap) {H : Heap} {locs : List Loc} {ls : Array Slot} {i : Nat} (hI : LW D cI cL cS b bm H) (hS : va_S (fun q : Nat => s.heap.size ≤ q) s.heap H locs) (hi : i + 6 ≤ L) (hl : lv_has ls 4 [(3, .int (nI i)), (2, .ref (bm 0)), (1, .ref (b 0 0)), (0, .ref a)]) (k : ∀ (H : Heap) (locs : List Loc), LW D cI cL cS b bm H → va_S (fun q : Nat => s.heap.size ≤ q) s.heap H locs → W p l e room_1 s m #[Value.ref a] below meth c H locs 62 1366 (lw_Z below #[Value.ref a] s) (F0 m 1281 ls [])) : W p l e room_1 s m #[Value.ref a] below meth c H locs 62 1366 (lw_Z below #[Value.ref a] s) (F0 m 1196 ls []) := by
  obtain ⟨hx, hb, hr, hml, hown, hts0, hX, hbl, hlocks, hgv⟩ := id C0
  have hown : s.vm.findClass RL = some m.cls := hown
  have hts : ∀ w ∈ wsL_law, w.before #[Value.ref a] s = true := fun w h => hts0 w (wsL_law_in w h)
  have hbA : ¬ (fun q : Nat => s.heap.size ≤ q) a := Nat.not_le.mpr hbl
  have hdk : va_D (fun _ => True) (djk b) := va_DT (va_segD hD0 0 49 rfl) rfl
  have hdm : va_D (fun _ => True) (dj0 bm 13) := va_DT (va_segD hD0 49 13 rfl) rfl
  have hD : ∀ ws' : va_W, ws'.map Prod.fst = (djk b ++ dj0 bm 13).map Prod.fst → va_D (fun q : Nat => s.heap.size ≤ q) ws' := fun ws' e => va_D_adr hD0 e
  obtain ⟨s1, w1, m1, n1, s2, w2, m2, n2, s3, w3, m3, n3, ik, bt, ln, tk, sb, en, nm, bits, size, num, fnd, mo, tr, b1, so, bg, te, wd, va, gd, le, im, bf, hP, o1, o3, oh, ol, hB, him⟩ := hI
  refine lv_aload_n hx hb dL_law_1196 rfl (lv_at hl 2 rfl) ?_
  refine callMi (va_runV (As := []) (rest := []) ⟨hx, hb, hml, hown, hts⟩ (k_X5_image l D cI cL cS b s1 w1 m1 n1 s2 w2 m2 n2 s3 w3 m3 n3 ik bt ln tk sb en nm bits size num fnd hdk ) (cwV 0 hts gL_law_X5_image rfl rfl rfl (by decide +kernel) ⟨Nat.le_of_ble_eq_true rfl, Nat.le_of_ble_eq_true rfl⟩) ⟨PcR_fb, va_recv hK hP (ci := 3) (q0 := 0) rfl rfl, PcR_pre (va_seg hP 0 49 rfl) hK⟩ rfl rfl hl.1 rfl (lv_room (Nat.le_of_ble_eq_true rfl)) dL_law_1197 ⟨Nat.le_of_ble_eq_true rfl, Nat.le_of_ble_eq_true rfl⟩) hP (hD _ rfl) hS 0 49 rfl (fun r1 u H locs h1 hP hS => ?_)
  obtain ⟨x1, x2, x3⟩ := u
  have hP : va_P D vwCl (kcw cI cL cS b s1 w1 m1 n1 s2 w2 m2 n2 x1 x2 m3 n3 x3 bt ln tk sb en nm bits size num fnd ++ mdw cI cL bm (encS s1) fnd mo tr b1 bt ln so bg te wd va gd bits size (flat4 num) le im bf ik) H := hP
  refine lv_aload_n hx hb dL_law_1200 rfl (lv_at hl 1 rfl) ?_
  refine callMi (va_runV (As := []) (rest := [.int r1]) ⟨hx, hb, hml, hown, hts⟩ (k_X6_image l D cI cL cS bm (sCo s1) (sGu s1) (sKn s1) (sFo s1) (sSp s1) (sKi s1) (sPl s1) (sEa s1) (sTo s1) (sQu s1) fnd mo tr b1 bt ln so bg te wd va gd bits size (flat4 num) le im bf ik hdm ) (cwV 0 hts gL_law_X6_image rfl rfl rfl (by decide +kernel) ⟨Nat.le_of_ble_eq_true rfl, Nat.le_of_ble_eq_true rfl⟩) ⟨PcR_fb, va_recv hK hP (ci := 4) (q0 := 49) rfl rfl, PcR_pre (va_seg hP 49 13 rfl) hK⟩ rfl rfl hl.1 rfl (lv_room (Nat.le_of_ble_eq_true rfl)) dL_law_1201 ⟨Nat.le_of_ble_eq_true rfl, Nat.le_of_ble_eq_true rfl⟩) hP (hD _ rfl) hS 49 13 rfl (fun r2 u H locs h2 hP hS => ?_)
  obtain ⟨y1, y2⟩ := u
  have hP : va_P D vwCl (kcw cI cL cS b s1 w1 m1 n1 s2 w2 m2 n2 x1 x2 m3 n3 x3 bt ln tk sb en nm bits size num fnd ++ mdw cI cL bm (encS s1) fnd mo tr b1 bt ln so bg te wd va gd bits size (flat4 num) le y1 bf y2) H := hP
  obtain ⟨ra, ea, eb, ec⟩ := h1
  obtain ⟨rb, ed, ee⟩ := h2
  have ea : x1 = s1 := ea
  have eb : x2 = w1 := eb
  have ec : x3 = 1 := ec
  have ed : y1 = encS s1 := ed
  have ee : y2 = 1 := ee
  subst ea
  subst eb
  subst ec
  subst ed
  subst ee
  exact lv_icmp_eq (tgt := 1281) hx hb dL_law_1204 (by decide) (fun _ => k H locs ⟨_, _, _, _, _, _, _, _, _, _, _, _, _, _, _, _, _, _, _, _, _, _, _, _, _, _, _, _, _, _, _, _, _, _, _, hP, o1, o1, oh, ol, hB, (fun _ => rfl)⟩ hS) (fun q9 => absurd (ra.trans rb.symm) q9)

set_option maxRecDepth 100000 in
set_option maxHeartbeats 4000000 in
theorem law_undo {p : Program} {l : Launch} {e : Env} {s : State} {m : MethodId} {below : List Frame} {meth : Method} {c : Code} {a L : Nat} {xs : Nat → Int32} (hL : L ≤ 3072) (C0 : lw_At p s m meth c a L xs) {D : va_G} {cI cL cS : ClassId} {b : Nat → Nat → Nat} {bm ad av : Nat → Nat} {fm : Option Nat} (hK : va_K D vwCl (tyG cI cL cS) s) (hD0 : va_D (fun q : Nat => s.heap.size ≤ q) (djk b ++ dj0 bm 13)) (hZ : SX ad av fm (fun q : Nat => s.heap.size ≤ q) s s.heap) {H : Heap} {locs : List Loc} {ls : Array Slot} {i : Nat} (hI : LW D cI cL cS b bm H) (hS : va_S (fun q : Nat => s.heap.size ≤ q) s.heap H locs) (hi : i + 6 ≤ L) (hl : lv_has ls 4 [(3, .int (nI i)), (2, .ref (bm 0)), (1, .ref (b 0 0)), (0, .ref a)]) (k : ∀ (H : Heap) (locs : List Loc), LW D cI cL cS b bm H → va_S (fun q : Nat => s.heap.size ≤ q) s.heap H locs → W p l e room_1 s m #[Value.ref a] below meth c H locs 62 1366 (lw_Z below #[Value.ref a] s) (F0 m 1281 ls [])) : W p l e room_1 s m #[Value.ref a] below meth c H locs 62 1366 (lw_Z below #[Value.ref a] s) (F0 m 1209 ls []) := by
  obtain ⟨hx, hb, hr, hml, hown, hts0, hX, hbl, hlocks, hgv⟩ := id C0
  have hown : s.vm.findClass RL = some m.cls := hown
  have hts : ∀ w ∈ wsL_law, w.before #[Value.ref a] s = true := fun w h => hts0 w (wsL_law_in w h)
  have hbA : ¬ (fun q : Nat => s.heap.size ≤ q) a := Nat.not_le.mpr hbl
  have hdk : va_D (fun _ => True) (djk b) := va_DT (va_segD hD0 0 49 rfl) rfl
  have hdm : va_D (fun _ => True) (dj0 bm 13) := va_DT (va_segD hD0 49 13 rfl) rfl
  have hD : ∀ ws' : va_W, ws'.map Prod.fst = (djk b ++ dj0 bm 13).map Prod.fst → va_D (fun q : Nat => s.heap.size ≤ q) ws' := fun ws' e => va_D_adr hD0 e
  obtain ⟨s1, w1, m1, n1, s2, w2, m2, n2, s3, w3, m3, n3, ik, bt, ln, tk, sb, en, nm, bits, size, num, fnd, mo, tr, b1, so, bg, te, wd, va, gd, le, im, bf, hP, o1, o3, oh, ol, hB, him⟩ := hI
  refine lv_aload_n hx hb dL_law_1209 rfl (lv_at hl 2 rfl) ?_
  refine callMi (va_runV (As := []) (rest := []) ⟨hx, hb, hml, hown, hts⟩ (k_X5_undo l D cI cL cS b s1 w1 m1 n1 s2 w2 m2 n2 s3 w3 m3 n3 ik bt ln tk sb en nm bits size num fnd hdk o1 o3) (cwV 0 hts gL_law_X5_undo rfl rfl rfl (by decide +kernel) ⟨Nat.le_of_ble_eq_true rfl, Nat.le_of_ble_eq_true rfl⟩) ⟨PcR_fb, va_recv hK hP (ci := 3) (q0 := 0) rfl rfl, PcR_pre (va_seg hP 0 49 rfl) hK⟩ rfl rfl hl.1 rfl (lv_room (Nat.le_of_ble_eq_true rfl)) dL_law_1210 ⟨Nat.le_of_ble_eq_true rfl, Nat.le_of_ble_eq_true rfl⟩) hP (hD _ rfl) hS 0 49 rfl (fun r1 u H locs h1 hP hS => ?_)
  obtain ⟨x1, x2, x3⟩ := u
  have hP : va_P D vwCl (kcw cI cL cS b x1 x2 m1 n1 s2 w2 m2 n2 s3 w3 m3 n3 ik bt ln tk sb en nm bits size num x3 ++ mdw cI cL bm (encS s1) fnd mo tr b1 bt ln so bg te wd va gd bits size (flat4 num) le im bf ik) H := hP
  refine lv_aload_n hx hb dL_law_1213 rfl (lv_at hl 1 rfl) ?_
  refine callMi (va_runV (As := []) (rest := [.int r1]) ⟨hx, hb, hml, hown, hts⟩ (k_X6_undo l D cI cL cS bm (sCo s1) (sGu s1) (sKn s1) (sFo s1) (sSp s1) (sKi s1) (sPl s1) (sEa s1) (sTo s1) (sQu s1) fnd mo tr b1 bt ln so bg te wd va gd bits size (flat4 num) le im bf ik hdm s3 him) (cwV 0 hts gL_law_X6_undo rfl rfl rfl (by decide +kernel) ⟨Nat.le_of_ble_eq_true rfl, Nat.le_of_ble_eq_true rfl⟩) ⟨PcR_fb, va_recv hK hP (ci := 4) (q0 := 49) rfl rfl, PcR_pre (va_seg hP 49 13 rfl) hK⟩ rfl rfl hl.1 rfl (lv_room (Nat.le_of_ble_eq_true rfl)) dL_law_1214 ⟨Nat.le_of_ble_eq_true rfl, Nat.le_of_ble_eq_true rfl⟩) hP (hD _ rfl) hS 49 13 rfl (fun r2 u H locs h2 hP hS => ?_)
  obtain ⟨y1, y2⟩ := u
  have hP : va_P D vwCl (kcw cI cL cS b x1 x2 m1 n1 s2 w2 m2 n2 s3 w3 m3 n3 ik bt ln tk sb en nm bits size num x3 ++ mdw cI cL bm (encS y1) y2 mo tr b1 bt ln so bg te wd va gd bits size (flat4 num) le im bf ik) H := hP
  have eq := (h1.1).trans (h2).symm
  have o9 := h1.2
  have eq : (r1, x1, x3) = (r2, y1, y2) := eq
  cases eq
  exact lv_icmp_eq (tgt := 1281) hx hb dL_law_1217 (by decide) (fun _ => k H locs ⟨_, _, _, _, _, _, _, _, _, _, _, _, _, _, _, _, _, _, _, _, _, _, _, _, _, _, _, _, _, _, _, _, _, _, _, hP, o9, o3, oh, ol, hB, him⟩ hS) (fun q9 => absurd rfl q9)

set_option maxRecDepth 100000 in
set_option maxHeartbeats 4000000 in
theorem law_tear {p : Program} {l : Launch} {e : Env} {s : State} {m : MethodId} {below : List Frame} {meth : Method} {c : Code} {a L : Nat} {xs : Nat → Int32} (hL : L ≤ 3072) (C0 : lw_At p s m meth c a L xs) {D : va_G} {cI cL cS : ClassId} {b : Nat → Nat → Nat} {bm ad av : Nat → Nat} {fm : Option Nat} (hK : va_K D vwCl (tyG cI cL cS) s) (hD0 : va_D (fun q : Nat => s.heap.size ≤ q) (djk b ++ dj0 bm 13)) (hZ : SX ad av fm (fun q : Nat => s.heap.size ≤ q) s s.heap) {H : Heap} {locs : List Loc} {ls : Array Slot} {i : Nat} (hI : LW D cI cL cS b bm H) (hS : va_S (fun q : Nat => s.heap.size ≤ q) s.heap H locs) (hi : i + 6 ≤ L) (hl : lv_has ls 4 [(3, .int (nI i)), (2, .ref (bm 0)), (1, .ref (b 0 0)), (0, .ref a)]) (k : ∀ (H : Heap) (locs : List Loc), LW D cI cL cS b bm H → va_S (fun q : Nat => s.heap.size ≤ q) s.heap H locs → W p l e room_1 s m #[Value.ref a] below meth c H locs 62 1366 (lw_Z below #[Value.ref a] s) (F0 m 1281 ls [])) : W p l e room_1 s m #[Value.ref a] below meth c H locs 62 1366 (lw_Z below #[Value.ref a] s) (F0 m 1222 ls []) := by
  obtain ⟨hx, hb, hr, hml, hown, hts0, hX, hbl, hlocks, hgv⟩ := id C0
  have hown : s.vm.findClass RL = some m.cls := hown
  have hts : ∀ w ∈ wsL_law, w.before #[Value.ref a] s = true := fun w h => hts0 w (wsL_law_in w h)
  have hbA : ¬ (fun q : Nat => s.heap.size ≤ q) a := Nat.not_le.mpr hbl
  have hdk : va_D (fun _ => True) (djk b) := va_DT (va_segD hD0 0 49 rfl) rfl
  have hdm : va_D (fun _ => True) (dj0 bm 13) := va_DT (va_segD hD0 49 13 rfl) rfl
  have hD : ∀ ws' : va_W, ws'.map Prod.fst = (djk b ++ dj0 bm 13).map Prod.fst → va_D (fun q : Nat => s.heap.size ≤ q) ws' := fun ws' e => va_D_adr hD0 e
  obtain ⟨s1, w1, m1, n1, s2, w2, m2, n2, s3, w3, m3, n3, ik, bt, ln, tk, sb, en, nm, bits, size, num, fnd, mo, tr, b1, so, bg, te, wd, va, gd, le, im, bf, hP, o1, o3, oh, ol, hB, him⟩ := hI
  refine lv_aload_n hx hb dL_law_1222 rfl (lv_at hl 2 rfl) ?_
  refine callMi (va_runV (As := []) (rest := []) ⟨hx, hb, hml, hown, hts⟩ (k_X5_tear l D cI cL cS b s1 w1 m1 n1 s2 w2 m2 n2 s3 w3 m3 n3 ik bt ln tk sb en nm bits size num fnd hdk ) (cwV 0 hts gL_law_X5_tear rfl rfl rfl (by decide +kernel) ⟨Nat.le_of_ble_eq_true rfl, Nat.le_of_ble_eq_true rfl⟩) ⟨PcR_fb, va_recv hK hP (ci := 3) (q0 := 0) rfl rfl, PcR_pre (va_seg hP 0 49 rfl) hK⟩ rfl rfl hl.1 rfl (lv_room (Nat.le_of_ble_eq_true rfl)) dL_law_1223 ⟨Nat.le_of_ble_eq_true rfl, Nat.le_of_ble_eq_true rfl⟩) hP (hD _ rfl) hS 0 49 rfl (fun r1 u H locs h1 hP hS => ?_)
  obtain ⟨x1, rfl⟩ : ∃ z, z = u := ⟨_, rfl⟩
  have hP : va_P D vwCl (kcw cI cL cS b s1 w1 m1 n1 s2 w2 m2 n2 s3 w3 m3 n3 x1 bt ln tk sb en nm bits size num fnd ++ mdw cI cL bm (encS s1) fnd mo tr b1 bt ln so bg te wd va gd bits size (flat4 num) le im bf ik) H := hP
  refine lv_aload_n hx hb dL_law_1226 rfl (lv_at hl 1 rfl) ?_
  refine callMi (va_runV (As := []) (rest := [.int r1]) ⟨hx, hb, hml, hown, hts⟩ (k_X6_tear l D cI cL cS bm (sCo s1) (sGu s1) (sKn s1) (sFo s1) (sSp s1) (sKi s1) (sPl s1) (sEa s1) (sTo s1) (sQu s1) fnd mo tr b1 bt ln so bg te wd va gd bits size (flat4 num) le im bf ik hdm ) (cwV 0 hts gL_law_X6_tear rfl rfl rfl (by decide +kernel) ⟨Nat.le_of_ble_eq_true rfl, Nat.le_of_ble_eq_true rfl⟩) ⟨PcR_fb, va_recv hK hP (ci := 4) (q0 := 49) rfl rfl, PcR_pre (va_seg hP 49 13 rfl) hK⟩ rfl rfl hl.1 rfl (lv_room (Nat.le_of_ble_eq_true rfl)) dL_law_1227 ⟨Nat.le_of_ble_eq_true rfl, Nat.le_of_ble_eq_true rfl⟩) hP (hD _ rfl) hS 49 13 rfl (fun r2 u H locs h2 hP hS => ?_)
  obtain ⟨y1, rfl⟩ : ∃ z, z = u := ⟨_, rfl⟩
  have hP : va_P D vwCl (kcw cI cL cS b s1 w1 m1 n1 s2 w2 m2 n2 s3 w3 m3 n3 x1 bt ln tk sb en nm bits size num fnd ++ mdw cI cL bm (encS s1) fnd mo tr b1 bt ln so bg te wd va gd bits size (flat4 num) le im bf y1) H := hP
  obtain ⟨ra, ea⟩ := h1
  obtain ⟨rb, eb⟩ := h2
  have ea : x1 = 0 := ea
  have eb : y1 = 0 := eb
  subst ea
  subst eb
  exact lv_icmp_eq (tgt := 1281) hx hb dL_law_1230 (by decide) (fun _ => k H locs ⟨_, _, _, _, _, _, _, _, _, _, _, _, _, _, _, _, _, _, _, _, _, _, _, _, _, _, _, _, _, _, _, _, _, _, _, hP, o1, o3, oh, ol, hB, (fun h => absurd rfl h)⟩ hS) (fun q9 => absurd (ra.trans rb.symm) q9)

set_option maxRecDepth 100000 in
set_option maxHeartbeats 4000000 in
theorem law_count {p : Program} {l : Launch} {e : Env} {s : State} {m : MethodId} {below : List Frame} {meth : Method} {c : Code} {a L : Nat} {xs : Nat → Int32} (hL : L ≤ 3072) (C0 : lw_At p s m meth c a L xs) {D : va_G} {cI cL cS : ClassId} {b : Nat → Nat → Nat} {bm ad av : Nat → Nat} {fm : Option Nat} (hK : va_K D vwCl (tyG cI cL cS) s) (hD0 : va_D (fun q : Nat => s.heap.size ≤ q) (djk b ++ dj0 bm 13)) (hZ : SX ad av fm (fun q : Nat => s.heap.size ≤ q) s s.heap) {H : Heap} {locs : List Loc} {ls : Array Slot} {i : Nat} (hI : LW D cI cL cS b bm H) (hS : va_S (fun q : Nat => s.heap.size ≤ q) s.heap H locs) (hi : i + 6 ≤ L) (hl : lv_has ls 4 [(3, .int (nI i)), (2, .ref (bm 0)), (1, .ref (b 0 0)), (0, .ref a)]) (k : ∀ (H : Heap) (locs : List Loc), LW D cI cL cS b bm H → va_S (fun q : Nat => s.heap.size ≤ q) s.heap H locs → W p l e room_1 s m #[Value.ref a] below meth c H locs 62 1366 (lw_Z below #[Value.ref a] s) (F0 m 1281 ls [])) : W p l e room_1 s m #[Value.ref a] below meth c H locs 62 1366 (lw_Z below #[Value.ref a] s) (F0 m 1235 ls []) := by
  obtain ⟨hx, hb, hr, hml, hown, hts0, hX, hbl, hlocks, hgv⟩ := id C0
  have hown : s.vm.findClass RL = some m.cls := hown
  have hts : ∀ w ∈ wsL_law, w.before #[Value.ref a] s = true := fun w h => hts0 w (wsL_law_in w h)
  have hbA : ¬ (fun q : Nat => s.heap.size ≤ q) a := Nat.not_le.mpr hbl
  have hdk : va_D (fun _ => True) (djk b) := va_DT (va_segD hD0 0 49 rfl) rfl
  have hdm : va_D (fun _ => True) (dj0 bm 13) := va_DT (va_segD hD0 49 13 rfl) rfl
  have hD : ∀ ws' : va_W, ws'.map Prod.fst = (djk b ++ dj0 bm 13).map Prod.fst → va_D (fun q : Nat => s.heap.size ≤ q) ws' := fun ws' e => va_D_adr hD0 e
  obtain ⟨s1, w1, m1, n1, s2, w2, m2, n2, s3, w3, m3, n3, ik, bt, ln, tk, sb, en, nm, bits, size, num, fnd, mo, tr, b1, so, bg, te, wd, va, gd, le, im, bf, hP, o1, o3, oh, ol, hB, him⟩ := hI
  refine lv_aload_n hx hb dL_law_1235 rfl (lv_at hl 2 rfl) ?_
  refine lv_aload_n hx hb dL_law_1236 rfl (lv_at hl 3 rfl) ?_
  refine lv_iload_n hx hb dL_law_1237 rfl (lv_at hl 0 rfl) ?_
  refine lv_iconst (v := 1) hx hb dL_law_1238 (by decide) ?_
  refine lv_iadd hx hb dL_law_1239 ?_
  refine va_sld hx hb hX hbl hbA hS (sx_in (k := 1) hi (by decide) hL) dL_law_1240 ?_
  refine callMi (va_runV (As := [.int (xs (ix (nI i + 1)))]) (rest := []) ⟨hx, hb, hml, hown, hts⟩ (k_X5_count l D cI cL cS b s1 w1 m1 n1 s2 w2 m2 n2 s3 w3 m3 n3 ik bt ln tk sb en nm bits size num fnd (xs (ix (nI i + 1))) hdk o1) (cwV 1 hts gL_law_X5_count rfl rfl rfl (by decide +kernel) ⟨Nat.le_of_ble_eq_true rfl, Nat.le_of_ble_eq_true rfl⟩) ⟨PcR_fb, va_recv hK hP (ci := 3) (q0 := 0) rfl rfl, PcR_pre (va_seg hP 0 49 rfl) hK⟩ rfl rfl hl.1 rfl (lv_room (Nat.le_of_ble_eq_true rfl)) dL_law_1241 ⟨Nat.le_of_ble_eq_true rfl, Nat.le_of_ble_eq_true rfl⟩) hP (hD _ rfl) hS 0 49 rfl (fun r1 u H locs h1 hP hS => ?_)
  obtain ⟨x1, rfl⟩ : ∃ z, z = u := ⟨_, rfl⟩
  have hP : va_P D vwCl (kcw cI cL cS b s1 w1 m1 n1 s2 w2 m2 n2 s3 w3 m3 n3 ik bt ln tk sb en nm bits size num x1 ++ mdw cI cL bm (encS s1) fnd mo tr b1 bt ln so bg te wd va gd bits size (flat4 num) le im bf ik) H := hP
  refine lv_aload_n hx hb dL_law_1244 rfl (lv_at hl 1 rfl) ?_
  refine lv_aload_n hx hb dL_law_1245 rfl (lv_at hl 3 rfl) ?_
  refine lv_iload_n hx hb dL_law_1246 rfl (lv_at hl 0 rfl) ?_
  refine lv_iconst (v := 1) hx hb dL_law_1247 (by decide) ?_
  refine lv_iadd hx hb dL_law_1248 ?_
  refine va_sld hx hb hX hbl hbA hS (sx_in (k := 1) hi (by decide) hL) dL_law_1249 ?_
  refine callMi (va_runV (As := [.int (xs (ix (nI i + 1)))]) (rest := [.int r1]) ⟨hx, hb, hml, hown, hts⟩ (k_X6_count l D cI cL cS bm (sCo s1) (sGu s1) (sKn s1) (sFo s1) (sSp s1) (sKi s1) (sPl s1) (sEa s1) (sTo s1) (sQu s1) fnd mo tr b1 bt ln so bg te wd va gd bits size (flat4 num) le im bf ik (xs (ix (nI i + 1))) hdm o1.1.cC) (cwV 1 hts gL_law_X6_count rfl rfl rfl (by decide +kernel) ⟨Nat.le_of_ble_eq_true rfl, Nat.le_of_ble_eq_true rfl⟩) ⟨PcR_fb, va_recv hK hP (ci := 4) (q0 := 49) rfl rfl, PcR_pre (va_seg hP 49 13 rfl) hK⟩ rfl rfl hl.1 rfl (lv_room (Nat.le_of_ble_eq_true rfl)) dL_law_1250 ⟨Nat.le_of_ble_eq_true rfl, Nat.le_of_ble_eq_true rfl⟩) hP (hD _ rfl) hS 49 13 rfl (fun r2 u H locs h2 hP hS => ?_)
  obtain ⟨y1, rfl⟩ : ∃ z, z = u := ⟨_, rfl⟩
  have hP : va_P D vwCl (kcw cI cL cS b s1 w1 m1 n1 s2 w2 m2 n2 s3 w3 m3 n3 ik bt ln tk sb en nm bits size num x1 ++ mdw cI cL bm (encS s1) y1 mo tr b1 bt ln so bg te wd va gd bits size (flat4 num) le im bf ik) H := hP
  have eq := (h1).trans (h2).symm
  have eq : (r1, x1) = (r2, y1) := eq
  cases eq
  exact lv_icmp_eq (tgt := 1281) hx hb dL_law_1253 (by decide) (fun _ => k H locs ⟨_, _, _, _, _, _, _, _, _, _, _, _, _, _, _, _, _, _, _, _, _, _, _, _, _, _, _, _, _, _, _, _, _, _, _, hP, o1, o3, oh, ol, hB, him⟩ hS) (fun q9 => absurd rfl q9)

set_option maxRecDepth 100000 in
set_option maxHeartbeats 4000000 in
theorem law_status {p : Program} {l : Launch} {e : Env} {s : State} {m : MethodId} {below : List Frame} {meth : Method} {c : Code} {a L : Nat} {xs : Nat → Int32} (hL : L ≤ 3072) (C0 : lw_At p s m meth c a L xs) {D : va_G} {cI cL cS : ClassId} {b : Nat → Nat → Nat} {bm ad av : Nat → Nat} {fm : Option Nat} (hK : va_K D vwCl (tyG cI cL cS) s) (hD0 : va_D (fun q : Nat => s.heap.size ≤ q) (djk b ++ dj0 bm 13)) (hZ : SX ad av fm (fun q : Nat => s.heap.size ≤ q) s s.heap) {H : Heap} {locs : List Loc} {ls : Array Slot} {i : Nat} (hI : LW D cI cL cS b bm H) (hS : va_S (fun q : Nat => s.heap.size ≤ q) s.heap H locs) (hi : i + 6 ≤ L) (hl : lv_has ls 4 [(3, .int (nI i)), (2, .ref (bm 0)), (1, .ref (b 0 0)), (0, .ref a)]) (k : ∀ (H : Heap) (locs : List Loc), LW D cI cL cS b bm H → va_S (fun q : Nat => s.heap.size ≤ q) s.heap H locs → W p l e room_1 s m #[Value.ref a] below meth c H locs 62 1366 (lw_Z below #[Value.ref a] s) (F0 m 1281 ls [])) : W p l e room_1 s m #[Value.ref a] below meth c H locs 62 1366 (lw_Z below #[Value.ref a] s) (F0 m 1258 ls []) := by
  obtain ⟨hx, hb, hr, hml, hown, hts0, hX, hbl, hlocks, hgv⟩ := id C0
  have hown : s.vm.findClass RL = some m.cls := hown
  have hts : ∀ w ∈ wsL_law, w.before #[Value.ref a] s = true := fun w h => hts0 w (wsL_law_in w h)
  have hbA : ¬ (fun q : Nat => s.heap.size ≤ q) a := Nat.not_le.mpr hbl
  have hdk : va_D (fun _ => True) (djk b) := va_DT (va_segD hD0 0 49 rfl) rfl
  have hdm : va_D (fun _ => True) (dj0 bm 13) := va_DT (va_segD hD0 49 13 rfl) rfl
  have hD : ∀ ws' : va_W, ws'.map Prod.fst = (djk b ++ dj0 bm 13).map Prod.fst → va_D (fun q : Nat => s.heap.size ≤ q) ws' := fun ws' e => va_D_adr hD0 e
  obtain ⟨s1, w1, m1, n1, s2, w2, m2, n2, s3, w3, m3, n3, ik, bt, ln, tk, sb, en, nm, bits, size, num, fnd, mo, tr, b1, so, bg, te, wd, va, gd, le, im, bf, hP, o1, o3, oh, ol, hB, him⟩ := hI
  refine lv_aload_n hx hb dL_law_1258 rfl (lv_at hl 2 rfl) ?_
  refine lv_aload_n hx hb dL_law_1259 rfl (lv_at hl 3 rfl) ?_
  refine lv_iload_n hx hb dL_law_1260 rfl (lv_at hl 0 rfl) ?_
  refine lv_iconst (v := 1) hx hb dL_law_1261 (by decide) ?_
  refine lv_iadd hx hb dL_law_1262 ?_
  refine va_sld hx hb hX hbl hbA hS (sx_in (k := 1) hi (by decide) hL) dL_law_1263 ?_
  refine callMi (va_runV (As := [.int (xs (ix (nI i + 1)))]) (rest := []) ⟨hx, hb, hml, hown, hts⟩ (k_X5_status l D cI cL cS b s1 w1 m1 n1 s2 w2 m2 n2 s3 w3 m3 n3 ik bt ln tk sb en nm bits size num fnd (xs (ix (nI i + 1))) hdk ) (cwV 1 hts gL_law_X5_status rfl rfl rfl (by decide +kernel) ⟨Nat.le_of_ble_eq_true rfl, Nat.le_of_ble_eq_true rfl⟩) ⟨PcR_fb, va_recv hK hP (ci := 3) (q0 := 0) rfl rfl, PcR_pre (va_seg hP 0 49 rfl) hK⟩ rfl rfl hl.1 rfl (lv_room (Nat.le_of_ble_eq_true rfl)) dL_law_1264 ⟨Nat.le_of_ble_eq_true rfl, Nat.le_of_ble_eq_true rfl⟩) hP (hD _ rfl) hS 0 49 rfl (fun r1 u H locs h1 hP hS => ?_)
  obtain ⟨x1, rfl⟩ : ∃ z, z = u := ⟨_, rfl⟩
  have hP : va_P D vwCl (kcw cI cL cS b s1 w1 m1 n1 s2 w2 m2 n2 s3 w3 m3 n3 ik bt ln tk sb en nm bits size num x1 ++ mdw cI cL bm (encS s1) fnd mo tr b1 bt ln so bg te wd va gd bits size (flat4 num) le im bf ik) H := hP
  refine lv_aload_n hx hb dL_law_1267 rfl (lv_at hl 1 rfl) ?_
  refine lv_aload_n hx hb dL_law_1268 rfl (lv_at hl 3 rfl) ?_
  refine lv_iload_n hx hb dL_law_1269 rfl (lv_at hl 0 rfl) ?_
  refine lv_iconst (v := 1) hx hb dL_law_1270 (by decide) ?_
  refine lv_iadd hx hb dL_law_1271 ?_
  refine va_sld hx hb hX hbl hbA hS (sx_in (k := 1) hi (by decide) hL) dL_law_1272 ?_
  refine callMi (va_runV (As := [.int (xs (ix (nI i + 1)))]) (rest := [.int r1]) ⟨hx, hb, hml, hown, hts⟩ (k_X6_status l D cI cL cS bm (sCo s1) (sGu s1) (sKn s1) (sFo s1) (sSp s1) (sKi s1) (sPl s1) (sEa s1) (sTo s1) (sQu s1) fnd mo tr b1 bt ln so bg te wd va gd bits size (flat4 num) le im bf ik (xs (ix (nI i + 1))) hdm ) (cwV 1 hts gL_law_X6_status rfl rfl rfl (by decide +kernel) ⟨Nat.le_of_ble_eq_true rfl, Nat.le_of_ble_eq_true rfl⟩) ⟨PcR_fb, va_recv hK hP (ci := 4) (q0 := 49) rfl rfl, PcR_pre (va_seg hP 49 13 rfl) hK⟩ rfl rfl hl.1 rfl (lv_room (Nat.le_of_ble_eq_true rfl)) dL_law_1273 ⟨Nat.le_of_ble_eq_true rfl, Nat.le_of_ble_eq_true rfl⟩) hP (hD _ rfl) hS 49 13 rfl (fun r2 u H locs h2 hP hS => ?_)
  obtain ⟨y1, rfl⟩ : ∃ z, z = u := ⟨_, rfl⟩
  have hP : va_P D vwCl (kcw cI cL cS b s1 w1 m1 n1 s2 w2 m2 n2 s3 w3 m3 n3 ik bt ln tk sb en nm bits size num x1 ++ mdw cI cL bm (encS s1) y1 mo tr b1 bt ln so bg te wd va gd bits size (flat4 num) le im bf ik) H := hP
  have eq := (h1).trans (h2).symm
  have eq : (r1, x1) = (r2, y1) := eq
  cases eq
  exact lv_icmp_eq (tgt := 1281) hx hb dL_law_1276 (by decide) (fun _ => k H locs ⟨_, _, _, _, _, _, _, _, _, _, _, _, _, _, _, _, _, _, _, _, _, _, _, _, _, _, _, _, _, _, _, _, _, _, _, hP, o1, o3, oh, ol, hB, him⟩ hS) (fun q9 => absurd rfl q9)
