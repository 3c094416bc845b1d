set_option maxRecDepth 100000 in
set_option maxHeartbeats 4000000 in
theorem law_lay {p : Program} {l : Launch} {e : Env} {s : State} {m : MethodId} {below : List Frame} {meth : Method} {c : Code} {a L : Nat} {xs : Nat → Int32} (hL : L ≤ 3072) (C0 : lw_At p s m meth c a L xs) {D : va_G} {cI cL cS : ClassId} {b : Nat → Nat → Nat} {bm ad av : Nat → Nat} {fm : Option Nat} (hK : va_K D vwCl (tyG cI cL cS) s) (hD0 : va_D (fun q : Nat => s.heap.size ≤ q) (djk b ++ dj0 bm 13)) (hZ : SX ad av fm (fun q : Nat => s.heap.size ≤ q) s s.heap) {H : Heap} {locs : List Loc} {ls : Array Slot} {i : Nat} (hI : LW D cI cL cS b bm H) (hS : va_S (fun q : Nat => s.heap.size ≤ q) s.heap H locs) (hi : i + 6 ≤ L) (hl : lv_has ls 4 [(3, .int (nI i)), (2, .ref (bm 0)), (1, .ref (b 0 0)), (0, .ref a)]) (k : ∀ (H : Heap) (locs : List Loc), LW D cI cL cS b bm H → va_S (fun q : Nat => s.heap.size ≤ q) s.heap H locs → W p l e room_1 s m #[Value.ref a] below meth c H locs 62 1366 (lw_Z below #[Value.ref a] s) (F0 m 1281 ls [])) : W p l e room_1 s m #[Value.ref a] below meth c H locs 62 1366 (lw_Z below #[Value.ref a] s) (F0 m 192 ls []) := by
  obtain ⟨hx, hb, hr, hml, hown, hts0, hX, hbl, hlocks, hgv⟩ := id C0
  have hown : s.vm.findClass RL = some m.cls := hown
  have hts : ∀ w ∈ wsL_law, w.before #[Value.ref a] s = true := fun w h => hts0 w (wsL_law_in w h)
  have hbA : ¬ (fun q : Nat => s.heap.size ≤ q) a := Nat.not_le.mpr hbl
  have hdk : va_D (fun _ => True) (djk b) := va_DT (va_segD hD0 0 49 rfl) rfl
  have hdm : va_D (fun _ => True) (dj0 bm 13) := va_DT (va_segD hD0 49 13 rfl) rfl
  have hD : ∀ ws' : va_W, ws'.map Prod.fst = (djk b ++ dj0 bm 13).map Prod.fst → va_D (fun q : Nat => s.heap.size ≤ q) ws' := fun ws' e => va_D_adr hD0 e
  obtain ⟨s1, w1, m1, n1, s2, w2, m2, n2, s3, w3, m3, n3, ik, bt, ln, tk, sb, en, nm, bits, size, num, fnd, mo, tr, b1, so, bg, te, wd, va, gd, le, im, bf, hP, o1, o3, oh, ol, hB, him⟩ := hI
  refine lv_aload_n hx hb dL_law_192 rfl (lv_at hl 2 rfl) ?_
  refine lv_aload_n hx hb dL_law_193 rfl (lv_at hl 3 rfl) ?_
  refine lv_iload_n hx hb dL_law_194 rfl (lv_at hl 0 rfl) ?_
  refine lv_iconst (v := 1) hx hb dL_law_195 (by decide) ?_
  refine lv_iadd hx hb dL_law_196 ?_
  refine va_sld hx hb hX hbl hbA hS (sx_in (k := 1) hi (by decide) hL) dL_law_197 ?_
  refine lv_aload_n hx hb dL_law_198 rfl (lv_at hl 3 rfl) ?_
  refine lv_iload_n hx hb dL_law_199 rfl (lv_at hl 0 rfl) ?_
  refine lv_iconst (v := 2) hx hb dL_law_200 (by decide) ?_
  refine lv_iadd hx hb dL_law_201 ?_
  refine va_sld hx hb hX hbl hbA hS (sx_in (k := 2) hi (by decide) hL) dL_law_202 ?_
  refine lv_aload_n hx hb dL_law_203 rfl (lv_at hl 3 rfl) ?_
  refine lv_iload_n hx hb dL_law_204 rfl (lv_at hl 0 rfl) ?_
  refine lv_iconst (v := 3) hx hb dL_law_205 (by decide) ?_
  refine lv_iadd hx hb dL_law_206 ?_
  refine va_sld hx hb hX hbl hbA hS (sx_in (k := 3) hi (by decide) hL) dL_law_207 ?_
  refine callMi (va_runV (As := [.int (xs (ix (nI i + 1))), .int (xs (ix (nI i + 2))), .int (xs (ix (nI i + 3)))]) (rest := []) ⟨hx, hb, hml, hown, hts⟩ (k_X5_lay l D cI cL cS b s1 w1 m1 n1 s2 w2 m2 n2 s3 w3 m3 n3 ik bt ln tk sb en nm bits size num fnd (xs (ix (nI i + 1))) (xs (ix (nI i + 2))) (xs (ix (nI i + 3))) hdk o1) (cwV 3 hts gL_law_X5_lay rfl rfl rfl (by decide +kernel) ⟨Nat.le_of_ble_eq_true rfl, Nat.le_of_ble_eq_true rfl⟩) ⟨PcR_fb, va_recv hK hP (ci := 3) (q0 := 0) rfl rfl, PcR_pre (va_seg hP 0 49 rfl) hK⟩ rfl rfl hl.1 rfl (lv_room (Nat.le_of_ble_eq_true rfl)) dL_law_208 ⟨Nat.le_of_ble_eq_true rfl, Nat.le_of_ble_eq_true rfl⟩) hP (hD _ rfl) hS 0 49 rfl (fun r1 u H locs h1 hP hS => ?_)
  obtain ⟨x1, x2⟩ := u
  have hP : va_P D vwCl (kcw cI cL cS b x1 w1 m1 n1 s2 w2 m2 n2 s3 w3 m3 n3 ik bt ln tk sb en nm bits size num x2 ++ mdw cI cL bm (encS s1) fnd mo tr b1 bt ln so bg te wd va gd bits size (flat4 num) le im bf ik) H := hP
  refine lv_aload_n hx hb dL_law_211 rfl (lv_at hl 1 rfl) ?_
  refine lv_aload_n hx hb dL_law_212 rfl (lv_at hl 3 rfl) ?_
  refine lv_iload_n hx hb dL_law_213 rfl (lv_at hl 0 rfl) ?_
  refine lv_iconst (v := 1) hx hb dL_law_214 (by decide) ?_
  refine lv_iadd hx hb dL_law_215 ?_
  refine va_sld hx hb hX hbl hbA hS (sx_in (k := 1) hi (by decide) hL) dL_law_216 ?_
  refine lv_aload_n hx hb dL_law_217 rfl (lv_at hl 3 rfl) ?_
  refine lv_iload_n hx hb dL_law_218 rfl (lv_at hl 0 rfl) ?_
  refine lv_iconst (v := 2) hx hb dL_law_219 (by decide) ?_
  refine lv_iadd hx hb dL_law_220 ?_
  refine va_sld hx hb hX hbl hbA hS (sx_in (k := 2) hi (by decide) hL) dL_law_221 ?_
  refine lv_aload_n hx hb dL_law_222 rfl (lv_at hl 3 rfl) ?_
  refine lv_iload_n hx hb dL_law_223 rfl (lv_at hl 0 rfl) ?_
  refine lv_iconst (v := 3) hx hb dL_law_224 (by decide) ?_
  refine lv_iadd hx hb dL_law_225 ?_
  refine va_sld hx hb hX hbl hbA hS (sx_in (k := 3) hi (by decide) hL) dL_law_226 ?_
  refine callMi (va_runV (As := [.int (xs (ix (nI i + 1))), .int (xs (ix (nI i + 2))), .int (xs (ix (nI i + 3)))]) (rest := [.int r1]) ⟨hx, hb, hml, hown, hts⟩ (k_X6_lay l D cI cL cS bm (sCo s1) (sGu s1) (sKn s1) (sFo s1) (sSp s1) (sKi s1) (sPl s1) (sEa s1) (sTo s1) (sQu s1) fnd mo tr b1 bt ln so bg te wd va gd bits size (flat4 num) le im bf ik (xs (ix (nI i + 1))) (xs (ix (nI i + 2))) (xs (ix (nI i + 3))) hdm o1.1.cC) (cwV 3 hts gL_law_X6_lay rfl rfl rfl (by decide +kernel) ⟨Nat.le_of_ble_eq_true rfl, Nat.le_of_ble_eq_true rfl⟩) ⟨PcR_fb, va_recv hK hP (ci := 4) (q0 := 49) rfl rfl, PcR_pre (va_seg hP 49 13 rfl) hK⟩ rfl rfl hl.1 rfl (lv_room (Nat.le_of_ble_eq_true rfl)) dL_law_227 ⟨Nat.le_of_ble_eq_true rfl, Nat.le_of_ble_eq_true rfl⟩) hP (hD _ rfl) hS 49 13 rfl (fun r2 u H locs h2 hP hS => ?_)
  obtain ⟨y1, y2⟩ := u
  have hP : va_P D vwCl (kcw cI cL cS b x1 w1 m1 n1 s2 w2 m2 n2 s3 w3 m3 n3 ik bt ln tk sb en nm bits size num x2 ++ mdw cI cL bm (encS y1) y2 mo tr b1 bt ln so bg te wd va gd bits size (flat4 num) le im bf ik) H := hP
  have eq := (h1.1).trans (h2).symm
  have o9 := h1.2
  have eq : (r1, x1, x2) = (r2, y1, y2) := eq
  cases eq
  exact lv_icmp_eq (tgt := 1281) hx hb dL_law_230 (by decide) (fun _ => k H locs ⟨_, _, _, _, _, _, _, _, _, _, _, _, _, _, _, _, _, _, _, _, _, _, _, _, _, _, _, _, _, _, _, _, _, _, _, hP, o9, o3, oh, ol, hB, him⟩ hS) (fun q9 => absurd rfl q9)

set_option maxRecDepth 100000 in
set_option maxHeartbeats 4000000 in
theorem law_place {p : Program} {l : Launch} {e : Env} {s : State} {m : MethodId} {below : List Frame} {meth : Method} {c : Code} {a L : Nat} {xs : Nat → Int32} (hL : L ≤ 3072) (C0 : lw_At p s m meth c a L xs) {D : va_G} {cI cL cS : ClassId} {b : Nat → Nat → Nat} {bm ad av : Nat → Nat} {fm : Option Nat} (hK : va_K D vwCl (tyG cI cL cS) s) (hD0 : va_D (fun q : Nat => s.heap.size ≤ q) (djk b ++ dj0 bm 13)) (hZ : SX ad av fm (fun q : Nat => s.heap.size ≤ q) s s.heap) {H : Heap} {locs : List Loc} {ls : Array Slot} {i : Nat} (hI : LW D cI cL cS b bm H) (hS : va_S (fun q : Nat => s.heap.size ≤ q) s.heap H locs) (hi : i + 6 ≤ L) (hl : lv_has ls 4 [(3, .int (nI i)), (2, .ref (bm 0)), (1, .ref (b 0 0)), (0, .ref a)]) (k : ∀ (H : Heap) (locs : List Loc), LW D cI cL cS b bm H → va_S (fun q : Nat => s.heap.size ≤ q) s.heap H locs → W p l e room_1 s m #[Value.ref a] below meth c H locs 62 1366 (lw_Z below #[Value.ref a] s) (F0 m 1281 ls [])) : W p l e room_1 s m #[Value.ref a] below meth c H locs 62 1366 (lw_Z below #[Value.ref a] s) (F0 m 235 ls []) := by
  obtain ⟨hx, hb, hr, hml, hown, hts0, hX, hbl, hlocks, hgv⟩ := id C0
  have hown : s.vm.findClass RL = some m.cls := hown
  have hts : ∀ w ∈ wsL_law, w.before #[Value.ref a] s = true := fun w h => hts0 w (wsL_law_in w h)
  have hbA : ¬ (fun q : Nat => s.heap.size ≤ q) a := Nat.not_le.mpr hbl
  have hdk : va_D (fun _ => True) (djk b) := va_DT (va_segD hD0 0 49 rfl) rfl
  have hdm : va_D (fun _ => True) (dj0 bm 13) := va_DT (va_segD hD0 49 13 rfl) rfl
  have hD : ∀ ws' : va_W, ws'.map Prod.fst = (djk b ++ dj0 bm 13).map Prod.fst → va_D (fun q : Nat => s.heap.size ≤ q) ws' := fun ws' e => va_D_adr hD0 e
  obtain ⟨s1, w1, m1, n1, s2, w2, m2, n2, s3, w3, m3, n3, ik, bt, ln, tk, sb, en, nm, bits, size, num, fnd, mo, tr, b1, so, bg, te, wd, va, gd, le, im, bf, hP, o1, o3, oh, ol, hB, him⟩ := hI
  refine lv_aload_n hx hb dL_law_235 rfl (lv_at hl 2 rfl) ?_
  refine lv_aload_n hx hb dL_law_236 rfl (lv_at hl 3 rfl) ?_
  refine lv_iload_n hx hb dL_law_237 rfl (lv_at hl 0 rfl) ?_
  refine lv_iconst (v := 1) hx hb dL_law_238 (by decide) ?_
  refine lv_iadd hx hb dL_law_239 ?_
  refine va_sld hx hb hX hbl hbA hS (sx_in (k := 1) hi (by decide) hL) dL_law_240 ?_
  refine lv_aload_n hx hb dL_law_241 rfl (lv_at hl 3 rfl) ?_
  refine lv_iload_n hx hb dL_law_242 rfl (lv_at hl 0 rfl) ?_
  refine lv_iconst (v := 2) hx hb dL_law_243 (by decide) ?_
  refine lv_iadd hx hb dL_law_244 ?_
  refine va_sld hx hb hX hbl hbA hS (sx_in (k := 2) hi (by decide) hL) dL_law_245 ?_
  refine callMi (va_runV (As := [.int (xs (ix (nI i + 1))), .int (xs (ix (nI i + 2)))]) (rest := []) ⟨hx, hb, hml, hown, hts⟩ (k_X5_place l D cI cL cS b s1 w1 m1 n1 s2 w2 m2 n2 s3 w3 m3 n3 ik bt ln tk sb en nm bits size num fnd (xs (ix (nI i + 1))) (xs (ix (nI i + 2))) hdk o1) (cwV 2 hts gL_law_X5_place rfl rfl rfl (by decide +kernel) ⟨Nat.le_of_ble_eq_true rfl, Nat.le_of_ble_eq_true rfl⟩) ⟨PcR_fb, va_recv hK hP (ci := 3) (q0 := 0) rfl rfl, PcR_pre (va_seg hP 0 49 rfl) hK⟩ rfl rfl hl.1 rfl (lv_room (Nat.le_of_ble_eq_true rfl)) dL_law_246 ⟨Nat.le_of_ble_eq_true rfl, Nat.le_of_ble_eq_true rfl⟩) hP (hD _ rfl) hS 0 49 rfl (fun r1 u H locs h1 hP hS => ?_)
  obtain ⟨x1, rfl⟩ : ∃ z, z = u := ⟨_, rfl⟩
  have hP : va_P D vwCl (kcw cI cL cS b s1 w1 m1 n1 s2 w2 m2 n2 s3 w3 m3 n3 ik bt ln tk sb en nm bits size num x1 ++ mdw cI cL bm (encS s1) fnd mo tr b1 bt ln so bg te wd va gd bits size (flat4 num) le im bf ik) H := hP
  refine lv_aload_n hx hb dL_law_249 rfl (lv_at hl 1 rfl) ?_
  refine lv_aload_n hx hb dL_law_250 rfl (lv_at hl 3 rfl) ?_
  refine lv_iload_n hx hb dL_law_251 rfl (lv_at hl 0 rfl) ?_
  refine lv_iconst (v := 1) hx hb dL_law_252 (by decide) ?_
  refine lv_iadd hx hb dL_law_253 ?_
  refine va_sld hx hb hX hbl hbA hS (sx_in (k := 1) hi (by decide) hL) dL_law_254 ?_
  refine lv_aload_n hx hb dL_law_255 rfl (lv_at hl 3 rfl) ?_
  refine lv_iload_n hx hb dL_law_256 rfl (lv_at hl 0 rfl) ?_
  refine lv_iconst (v := 2) hx hb dL_law_257 (by decide) ?_
  refine lv_iadd hx hb dL_law_258 ?_
  refine va_sld hx hb hX hbl hbA hS (sx_in (k := 2) hi (by decide) hL) dL_law_259 ?_
  refine callMi (va_runV (As := [.int (xs (ix (nI i + 1))), .int (xs (ix (nI i + 2)))]) (rest := [.int r1]) ⟨hx, hb, hml, hown, hts⟩ (k_X6_place l D cI cL cS bm (sCo s1) (sGu s1) (sKn s1) (sFo s1) (sSp s1) (sKi s1) (sPl s1) (sEa s1) (sTo s1) (sQu s1) fnd mo tr b1 bt ln so bg te wd va gd bits size (flat4 num) le im bf ik (xs (ix (nI i + 1))) (xs (ix (nI i + 2))) hdm o1.1.cC) (cwV 2 hts gL_law_X6_place rfl rfl rfl (by decide +kernel) ⟨Nat.le_of_ble_eq_true rfl, Nat.le_of_ble_eq_true rfl⟩) ⟨PcR_fb, va_recv hK hP (ci := 4) (q0 := 49) rfl rfl, PcR_pre (va_seg hP 49 13 rfl) hK⟩ rfl rfl hl.1 rfl (lv_room (Nat.le_of_ble_eq_true rfl)) dL_law_260 ⟨Nat.le_of_ble_eq_true rfl, Nat.le_of_ble_eq_true rfl⟩) hP (hD _ rfl) hS 49 13 rfl (fun r2 u H locs h2 hP hS => ?_)
  obtain ⟨y1, rfl⟩ : ∃ z, z = u := ⟨_, rfl⟩
  have hP : va_P D vwCl (kcw cI cL cS b s1 w1 m1 n1 s2 w2 m2 n2 s3 w3 m3 n3 ik bt ln tk sb en nm bits size num x1 ++ mdw cI cL bm (encS s1) y1 mo tr b1 bt ln so bg te wd va gd bits size (flat4 num) le im bf ik) H := hP
  have eq := (h1).trans (h2).symm
  have eq : (r1, x1) = (r2, y1) := eq
  cases eq
  exact lv_icmp_eq (tgt := 1281) hx hb dL_law_263 (by decide) (fun _ => k H locs ⟨_, _, _, _, _, _, _, _, _, _, _, _, _, _, _, _, _, _, _, _, _, _, _, _, _, _, _, _, _, _, _, _, _, _, _, hP, o1, o3, oh, ol, hB, him⟩ hS) (fun q9 => absurd rfl q9)

set_option maxRecDepth 100000 in
set_option maxHeartbeats 4000000 in
theorem law_now {p : Program} {l : Launch} {e : Env} {s : State} {m : MethodId} {below : List Frame} {meth : Method} {c : Code} {a L : Nat} {xs : Nat → Int32} (hL : L ≤ 3072) (C0 : lw_At p s m meth c a L xs) {D : va_G} {cI cL cS : ClassId} {b : Nat → Nat → Nat} {bm ad av : Nat → Nat} {fm : Option Nat} (hK : va_K D vwCl (tyG cI cL cS) s) (hD0 : va_D (fun q : Nat => s.heap.size ≤ q) (djk b ++ dj0 bm 13)) (hZ : SX ad av fm (fun q : Nat => s.heap.size ≤ q) s s.heap) {H : Heap} {locs : List Loc} {ls : Array Slot} {i : Nat} (hI : LW D cI cL cS b bm H) (hS : va_S (fun q : Nat => s.heap.size ≤ q) s.heap H locs) (hi : i + 6 ≤ L) (hl : lv_has ls 4 [(3, .int (nI i)), (2, .ref (bm 0)), (1, .ref (b 0 0)), (0, .ref a)]) (k : ∀ (H : Heap) (locs : List Loc), LW D cI cL cS b bm H → va_S (fun q : Nat => s.heap.size ≤ q) s.heap H locs → W p l e room_1 s m #[Value.ref a] below meth c H locs 62 1366 (lw_Z below #[Value.ref a] s) (F0 m 1281 ls [])) : W p l e room_1 s m #[Value.ref a] below meth c H locs 62 1366 (lw_Z below #[Value.ref a] s) (F0 m 268 ls []) := by
  obtain ⟨hx, hb, hr, hml, hown, hts0, hX, hbl, hlocks, hgv⟩ := id C0
  have hown : s.vm.findClass RL = some m.cls := hown
  have hts : ∀ w ∈ wsL_law, w.before #[Value.ref a] s = true := fun w h => hts0 w (wsL_law_in w h)
  have hbA : ¬ (fun q : Nat => s.heap.size ≤ q) a := Nat.not_le.mpr hbl
  have hdk : va_D (fun _ => True) (djk b) := va_DT (va_segD hD0 0 49 rfl) rfl
  have hdm : va_D (fun _ => True) (dj0 bm 13) := va_DT (va_segD hD0 49 13 rfl) rfl
  have hD : ∀ ws' : va_W, ws'.map Prod.fst = (djk b ++ dj0 bm 13).map Prod.fst → va_D (fun q : Nat => s.heap.size ≤ q) ws' := fun ws' e => va_D_adr hD0 e
  obtain ⟨s1, w1, m1, n1, s2, w2, m2, n2, s3, w3, m3, n3, ik, bt, ln, tk, sb, en, nm, bits, size, num, fnd, mo, tr, b1, so, bg, te, wd, va, gd, le, im, bf, hP, o1, o3, oh, ol, hB, him⟩ := hI
  refine lv_aload_n hx hb dL_law_268 rfl (lv_at hl 2 rfl) ?_
  refine lv_aload_n hx hb dL_law_269 rfl (lv_at hl 3 rfl) ?_
  refine lv_iload_n hx hb dL_law_270 rfl (lv_at hl 0 rfl) ?_
  refine lv_iconst (v := 1) hx hb dL_law_271 (by decide) ?_
  refine lv_iadd hx hb dL_law_272 ?_
  refine va_sld hx hb hX hbl hbA hS (sx_in (k := 1) hi (by decide) hL) dL_law_273 ?_
  refine callMi (va_runV (As := [.int (xs (ix (nI i + 1)))]) (rest := []) ⟨hx, hb, hml, hown, hts⟩ (k_X5_now l D cI cL cS b s1 w1 m1 n1 s2 w2 m2 n2 s3 w3 m3 n3 ik bt ln tk sb en nm bits size num fnd (xs (ix (nI i + 1))) hdk o1) (cwV 1 hts gL_law_X5_now rfl rfl rfl (by decide +kernel) ⟨Nat.le_of_ble_eq_true rfl, Nat.le_of_ble_eq_true rfl⟩) ⟨PcR_fb, va_recv hK hP (ci := 3) (q0 := 0) rfl rfl, PcR_pre (va_seg hP 0 49 rfl) hK⟩ rfl rfl hl.1 rfl (lv_room (Nat.le_of_ble_eq_true rfl)) dL_law_274 ⟨Nat.le_of_ble_eq_true rfl, Nat.le_of_ble_eq_true rfl⟩) hP (hD _ rfl) hS 0 49 rfl (fun r1 u H locs h1 hP hS => ?_)
  obtain ⟨x1, rfl⟩ : ∃ z, z = u := ⟨_, rfl⟩
  have hP : va_P D vwCl (kcw cI cL cS b s1 w1 m1 n1 s2 w2 m2 n2 s3 w3 m3 n3 ik bt ln tk sb en nm bits size num x1 ++ mdw cI cL bm (encS s1) fnd mo tr b1 bt ln so bg te wd va gd bits size (flat4 num) le im bf ik) H := hP
  refine lv_aload_n hx hb dL_law_277 rfl (lv_at hl 1 rfl) ?_
  refine lv_aload_n hx hb dL_law_278 rfl (lv_at hl 3 rfl) ?_
  refine lv_iload_n hx hb dL_law_279 rfl (lv_at hl 0 rfl) ?_
  refine lv_iconst (v := 1) hx hb dL_law_280 (by decide) ?_
  refine lv_iadd hx hb dL_law_281 ?_
  refine va_sld hx hb hX hbl hbA hS (sx_in (k := 1) hi (by decide) hL) dL_law_282 ?_
  refine callMi (va_runV (As := [.int (xs (ix (nI i + 1)))]) (rest := [.int r1]) ⟨hx, hb, hml, hown, hts⟩ (k_X6_now l D cI cL cS bm (sCo s1) (sGu s1) (sKn s1) (sFo s1) (sSp s1) (sKi s1) (sPl s1) (sEa s1) (sTo s1) (sQu s1) fnd mo tr b1 bt ln so bg te wd va gd bits size (flat4 num) le im bf ik (xs (ix (nI i + 1))) hdm o1.1.cC) (cwV 1 hts gL_law_X6_now rfl rfl rfl (by decide +kernel) ⟨Nat.le_of_ble_eq_true rfl, Nat.le_of_ble_eq_true rfl⟩) ⟨PcR_fb, va_recv hK hP (ci := 4) (q0 := 49) rfl rfl, PcR_pre (va_seg hP 49 13 rfl) hK⟩ rfl rfl hl.1 rfl (lv_room (Nat.le_of_ble_eq_true rfl)) dL_law_283 ⟨Nat.le_of_ble_eq_true rfl, Nat.le_of_ble_eq_true rfl⟩) hP (hD _ rfl) hS 49 13 rfl (fun r2 u H locs h2 hP hS => ?_)
  obtain ⟨y1, rfl⟩ : ∃ z, z = u := ⟨_, rfl⟩
  have hP : va_P D vwCl (kcw cI cL cS b s1 w1 m1 n1 s2 w2 m2 n2 s3 w3 m3 n3 ik bt ln tk sb en nm bits size num x1 ++ mdw cI cL bm (encS s1) y1 mo tr b1 bt ln so bg te wd va gd bits size (flat4 num) le im bf ik) H := hP
  have eq := (h1).trans (h2).symm
  have eq : (r1, x1) = (r2, y1) := eq
  cases eq
  exact lv_icmp_eq (tgt := 1281) hx hb dL_law_286 (by decide) (fun _ => k H locs ⟨_, _, _, _, _, _, _, _, _, _, _, _, _, _, _, _, _, _, _, _, _, _, _, _, _, _, _, _, _, _, _, _, _, _, _, hP, o1, o3, oh, ol, hB, him⟩ hS) (fun q9 => absurd rfl q9)

set_option maxRecDepth 100000 in
set_option maxHeartbeats 4000000 in
theorem law_guest {p : Program} {l : Launch} {e : Env} {s : State} {m : MethodId} {below : List Frame} {meth : Method} {c : Code} {a L : Nat} {xs : Nat → Int32} (hL : L ≤ 3072) (C0 : lw_At p s m meth c a L xs) {D : va_G} {cI cL cS : ClassId} {b : Nat → Nat → Nat} {bm ad av : Nat → Nat} {fm : Option Nat} (hK : va_K D vwCl (tyG cI cL cS) s) (hD0 : va_D (fun q : Nat => s.heap.size ≤ q) (djk b ++ dj0 bm 13)) (hZ : SX ad av fm (fun q : Nat => s.heap.size ≤ q) s s.heap) {H : Heap} {locs : List Loc} {ls : Array Slot} {i : Nat} (hI : LW D cI cL cS b bm H) (hS : va_S (fun q : Nat => s.heap.size ≤ q) s.heap H locs) (hi : i + 6 ≤ L) (hl : lv_has ls 4 [(3, .int (nI i)), (2, .ref (bm 0)), (1, .ref (b 0 0)), (0, .ref a)]) (k : ∀ (H : Heap) (locs : List Loc), LW D cI cL cS b bm H → va_S (fun q : Nat => s.heap.size ≤ q) s.heap H locs → W p l e room_1 s m #[Value.ref a] below meth c H locs 62 1366 (lw_Z below #[Value.ref a] s) (F0 m 1281 ls [])) : W p l e room_1 s m #[Value.ref a] below meth c H locs 62 1366 (lw_Z below #[Value.ref a] s) (F0 m 291 ls []) := by
  obtain ⟨hx, hb, hr, hml, hown, hts0, hX, hbl, hlocks, hgv⟩ := id C0
  have hown : s.vm.findClass RL = some m.cls := hown
  have hts : ∀ w ∈ wsL_law, w.before #[Value.ref a] s = true := fun w h => hts0 w (wsL_law_in w h)
  have hbA : ¬ (fun q : Nat => s.heap.size ≤ q) a := Nat.not_le.mpr hbl
  have hdk : va_D (fun _ => True) (djk b) := va_DT (va_segD hD0 0 49 rfl) rfl
  have hdm : va_D (fun _ => True) (dj0 bm 13) := va_DT (va_segD hD0 49 13 rfl) rfl
  have hD : ∀ ws' : va_W, ws'.map Prod.fst = (djk b ++ dj0 bm 13).map Prod.fst → va_D (fun q : Nat => s.heap.size ≤ q) ws' := fun ws' e => va_D_adr hD0 e
  obtain ⟨s1, w1, m1, n1, s2, w2, m2, n2, s3, w3, m3, n3, ik, bt, ln, tk, sb, en, nm, bits, size, num, fnd, mo, tr, b1, so, bg, te, wd, va, gd, le, im, bf, hP, o1, o3, oh, ol, hB, him⟩ := hI
  refine lv_aload_n hx hb dL_law_291 rfl (lv_at hl 2 rfl) ?_
  refine lv_aload_n hx hb dL_law_292 rfl (lv_at hl 3 rfl) ?_
  refine lv_iload_n hx hb dL_law_293 rfl (lv_at hl 0 rfl) ?_
  refine lv_iconst (v := 1) hx hb dL_law_294 (by decide) ?_
  refine lv_iadd hx hb dL_law_295 ?_
  refine va_sld hx hb hX hbl hbA hS (sx_in (k := 1) hi (by decide) hL) dL_law_296 ?_
  refine lv_aload_n hx hb dL_law_297 rfl (lv_at hl 3 rfl) ?_
  refine lv_iload_n hx hb dL_law_298 rfl (lv_at hl 0 rfl) ?_
  refine lv_iconst (v := 2) hx hb dL_law_299 (by decide) ?_
  refine lv_iadd hx hb dL_law_300 ?_
  refine va_sld hx hb hX hbl hbA hS (sx_in (k := 2) hi (by decide) hL) dL_law_301 ?_
  refine callMi (va_runV (As := [.int (xs (ix (nI i + 1))), .int (xs (ix (nI i + 2)))]) (rest := []) ⟨hx, hb, hml, hown, hts⟩ (k_X5_guest l D cI cL cS b s1 w1 m1 n1 s2 w2 m2 n2 s3 w3 m3 n3 ik bt ln tk sb en nm bits size num fnd (xs (ix (nI i + 1))) (xs (ix (nI i + 2))) hdk o1) (cwV 2 hts gL_law_X5_guest rfl rfl rfl (by decide +kernel) ⟨Nat.le_of_ble_eq_true rfl, Nat.le_of_ble_eq_true rfl⟩) ⟨PcR_fb, va_recv hK hP (ci := 3) (q0 := 0) rfl rfl, PcR_pre (va_seg hP 0 49 rfl) hK⟩ rfl rfl hl.1 rfl (lv_room (Nat.le_of_ble_eq_true rfl)) dL_law_302 ⟨Nat.le_of_ble_eq_true rfl, Nat.le_of_ble_eq_true rfl⟩) hP (hD _ rfl) hS 0 49 rfl (fun r1 u H locs h1 hP hS => ?_)
  obtain ⟨x1, x2, x3⟩ := u
  have hP : va_P D vwCl (kcw cI cL cS b x1 x2 m1 n1 s2 w2 m2 n2 s3 w3 m3 n3 ik bt ln tk sb en nm bits size num x3 ++ mdw cI cL bm (encS s1) fnd mo tr b1 bt ln so bg te wd va gd bits size (flat4 num) le im bf ik) H := hP
  refine lv_aload_n hx hb dL_law_305 rfl (lv_at hl 1 rfl) ?_
  refine lv_aload_n hx hb dL_law_306 rfl (lv_at hl 3 rfl) ?_
  refine lv_iload_n hx hb dL_law_307 rfl (lv_at hl 0 rfl) ?_
  refine lv_iconst (v := 1) hx hb dL_law_308 (by decide) ?_
  refine lv_iadd hx hb dL_law_309 ?_
  refine va_sld hx hb hX hbl hbA hS (sx_in (k := 1) hi (by decide) hL) dL_law_310 ?_
  refine lv_aload_n hx hb dL_law_311 rfl (lv_at hl 3 rfl) ?_
  refine lv_iload_n hx hb dL_law_312 rfl (lv_at hl 0 rfl) ?_
  refine lv_iconst (v := 2) hx hb dL_law_313 (by decide) ?_
  refine lv_iadd hx hb dL_law_314 ?_
  refine va_sld hx hb hX hbl hbA hS (sx_in (k := 2) hi (by decide) hL) dL_law_315 ?_
  refine callMi (va_runV (As := [.int (xs (ix (nI i + 1))), .int (xs (ix (nI i + 2)))]) (rest := [.int r1]) ⟨hx, hb, hml, hown, hts⟩ (k_X6_guest l D cI cL cS bm (sCo s1) (sGu s1) (sKn s1) (sFo s1) (sSp s1) (sKi s1) (sPl s1) (sEa s1) (sTo s1) (sQu s1) fnd mo tr b1 bt ln so bg te wd va gd bits size (flat4 num) le im bf ik (xs (ix (nI i + 1))) (xs (ix (nI i + 2))) hdm o1.1.cC) (cwV 2 hts gL_law_X6_guest rfl rfl rfl (by decide +kernel) ⟨Nat.le_of_ble_eq_true rfl, Nat.le_of_ble_eq_true rfl⟩) ⟨PcR_fb, va_recv hK hP (ci := 4) (q0 := 49) rfl rfl, PcR_pre (va_seg hP 49 13 rfl) hK⟩ rfl rfl hl.1 rfl (lv_room (Nat.le_of_ble_eq_true rfl)) dL_law_316 ⟨Nat.le_of_ble_eq_true rfl, Nat.le_of_ble_eq_true rfl⟩) hP (hD _ rfl) hS 49 13 rfl (fun r2 u H locs h2 hP hS => ?_)
  obtain ⟨y1, y2⟩ := u
  have hP : va_P D vwCl (kcw cI cL cS b x1 x2 m1 n1 s2 w2 m2 n2 s3 w3 m3 n3 ik bt ln tk sb en nm bits size num x3 ++ mdw cI cL bm (encS y1) y2 mo tr b1 bt ln so bg te wd va gd bits size (flat4 num) le im bf ik) H := hP
  have eq := (h1.1).trans (h2).symm
  have o9 := h1.2
  have eq : (r1, x1, x3) = (r2, y1, y2) := eq
  cases eq
  exact lv_icmp_eq (tgt := 1281) hx hb dL_law_319 (by decide) (fun _ => k H locs ⟨_, _, _, _, _, _, _, _, _, _, _, _, _, _, _, _, _, _, _, _, _, _, _, _, _, _, _, _, _, _, _, _, _, _, _, hP, o9, o3, oh, ol, hB, him⟩ hS) (fun q9 => absurd rfl q9)

set_option maxRecDepth 100000 in
set_option maxHeartbeats 4000000 in
theorem law_of {p : Program} {l : Launch} {e : Env} {s : State} {m : MethodId} {below : List Frame} {meth : Method} {c : Code} {a L : Nat} {xs : Nat → Int32} (hL : L ≤ 3072) (C0 : lw_At p s m meth c a L xs) {D : va_G} {cI cL cS : ClassId} {b : Nat → Nat → Nat} {bm ad av : Nat → Nat} {fm : Option Nat} (hK : va_K D vwCl (tyG cI cL cS) s) (hD0 : va_D (fun q : Nat => s.heap.size ≤ q) (djk b ++ dj0 bm 13)) (hZ : SX ad av fm (fun q : Nat => s.heap.size ≤ q) s s.heap) {H : Heap} {locs : List Loc} {ls : Array Slot} {i : Nat} (hI : LW D cI cL cS b bm H) (hS : va_S (fun q : Nat => s.heap.size ≤ q) s.heap H locs) (hi : i + 6 ≤ L) (hl : lv_has ls 4 [(3, .int (nI i)), (2, .ref (bm 0)), (1, .ref (b 0 0)), (0, .ref a)]) (k : ∀ (H : Heap) (locs : List Loc), LW D cI cL cS b bm H → va_S (fun q : Nat => s.heap.size ≤ q) s.heap H locs → W p l e room_1 s m #[Value.ref a] below meth c H locs 62 1366 (lw_Z below #[Value.ref a] s) (F0 m 1281 ls [])) : W p l e room_1 s m #[Value.ref a] below meth c H locs 62 1366 (lw_Z below #[Value.ref a] s) (F0 m 324 ls []) := by
  obtain ⟨hx, hb, hr, hml, hown, hts0, hX, hbl, hlocks, hgv⟩ := id C0
  have hown : s.vm.findClass RL = some m.cls := hown
  have hts : ∀ w ∈ wsL_law, w.before #[Value.ref a] s = true := fun w h => hts0 w (wsL_law_in w h)
  have hbA : ¬ (fun q : Nat => s.heap.size ≤ q) a := Nat.not_le.mpr hbl
  have hdk : va_D (fun _ => True) (djk b) := va_DT (va_segD hD0 0 49 rfl) rfl
  have hdm : va_D (fun _ => True) (dj0 bm 13) := va_DT (va_segD hD0 49 13 rfl) rfl
  have hD : ∀ ws' : va_W, ws'.map Prod.fst = (djk b ++ dj0 bm 13).map Prod.fst → va_D (fun q : Nat => s.heap.size ≤ q) ws' := fun ws' e => va_D_adr hD0 e
  obtain ⟨s1, w1, m1, n1, s2, w2, m2, n2, s3, w3, m3, n3, ik, bt, ln, tk, sb, en, nm, bits, size, num, fnd, mo, tr, b1, so, bg, te, wd, va, gd, le, im, bf, hP, o1, o3, oh, ol, hB, him⟩ := hI
  refine lv_aload_n hx hb dL_law_324 rfl (lv_at hl 2 rfl) ?_
  refine lv_aload_n hx hb dL_law_325 rfl (lv_at hl 3 rfl) ?_
  refine lv_iload_n hx hb dL_law_326 rfl (lv_at hl 0 rfl) ?_
  refine lv_iconst (v := 1) hx hb dL_law_327 (by decide) ?_
  refine lv_iadd hx hb dL_law_328 ?_
  refine va_sld hx hb hX hbl hbA hS (sx_in (k := 1) hi (by decide) hL) dL_law_329 ?_
  refine lv_aload_n hx hb dL_law_330 rfl (lv_at hl 3 rfl) ?_
  refine lv_iload_n hx hb dL_law_331 rfl (lv_at hl 0 rfl) ?_
  refine lv_iconst (v := 2) hx hb dL_law_332 (by decide) ?_
  refine lv_iadd hx hb dL_law_333 ?_
  refine va_sld hx hb hX hbl hbA hS (sx_in (k := 2) hi (by decide) hL) dL_law_334 ?_
  refine callMi (va_runV (As := [.int (xs (ix (nI i + 1))), .int (xs (ix (nI i + 2)))]) (rest := []) ⟨hx, hb, hml, hown, hts⟩ (k_X5_of l D cI cL cS b s1 w1 m1 n1 s2 w2 m2 n2 s3 w3 m3 n3 ik bt ln tk sb en nm bits size num fnd (xs (ix (nI i + 1))) (xs (ix (nI i + 2))) hdk o1) (cwV 2 hts gL_law_X5_of rfl rfl rfl (by decide +kernel) ⟨Nat.le_of_ble_eq_true rfl, Nat.le_of_ble_eq_true rfl⟩) ⟨PcR_fb, va_recv hK hP (ci := 3) (q0 := 0) rfl rfl, PcR_pre (va_seg hP 0 49 rfl) hK⟩ rfl rfl hl.1 rfl (lv_room (Nat.le_of_ble_eq_true rfl)) dL_law_335 ⟨Nat.le_of_ble_eq_true rfl, Nat.le_of_ble_eq_true rfl⟩) hP (hD _ rfl) hS 0 49 rfl (fun r1 u H locs h1 hP hS => ?_)
  obtain ⟨x1, rfl⟩ : ∃ z, z = u := ⟨_, rfl⟩
  have hP : va_P D vwCl (kcw cI cL cS b s1 w1 m1 n1 s2 w2 m2 n2 s3 w3 m3 n3 ik bt ln tk sb en nm bits size num x1 ++ mdw cI cL bm (encS s1) fnd mo tr b1 bt ln so bg te wd va gd bits size (flat4 num) le im bf ik) H := hP
  refine lv_aload_n hx hb dL_law_338 rfl (lv_at hl 1 rfl) ?_
  refine lv_aload_n hx hb dL_law_339 rfl (lv_at hl 3 rfl) ?_
  refine lv_iload_n hx hb dL_law_340 rfl (lv_at hl 0 rfl) ?_
  refine lv_iconst (v := 1) hx hb dL_law_341 (by decide) ?_
  refine lv_iadd hx hb dL_law_342 ?_
  refine va_sld hx hb hX hbl hbA hS (sx_in (k := 1) hi (by decide) hL) dL_law_343 ?_
  refine lv_aload_n hx hb dL_law_344 rfl (lv_at hl 3 rfl) ?_
  refine lv_iload_n hx hb dL_law_345 rfl (lv_at hl 0 rfl) ?_
  refine lv_iconst (v := 2) hx hb dL_law_346 (by decide) ?_
  refine lv_iadd hx hb dL_law_347 ?_
  refine va_sld hx hb hX hbl hbA hS (sx_in (k := 2) hi (by decide) hL) dL_law_348 ?_
  refine callMi (va_runV (As := [.int (xs (ix (nI i + 1))), .int (xs (ix (nI i + 2)))]) (rest := [.int r1]) ⟨hx, hb, hml, hown, hts⟩ (k_X6_of l D cI cL cS bm (sCo s1) (sGu s1) (sKn s1) (sFo s1) (sSp s1) (sKi s1) (sPl s1) (sEa s1) (sTo s1) (sQu s1) fnd mo tr b1 bt ln so bg te wd va gd bits size (flat4 num) le im bf ik (xs (ix (nI i + 1))) (xs (ix (nI i + 2))) hdm o1.1.cC) (cwV 2 hts gL_law_X6_of rfl rfl rfl (by decide +kernel) ⟨Nat.le_of_ble_eq_true rfl, Nat.le_of_ble_eq_true rfl⟩) ⟨PcR_fb, va_recv hK hP (ci := 4) (q0 := 49) rfl rfl, PcR_pre (va_seg hP 49 13 rfl) hK⟩ rfl rfl hl.1 rfl (lv_room (Nat.le_of_ble_eq_true rfl)) dL_law_349 ⟨Nat.le_of_ble_eq_true rfl, Nat.le_of_ble_eq_true rfl⟩) hP (hD _ rfl) hS 49 13 rfl (fun r2 u H locs h2 hP hS => ?_)
  obtain ⟨y1, rfl⟩ : ∃ z, z = u := ⟨_, rfl⟩
  have hP : va_P D vwCl (kcw cI cL cS b s1 w1 m1 n1 s2 w2 m2 n2 s3 w3 m3 n3 ik bt ln tk sb en nm bits size num x1 ++ mdw cI cL bm (encS s1) y1 mo tr b1 bt ln so bg te wd va gd bits size (flat4 num) le im bf ik) H := hP
  have eq := (h1).trans (h2).symm
  have eq : (r1, x1) = (r2, y1) := eq
  cases eq
  exact lv_icmp_eq (tgt := 1281) hx hb dL_law_352 (by decide) (fun _ => k H locs ⟨_, _, _, _, _, _, _, _, _, _, _, _, _, _, _, _, _, _, _, _, _, _, _, _, _, _, _, _, _, _, _, _, _, _, _, hP, o1, o3, oh, ol, hB, him⟩ hS) (fun q9 => absurd rfl q9)

set_option maxRecDepth 100000 in
set_option maxHeartbeats 4000000 in
theorem law_set {p : Program} {l : Launch} {e : Env} {s : State} {m : MethodId} {below : List Frame} {meth : Method} {c : Code} {a L : Nat} {xs : Nat → Int32} (hL : L ≤ 3072) (C0 : lw_At p s m meth c a L xs) {D : va_G} {cI cL cS : ClassId} {b : Nat → Nat → Nat} {bm ad av : Nat → Nat} {fm : Option Nat} (hK : va_K D vwCl (tyG cI cL cS) s) (hD0 : va_D (fun q : Nat => s.heap.size ≤ q) (djk b ++ dj0 bm 13)) (hZ : SX ad av fm (fun q : Nat => s.heap.size ≤ q) s s.heap) {H : Heap} {locs : List Loc} {ls : Array Slot} {i : Nat} (hI : LW D cI cL cS b bm H) (hS : va_S (fun q : Nat => s.heap.size ≤ q) s.heap H locs) (hi : i + 6 ≤ L) (hl : lv_has ls 4 [(3, .int (nI i)), (2, .ref (bm 0)), (1, .ref (b 0 0)), (0, .ref a)]) (k : ∀ (H : Heap) (locs : List Loc), LW D cI cL cS b bm H → va_S (fun q : Nat => s.heap.size ≤ q) s.heap H locs → W p l e room_1 s m #[Value.ref a] below meth c H locs 62 1366 (lw_Z below #[Value.ref a] s) (F0 m 1281 ls [])) : W p l e room_1 s m #[Value.ref a] below meth c H locs 62 1366 (lw_Z below #[Value.ref a] s) (F0 m 357 ls []) := by
  obtain ⟨hx, hb, hr, hml, hown, hts0, hX, hbl, hlocks, hgv⟩ := id C0
  have hown : s.vm.findClass RL = some m.cls := hown
  have hts : ∀ w ∈ wsL_law, w.before #[Value.ref a] s = true := fun w h => hts0 w (wsL_law_in w h)
  have hbA : ¬ (fun q : Nat => s.heap.size ≤ q) a := Nat.not_le.mpr hbl
  have hdk : va_D (fun _ => True) (djk b) := va_DT (va_segD hD0 0 49 rfl) rfl
  have hdm : va_D (fun _ => True) (dj0 bm 13) := va_DT (va_segD hD0 49 13 rfl) rfl
  have hD : ∀ ws' : va_W, ws'.map Prod.fst = (djk b ++ dj0 bm 13).map Prod.fst → va_D (fun q : Nat => s.heap.size ≤ q) ws' := fun ws' e => va_D_adr hD0 e
  obtain ⟨s1, w1, m1, n1, s2, w2, m2, n2, s3, w3, m3, n3, ik, bt, ln, tk, sb, en, nm, bits, size, num, fnd, mo, tr, b1, so, bg, te, wd, va, gd, le, im, bf, hP, o1, o3, oh, ol, hB, him⟩ := hI
  refine lv_aload_n hx hb dL_law_357 rfl (lv_at hl 2 rfl) ?_
  refine lv_aload_n hx hb dL_law_358 rfl (lv_at hl 3 rfl) ?_
  refine lv_iload_n hx hb dL_law_359 rfl (lv_at hl 0 rfl) ?_
  refine lv_iconst (v := 1) hx hb dL_law_360 (by decide) ?_
  refine lv_iadd hx hb dL_law_361 ?_
  refine va_sld hx hb hX hbl hbA hS (sx_in (k := 1) hi (by decide) hL) dL_law_362 ?_
  refine lv_aload_n hx hb dL_law_363 rfl (lv_at hl 3 rfl) ?_
  refine lv_iload_n hx hb dL_law_364 rfl (lv_at hl 0 rfl) ?_
  refine lv_iconst (v := 2) hx hb dL_law_365 (by decide) ?_
  refine lv_iadd hx hb dL_law_366 ?_
  refine va_sld hx hb hX hbl hbA hS (sx_in (k := 2) hi (by decide) hL) dL_law_367 ?_
  refine lv_aload_n hx hb dL_law_368 rfl (lv_at hl 3 rfl) ?_
  refine lv_iload_n hx hb dL_law_369 rfl (lv_at hl 0 rfl) ?_
  refine lv_iconst (v := 3) hx hb dL_law_370 (by decide) ?_
  refine lv_iadd hx hb dL_law_371 ?_
  refine va_sld hx hb hX hbl hbA hS (sx_in (k := 3) hi (by decide) hL) dL_law_372 ?_
  refine callMi (va_runV (As := [.int (xs (ix (nI i + 1))), .int (xs (ix (nI i + 2))), .int (xs (ix (nI i + 3)))]) (rest := []) ⟨hx, hb, hml, hown, hts⟩ (k_X5_set l D cI cL cS b s1 w1 m1 n1 s2 w2 m2 n2 s3 w3 m3 n3 ik bt ln tk sb en nm bits size num fnd (xs (ix (nI i + 1))) (xs (ix (nI i + 2))) (xs (ix (nI i + 3))) hdk o1) (cwV 3 hts gL_law_X5_set rfl rfl rfl (by decide +kernel) ⟨Nat.le_of_ble_eq_true rfl, Nat.le_of_ble_eq_true rfl⟩) ⟨PcR_fb, va_recv hK hP (ci := 3) (q0 := 0) rfl rfl, PcR_pre (va_seg hP 0 49 rfl) hK⟩ rfl rfl hl.1 rfl (lv_room (Nat.le_of_ble_eq_true rfl)) dL_law_373 ⟨Nat.le_of_ble_eq_true rfl, Nat.le_of_ble_eq_true rfl⟩) hP (hD _ rfl) hS 0 49 rfl (fun r1 u H locs h1 hP hS => ?_)
  obtain ⟨x1, x2⟩ := u
  have hP : va_P D vwCl (kcw cI cL cS b x1 w1 m1 n1 s2 w2 m2 n2 s3 w3 m3 n3 ik bt ln tk sb en nm bits size num x2 ++ mdw cI cL bm (encS s1) fnd mo tr b1 bt ln so bg te wd va gd bits size (flat4 num) le im bf ik) H := hP
  refine lv_aload_n hx hb dL_law_376 rfl (lv_at hl 1 rfl) ?_
  refine lv_aload_n hx hb dL_law_377 rfl (lv_at hl 3 rfl) ?_
  refine lv_iload_n hx hb dL_law_378 rfl (lv_at hl 0 rfl) ?_
  refine lv_iconst (v := 1) hx hb dL_law_379 (by decide) ?_
  refine lv_iadd hx hb dL_law_380 ?_
  refine va_sld hx hb hX hbl hbA hS (sx_in (k := 1) hi (by decide) hL) dL_law_381 ?_
  refine lv_aload_n hx hb dL_law_382 rfl (lv_at hl 3 rfl) ?_
  refine lv_iload_n hx hb dL_law_383 rfl (lv_at hl 0 rfl) ?_
  refine lv_iconst (v := 2) hx hb dL_law_384 (by decide) ?_
  refine lv_iadd hx hb dL_law_385 ?_
  refine va_sld hx hb hX hbl hbA hS (sx_in (k := 2) hi (by decide) hL) dL_law_386 ?_
  refine lv_aload_n hx hb dL_law_387 rfl (lv_at hl 3 rfl) ?_
  refine lv_iload_n hx hb dL_law_388 rfl (lv_at hl 0 rfl) ?_
  refine lv_iconst (v := 3) hx hb dL_law_389 (by decide) ?_
  refine lv_iadd hx hb dL_law_390 ?_
  refine va_sld hx hb hX hbl hbA hS (sx_in (k := 3) hi (by decide) hL) dL_law_391 ?_
  refine callMi (va_runV (As := [.int (xs (ix (nI i + 1))), .int (xs (ix (nI i + 2))), .int (xs (ix (nI i + 3)))]) (rest := [.int r1]) ⟨hx, hb, hml, hown, hts⟩ (k_X6_set l D cI cL cS bm (sCo s1) (sGu s1) (sKn s1) (sFo s1) (sSp s1) (sKi s1) (sPl s1) (sEa s1) (sTo s1) (sQu s1) fnd mo tr b1 bt ln so bg te wd va gd bits size (flat4 num) le im bf ik (xs (ix (nI i + 1))) (xs (ix (nI i + 2))) (xs (ix (nI i + 3))) hdm o1.1.cC) (cwV 3 hts gL_law_X6_set rfl rfl rfl (by decide +kernel) ⟨Nat.le_of_ble_eq_true rfl, Nat.le_of_ble_eq_true rfl⟩) ⟨PcR_fb, va_recv hK hP (ci := 4) (q0 := 49) rfl rfl, PcR_pre (va_seg hP 49 13 rfl) hK⟩ rfl rfl hl.1 rfl (lv_room (Nat.le_of_ble_eq_true rfl)) dL_law_392 ⟨Nat.le_of_ble_eq_true rfl, Nat.le_of_ble_eq_true rfl⟩) hP (hD _ rfl) hS 49 13 rfl (fun r2 u H locs h2 hP hS => ?_)
  obtain ⟨y1, y2⟩ := u
  have hP : va_P D vwCl (kcw cI cL cS b x1 w1 m1 n1 s2 w2 m2 n2 s3 w3 m3 n3 ik bt ln tk sb en nm bits size num x2 ++ mdw cI cL bm (encS y1) y2 mo tr b1 bt ln so bg te wd va gd bits size (flat4 num) le im bf ik) H := hP
  have eq := (h1.1).trans (h2).symm
  have o9 := h1.2
  have eq : (r1, x1, x2) = (r2, y1, y2) := eq
  cases eq
  exact lv_icmp_eq (tgt := 1281) hx hb dL_law_395 (by decide) (fun _ => k H locs ⟨_, _, _, _, _, _, _, _, _, _, _, _, _, _, _, _, _, _, _, _, _, _, _, _, _, _, _, _, _, _, _, _, _, _, _, hP, o9, o3, oh, ol, hB, him⟩ hS) (fun q9 => absurd rfl q9)

set_option maxRecDepth 100000 in
set_option maxHeartbeats 4000000 in
theorem law_seat {p : Program} {l : Launch} {e : Env} {s : State} {m : MethodId} {below : List Frame} {meth : Method} {c : Code} {a L : Nat} {xs : Nat → Int32} (hL : L ≤ 3072) (C0 : lw_At p s m meth c a L xs) {D : va_G} {cI cL cS : ClassId} {b : Nat → Nat → Nat} {bm ad av : Nat → Nat} {fm : Option Nat} (hK : va_K D vwCl (tyG cI cL cS) s) (hD0 : va_D (fun q : Nat => s.heap.size ≤ q) (djk b ++ dj0 bm 13)) (hZ : SX ad av fm (fun q : Nat => s.heap.size ≤ q) s s.heap) {H : Heap} {locs : List Loc} {ls : Array Slot} {i : Nat} (hI : LW D cI cL cS b bm H) (hS : va_S (fun q : Nat => s.heap.size ≤ q) s.heap H locs) (hi : i + 6 ≤ L) (hl : lv_has ls 4 [(3, .int (nI i)), (2, .ref (bm 0)), (1, .ref (b 0 0)), (0, .ref a)]) (k : ∀ (H : Heap) (locs : List Loc), LW D cI cL cS b bm H → va_S (fun q : Nat => s.heap.size ≤ q) s.heap H locs → W p l e room_1 s m #[Value.ref a] below meth c H locs 62 1366 (lw_Z below #[Value.ref a] s) (F0 m 1281 ls [])) : W p l e room_1 s m #[Value.ref a] below meth c H locs 62 1366 (lw_Z below #[Value.ref a] s) (F0 m 400 ls []) := by
  obtain ⟨hx, hb, hr, hml, hown, hts0, hX, hbl, hlocks, hgv⟩ := id C0
  have hown : s.vm.findClass RL = some m.cls := hown
  have hts : ∀ w ∈ wsL_law, w.before #[Value.ref a] s = true := fun w h => hts0 w (wsL_law_in w h)
  have hbA : ¬ (fun q : Nat => s.heap.size ≤ q) a := Nat.not_le.mpr hbl
  have hdk : va_D (fun _ => True) (djk b) := va_DT (va_segD hD0 0 49 rfl) rfl
  have hdm : va_D (fun _ => True) (dj0 bm 13) := va_DT (va_segD hD0 49 13 rfl) rfl
  have hD : ∀ ws' : va_W, ws'.map Prod.fst = (djk b ++ dj0 bm 13).map Prod.fst → va_D (fun q : Nat => s.heap.size ≤ q) ws' := fun ws' e => va_D_adr hD0 e
  obtain ⟨s1, w1, m1, n1, s2, w2, m2, n2, s3, w3, m3, n3, ik, bt, ln, tk, sb, en, nm, bits, size, num, fnd, mo, tr, b1, so, bg, te, wd, va, gd, le, im, bf, hP, o1, o3, oh, ol, hB, him⟩ := hI
  refine lv_aload_n hx hb dL_law_400 rfl (lv_at hl 2 rfl) ?_
  refine lv_aload_n hx hb dL_law_401 rfl (lv_at hl 3 rfl) ?_
  refine lv_iload_n hx hb dL_law_402 rfl (lv_at hl 0 rfl) ?_
  refine lv_iconst (v := 1) hx hb dL_law_403 (by decide) ?_
  refine lv_iadd hx hb dL_law_404 ?_
  refine va_sld hx hb hX hbl hbA hS (sx_in (k := 1) hi (by decide) hL) dL_law_405 ?_
  refine lv_aload_n hx hb dL_law_406 rfl (lv_at hl 3 rfl) ?_
  refine lv_iload_n hx hb dL_law_407 rfl (lv_at hl 0 rfl) ?_
  refine lv_iconst (v := 2) hx hb dL_law_408 (by decide) ?_
  refine lv_iadd hx hb dL_law_409 ?_
  refine va_sld hx hb hX hbl hbA hS (sx_in (k := 2) hi (by decide) hL) dL_law_410 ?_
  refine callMi (va_runV (As := [.int (xs (ix (nI i + 1))), .int (xs (ix (nI i + 2)))]) (rest := []) ⟨hx, hb, hml, hown, hts⟩ (k_X5_seat l D cI cL cS b s1 w1 m1 n1 s2 w2 m2 n2 s3 w3 m3 n3 ik bt ln tk sb en nm bits size num fnd (xs (ix (nI i + 1))) (xs (ix (nI i + 2))) hdk o1) (cwV 2 hts gL_law_X5_seat rfl rfl rfl (by decide +kernel) ⟨Nat.le_of_ble_eq_true rfl, Nat.le_of_ble_eq_true rfl⟩) ⟨PcR_fb, va_recv hK hP (ci := 3) (q0 := 0) rfl rfl, PcR_pre (va_seg hP 0 49 rfl) hK⟩ rfl rfl hl.1 rfl (lv_room (Nat.le_of_ble_eq_true rfl)) dL_law_411 ⟨Nat.le_of_ble_eq_true rfl, Nat.le_of_ble_eq_true rfl⟩) hP (hD _ rfl) hS 0 49 rfl (fun r1 u H locs h1 hP hS => ?_)
  obtain ⟨x1, x2, x3⟩ := u
  have hP : va_P D vwCl (kcw cI cL cS b x1 x2 m1 n1 s2 w2 m2 n2 s3 w3 m3 n3 ik bt ln tk sb en nm bits size num x3 ++ mdw cI cL bm (encS s1) fnd mo tr b1 bt ln so bg te wd va gd bits size (flat4 num) le im bf ik) H := hP
  refine lv_aload_n hx hb dL_law_414 rfl (lv_at hl 1 rfl) ?_
  refine lv_aload_n hx hb dL_law_415 rfl (lv_at hl 3 rfl) ?_
  refine lv_iload_n hx hb dL_law_416 rfl (lv_at hl 0 rfl) ?_
  refine lv_iconst (v := 1) hx hb dL_law_417 (by decide) ?_
  refine lv_iadd hx hb dL_law_418 ?_
  refine va_sld hx hb hX hbl hbA hS (sx_in (k := 1) hi (by decide) hL) dL_law_419 ?_
  refine lv_aload_n hx hb dL_law_420 rfl (lv_at hl 3 rfl) ?_
  refine lv_iload_n hx hb dL_law_421 rfl (lv_at hl 0 rfl) ?_
  refine lv_iconst (v := 2) hx hb dL_law_422 (by decide) ?_
  refine lv_iadd hx hb dL_law_423 ?_
  refine va_sld hx hb hX hbl hbA hS (sx_in (k := 2) hi (by decide) hL) dL_law_424 ?_
  refine callMi (va_runV (As := [.int (xs (ix (nI i + 1))), .int (xs (ix (nI i + 2)))]) (rest := [.int r1]) ⟨hx, hb, hml, hown, hts⟩ (k_X6_seat l D cI cL cS bm (sCo s1) (sGu s1) (sKn s1) (sFo s1) (sSp s1) (sKi s1) (sPl s1) (sEa s1) (sTo s1) (sQu s1) fnd mo tr b1 bt ln so bg te wd va gd bits size (flat4 num) le im bf ik (xs (ix (nI i + 1))) (xs (ix (nI i + 2))) hdm o1.1.cC) (cwV 2 hts gL_law_X6_seat rfl rfl rfl (by decide +kernel) ⟨Nat.le_of_ble_eq_true rfl, Nat.le_of_ble_eq_true rfl⟩) ⟨PcR_fb, va_recv hK hP (ci := 4) (q0 := 49) rfl rfl, PcR_pre (va_seg hP 49 13 rfl) hK⟩ rfl rfl hl.1 rfl (lv_room (Nat.le_of_ble_eq_true rfl)) dL_law_425 ⟨Nat.le_of_ble_eq_true rfl, Nat.le_of_ble_eq_true rfl⟩) hP (hD _ rfl) hS 49 13 rfl (fun r2 u H locs h2 hP hS => ?_)
  obtain ⟨y1, y2⟩ := u
  have hP : va_P D vwCl (kcw cI cL cS b x1 x2 m1 n1 s2 w2 m2 n2 s3 w3 m3 n3 ik bt ln tk sb en nm bits size num x3 ++ mdw cI cL bm (encS y1) y2 mo tr b1 bt ln so bg te wd va gd bits size (flat4 num) le im bf ik) H := hP
  have eq := (h1.1).trans (h2).symm
  have o9 := h1.2
  have eq : (r1, x1, x3) = (r2, y1, y2) := eq
  cases eq
  exact lv_icmp_eq (tgt := 1281) hx hb dL_law_428 (by decide) (fun _ => k H locs ⟨_, _, _, _, _, _, _, _, _, _, _, _, _, _, _, _, _, _, _, _, _, _, _, _, _, _, _, _, _, _, _, _, _, _, _, hP, o9, o3, oh, ol, hB, him⟩ hS) (fun q9 => absurd rfl q9)

set_option maxRecDepth 100000 in
set_option maxHeartbeats 4000000 in
theorem law_swap {p : Program} {l : Launch} {e : Env} {s : State} {m : MethodId} {below : List Frame} {meth : Method} {c : Code} {a L : Nat} {xs : Nat → Int32} (hL : L ≤ 3072) (C0 : lw_At p s m meth c a L xs) {D : va_G} {cI cL cS : ClassId} {b : Nat → Nat → Nat} {bm ad av : Nat → Nat} {fm : Option Nat} (hK : va_K D vwCl (tyG cI cL cS) s) (hD0 : va_D (fun q : Nat => s.heap.size ≤ q) (djk b ++ dj0 bm 13)) (hZ : SX ad av fm (fun q : Nat => s.heap.size ≤ q) s s.heap) {H : Heap} {locs : List Loc} {ls : Array Slot} {i : Nat} (hI : LW D cI cL cS b bm H) (hS : va_S (fun q : Nat => s.heap.size ≤ q) s.heap H locs) (hi : i + 6 ≤ L) (hl : lv_has ls 4 [(3, .int (nI i)), (2, .ref (bm 0)), (1, .ref (b 0 0)), (0, .ref a)]) (k : ∀ (H : Heap) (locs : List Loc), LW D cI cL cS b bm H → va_S (fun q : Nat => s.heap.size ≤ q) s.heap H locs → W p l e room_1 s m #[Value.ref a] below meth c H locs 62 1366 (lw_Z below #[Value.ref a] s) (F0 m 1281 ls [])) : W p l e room_1 s m #[Value.ref a] below meth c H locs 62 1366 (lw_Z below #[Value.ref a] s) (F0 m 433 ls []) := by
  obtain ⟨hx, hb, hr, hml, hown, hts0, hX, hbl, hlocks, hgv⟩ := id C0
  have hown : s.vm.findClass RL = some m.cls := hown
  have hts : ∀ w ∈ wsL_law, w.before #[Value.ref a] s = true := fun w h => hts0 w (wsL_law_in w h)
  have hbA : ¬ (fun q : Nat => s.heap.size ≤ q) a := Nat.not_le.mpr hbl
  have hdk : va_D (fun _ => True) (djk b) := va_DT (va_segD hD0 0 49 rfl) rfl
  have hdm : va_D (fun _ => True) (dj0 bm 13) := va_DT (va_segD hD0 49 13 rfl) rfl
  have hD : ∀ ws' : va_W, ws'.map Prod.fst = (djk b ++ dj0 bm 13).map Prod.fst → va_D (fun q : Nat => s.heap.size ≤ q) ws' := fun ws' e => va_D_adr hD0 e
  obtain ⟨s1, w1, m1, n1, s2, w2, m2, n2, s3, w3, m3, n3, ik, bt, ln, tk, sb, en, nm, bits, size, num, fnd, mo, tr, b1, so, bg, te, wd, va, gd, le, im, bf, hP, o1, o3, oh, ol, hB, him⟩ := hI
  refine lv_aload_n hx hb dL_law_433 rfl (lv_at hl 2 rfl) ?_
  refine lv_aload_n hx hb dL_law_434 rfl (lv_at hl 3 rfl) ?_
  refine lv_iload_n hx hb dL_law_435 rfl (lv_at hl 0 rfl) ?_
  refine lv_iconst (v := 1) hx hb dL_law_436 (by decide) ?_
  refine lv_iadd hx hb dL_law_437 ?_
  refine va_sld hx hb hX hbl hbA hS (sx_in (k := 1) hi (by decide) hL) dL_law_438 ?_
  refine lv_aload_n hx hb dL_law_439 rfl (lv_at hl 3 rfl) ?_
  refine lv_iload_n hx hb dL_law_440 rfl (lv_at hl 0 rfl) ?_
  refine lv_iconst (v := 2) hx hb dL_law_441 (by decide) ?_
  refine lv_iadd hx hb dL_law_442 ?_
  refine va_sld hx hb hX hbl hbA hS (sx_in (k := 2) hi (by decide) hL) dL_law_443 ?_
  refine callMi (va_runV (As := [.int (xs (ix (nI i + 1))), .int (xs (ix (nI i + 2)))]) (rest := []) ⟨hx, hb, hml, hown, hts⟩ (k_X5_swap l D cI cL cS b s1 w1 m1 n1 s2 w2 m2 n2 s3 w3 m3 n3 ik bt ln tk sb en nm bits size num fnd (xs (ix (nI i + 1))) (xs (ix (nI i + 2))) hdk o1) (cwV 2 hts gL_law_X5_swap rfl rfl rfl (by decide +kernel) ⟨Nat.le_of_ble_eq_true rfl, Nat.le_of_ble_eq_true rfl⟩) ⟨PcR_fb, va_recv hK hP (ci := 3) (q0 := 0) rfl rfl, PcR_pre (va_seg hP 0 49 rfl) hK⟩ rfl rfl hl.1 rfl (lv_room (Nat.le_of_ble_eq_true rfl)) dL_law_444 ⟨Nat.le_of_ble_eq_true rfl, Nat.le_of_ble_eq_true rfl⟩) hP (hD _ rfl) hS 0 49 rfl (fun r1 u H locs h1 hP hS => ?_)
  obtain ⟨x1, x2, x3⟩ := u
  have hP : va_P D vwCl (kcw cI cL cS b x1 x2 m1 n1 s2 w2 m2 n2 s3 w3 m3 n3 ik bt ln tk sb en nm bits size num x3 ++ mdw cI cL bm (encS s1) fnd mo tr b1 bt ln so bg te wd va gd bits size (flat4 num) le im bf ik) H := hP
  refine lv_aload_n hx hb dL_law_447 rfl (lv_at hl 1 rfl) ?_
  refine lv_aload_n hx hb dL_law_448 rfl (lv_at hl 3 rfl) ?_
  refine lv_iload_n hx hb dL_law_449 rfl (lv_at hl 0 rfl) ?_
  refine lv_iconst (v := 1) hx hb dL_law_450 (by decide) ?_
  refine lv_iadd hx hb dL_law_451 ?_
  refine va_sld hx hb hX hbl hbA hS (sx_in (k := 1) hi (by decide) hL) dL_law_452 ?_
  refine lv_aload_n hx hb dL_law_453 rfl (lv_at hl 3 rfl) ?_
  refine lv_iload_n hx hb dL_law_454 rfl (lv_at hl 0 rfl) ?_
  refine lv_iconst (v := 2) hx hb dL_law_455 (by decide) ?_
  refine lv_iadd hx hb dL_law_456 ?_
  refine va_sld hx hb hX hbl hbA hS (sx_in (k := 2) hi (by decide) hL) dL_law_457 ?_
  refine callMi (va_runV (As := [.int (xs (ix (nI i + 1))), .int (xs (ix (nI i + 2)))]) (rest := [.int r1]) ⟨hx, hb, hml, hown, hts⟩ (k_X6_swap l D cI cL cS bm (sCo s1) (sGu s1) (sKn s1) (sFo s1) (sSp s1) (sKi s1) (sPl s1) (sEa s1) (sTo s1) (sQu s1) fnd mo tr b1 bt ln so bg te wd va gd bits size (flat4 num) le im bf ik (xs (ix (nI i + 1))) (xs (ix (nI i + 2))) hdm o1.1.cC) (cwV 2 hts gL_law_X6_swap rfl rfl rfl (by decide +kernel) ⟨Nat.le_of_ble_eq_true rfl, Nat.le_of_ble_eq_true rfl⟩) ⟨PcR_fb, va_recv hK hP (ci := 4) (q0 := 49) rfl rfl, PcR_pre (va_seg hP 49 13 rfl) hK⟩ rfl rfl hl.1 rfl (lv_room (Nat.le_of_ble_eq_true rfl)) dL_law_458 ⟨Nat.le_of_ble_eq_true rfl, Nat.le_of_ble_eq_true rfl⟩) hP (hD _ rfl) hS 49 13 rfl (fun r2 u H locs h2 hP hS => ?_)
  obtain ⟨y1, y2⟩ := u
  have hP : va_P D vwCl (kcw cI cL cS b x1 x2 m1 n1 s2 w2 m2 n2 s3 w3 m3 n3 ik bt ln tk sb en nm bits size num x3 ++ mdw cI cL bm (encS y1) y2 mo tr b1 bt ln so bg te wd va gd bits size (flat4 num) le im bf ik) H := hP
  have eq := (h1.1).trans (h2).symm
  have o9 := h1.2
  have eq : (r1, x1, x3) = (r2, y1, y2) := eq
  cases eq
  exact lv_icmp_eq (tgt := 1281) hx hb dL_law_461 (by decide) (fun _ => k H locs ⟨_, _, _, _, _, _, _, _, _, _, _, _, _, _, _, _, _, _, _, _, _, _, _, _, _, _, _, _, _, _, _, _, _, _, _, hP, o9, o3, oh, ol, hB, him⟩ hS) (fun q9 => absurd rfl q9)

set_option maxRecDepth 100000 in
set_option maxHeartbeats 4000000 in
theorem law_turn {p : Program} {l : Launch} {e : Env} {s : State} {m : MethodId} {below : List Frame} {meth : Method} {c : Code} {a L : Nat} {xs : Nat → Int32} (hL : L ≤ 3072) (C0 : lw_At p s m meth c a L xs) {D : va_G} {cI cL cS : ClassId} {b : Nat → Nat → Nat} {bm ad av : Nat → Nat} {fm : Option Nat} (hK : va_K D vwCl (tyG cI cL cS) s) (hD0 : va_D (fun q : Nat => s.heap.size ≤ q) (djk b ++ dj0 bm 13)) (hZ : SX ad av fm (fun q : Nat => s.heap.size ≤ q) s s.heap) {H : Heap} {locs : List Loc} {ls : Array Slot} {i : Nat} (hI : LW D cI cL cS b bm H) (hS : va_S (fun q : Nat => s.heap.size ≤ q) s.heap H locs) (hi : i + 6 ≤ L) (hl : lv_has ls 4 [(3, .int (nI i)), (2, .ref (bm 0)), (1, .ref (b 0 0)), (0, .ref a)]) (k : ∀ (H : Heap) (locs : List Loc), LW D cI cL cS b bm H → va_S (fun q : Nat => s.heap.size ≤ q) s.heap H locs → W p l e room_1 s m #[Value.ref a] below meth c H locs 62 1366 (lw_Z below #[Value.ref a] s) (F0 m 1281 ls [])) : W p l e room_1 s m #[Value.ref a] below meth c H locs 62 1366 (lw_Z below #[Value.ref a] s) (F0 m 466 ls []) := by
  obtain ⟨hx, hb, hr, hml, hown, hts0, hX, hbl, hlocks, hgv⟩ := id C0
  have hown : s.vm.findClass RL = some m.cls := hown
  have hts : ∀ w ∈ wsL_law, w.before #[Value.ref a] s = true := fun w h => hts0 w (wsL_law_in w h)
  have hbA : ¬ (fun q : Nat => s.heap.size ≤ q) a := Nat.not_le.mpr hbl
  have hdk : va_D (fun _ => True) (djk b) := va_DT (va_segD hD0 0 49 rfl) rfl
  have hdm : va_D (fun _ => True) (dj0 bm 13) := va_DT (va_segD hD0 49 13 rfl) rfl
  have hD : ∀ ws' : va_W, ws'.map Prod.fst = (djk b ++ dj0 bm 13).map Prod.fst → va_D (fun q : Nat => s.heap.size ≤ q) ws' := fun ws' e => va_D_adr hD0 e
  obtain ⟨s1, w1, m1, n1, s2, w2, m2, n2, s3, w3, m3, n3, ik, bt, ln, tk, sb, en, nm, bits, size, num, fnd, mo, tr, b1, so, bg, te, wd, va, gd, le, im, bf, hP, o1, o3, oh, ol, hB, him⟩ := hI
  refine lv_aload_n hx hb dL_law_466 rfl (lv_at hl 2 rfl) ?_
  refine lv_aload_n hx hb dL_law_467 rfl (lv_at hl 3 rfl) ?_
  refine lv_iload_n hx hb dL_law_468 rfl (lv_at hl 0 rfl) ?_
  refine lv_iconst (v := 1) hx hb dL_law_469 (by decide) ?_
  refine lv_iadd hx hb dL_law_470 ?_
  refine va_sld hx hb hX hbl hbA hS (sx_in (k := 1) hi (by decide) hL) dL_law_471 ?_
  refine lv_aload_n hx hb dL_law_472 rfl (lv_at hl 3 rfl) ?_
  refine lv_iload_n hx hb dL_law_473 rfl (lv_at hl 0 rfl) ?_
  refine lv_iconst (v := 2) hx hb dL_law_474 (by decide) ?_
  refine lv_iadd hx hb dL_law_475 ?_
  refine va_sld hx hb hX hbl hbA hS (sx_in (k := 2) hi (by decide) hL) dL_law_476 ?_
  refine callMi (va_runV (As := [.int (xs (ix (nI i + 1))), .int (xs (ix (nI i + 2)))]) (rest := []) ⟨hx, hb, hml, hown, hts⟩ (k_X5_turn l D cI cL cS b s1 w1 m1 n1 s2 w2 m2 n2 s3 w3 m3 n3 ik bt ln tk sb en nm bits size num fnd (xs (ix (nI i + 1))) (xs (ix (nI i + 2))) hdk o1) (cwV 2 hts gL_law_X5_turn rfl rfl rfl (by decide +kernel) ⟨Nat.le_of_ble_eq_true rfl, Nat.le_of_ble_eq_true rfl⟩) ⟨PcR_fb, va_recv hK hP (ci := 3) (q0 := 0) rfl rfl, PcR_pre (va_seg hP 0 49 rfl) hK⟩ rfl rfl hl.1 rfl (lv_room (Nat.le_of_ble_eq_true rfl)) dL_law_477 ⟨Nat.le_of_ble_eq_true rfl, Nat.le_of_ble_eq_true rfl⟩) hP (hD _ rfl) hS 0 49 rfl (fun r1 u H locs h1 hP hS => ?_)
  obtain ⟨x1, x2⟩ := u
  have hP : va_P D vwCl (kcw cI cL cS b x1 w1 m1 n1 s2 w2 m2 n2 s3 w3 m3 n3 ik bt ln tk sb en nm bits size num x2 ++ mdw cI cL bm (encS s1) fnd mo tr b1 bt ln so bg te wd va gd bits size (flat4 num) le im bf ik) H := hP
  refine lv_aload_n hx hb dL_law_480 rfl (lv_at hl 1 rfl) ?_
  refine lv_aload_n hx hb dL_law_481 rfl (lv_at hl 3 rfl) ?_
  refine lv_iload_n hx hb dL_law_482 rfl (lv_at hl 0 rfl) ?_
  refine lv_iconst (v := 1) hx hb dL_law_483 (by decide) ?_
  refine lv_iadd hx hb dL_law_484 ?_
  refine va_sld hx hb hX hbl hbA hS (sx_in (k := 1) hi (by decide) hL) dL_law_485 ?_
  refine lv_aload_n hx hb dL_law_486 rfl (lv_at hl 3 rfl) ?_
  refine lv_iload_n hx hb dL_law_487 rfl (lv_at hl 0 rfl) ?_
  refine lv_iconst (v := 2) hx hb dL_law_488 (by decide) ?_
  refine lv_iadd hx hb dL_law_489 ?_
  refine va_sld hx hb hX hbl hbA hS (sx_in (k := 2) hi (by decide) hL) dL_law_490 ?_
  refine callMi (va_runV (As := [.int (xs (ix (nI i + 1))), .int (xs (ix (nI i + 2)))]) (rest := [.int r1]) ⟨hx, hb, hml, hown, hts⟩ (k_X6_turn l D cI cL cS bm (sCo s1) (sGu s1) (sKn s1) (sFo s1) (sSp s1) (sKi s1) (sPl s1) (sEa s1) (sTo s1) (sQu s1) fnd mo tr b1 bt ln so bg te wd va gd bits size (flat4 num) le im bf ik (xs (ix (nI i + 1))) (xs (ix (nI i + 2))) hdm o1.1.cC) (cwV 2 hts gL_law_X6_turn rfl rfl rfl (by decide +kernel) ⟨Nat.le_of_ble_eq_true rfl, Nat.le_of_ble_eq_true rfl⟩) ⟨PcR_fb, va_recv hK hP (ci := 4) (q0 := 49) rfl rfl, PcR_pre (va_seg hP 49 13 rfl) hK⟩ rfl rfl hl.1 rfl (lv_room (Nat.le_of_ble_eq_true rfl)) dL_law_491 ⟨Nat.le_of_ble_eq_true rfl, Nat.le_of_ble_eq_true rfl⟩) hP (hD _ rfl) hS 49 13 rfl (fun r2 u H locs h2 hP hS => ?_)
  obtain ⟨y1, y2⟩ := u
  have hP : va_P D vwCl (kcw cI cL cS b x1 w1 m1 n1 s2 w2 m2 n2 s3 w3 m3 n3 ik bt ln tk sb en nm bits size num x2 ++ mdw cI cL bm (encS y1) y2 mo tr b1 bt ln so bg te wd va gd bits size (flat4 num) le im bf ik) H := hP
  have eq := (h1.1).trans (h2).symm
  have o9 := h1.2
  have eq : (r1, x1, x2) = (r2, y1, y2) := eq
  cases eq
  exact lv_icmp_eq (tgt := 1281) hx hb dL_law_494 (by decide) (fun _ => k H locs ⟨_, _, _, _, _, _, _, _, _, _, _, _, _, _, _, _, _, _, _, _, _, _, _, _, _, _, _, _, _, _, _, _, _, _, _, hP, o9, o3, oh, ol, hB, him⟩ hS) (fun q9 => absurd rfl q9)

set_option maxRecDepth 100000 in
set_option maxHeartbeats 4000000 in
theorem law_as {p : Program} {l : Launch} {e : Env} {s : State} {m : MethodId} {below : List Frame} {meth : Method} {c : Code} {a L : Nat} {xs : Nat → Int32} (hL : L ≤ 3072) (C0 : lw_At p s m meth c a L xs) {D : va_G} {cI cL cS : ClassId} {b : Nat → Nat → Nat} {bm ad av : Nat → Nat} {fm : Option Nat} (hK : va_K D vwCl (tyG cI cL cS) s) (hD0 : va_D (fun q : Nat => s.heap.size ≤ q) (djk b ++ dj0 bm 13)) (hZ : SX ad av fm (fun q : Nat => s.heap.size ≤ q) s s.heap) {H : Heap} {locs : List Loc} {ls : Array Slot} {i : Nat} (hI : LW D cI cL cS b bm H) (hS : va_S (fun q : Nat => s.heap.size ≤ q) s.heap H locs) (hi : i + 6 ≤ L) (hl : lv_has ls 4 [(3, .int (nI i)), (2, .ref (bm 0)), (1, .ref (b 0 0)), (0, .ref a)]) (k : ∀ (H : Heap) (locs : List Loc), LW D cI cL cS b bm H → va_S (fun q : Nat => s.heap.size ≤ q) s.heap H locs → W p l e room_1 s m #[Value.ref a] below meth c H locs 62 1366 (lw_Z below #[Value.ref a] s) (F0 m 1281 ls [])) : W p l e room_1 s m #[Value.ref a] below meth c H locs 62 1366 (lw_Z below #[Value.ref a] s) (F0 m 499 ls []) := by
  obtain ⟨hx, hb, hr, hml, hown, hts0, hX, hbl, hlocks, hgv⟩ := id C0
  have hown : s.vm.findClass RL = some m.cls := hown
  have hts : ∀ w ∈ wsL_law, w.before #[Value.ref a] s = true := fun w h => hts0 w (wsL_law_in w h)
  have hbA : ¬ (fun q : Nat => s.heap.size ≤ q) a := Nat.not_le.mpr hbl
  have hdk : va_D (fun _ => True) (djk b) := va_DT (va_segD hD0 0 49 rfl) rfl
  have hdm : va_D (fun _ => True) (dj0 bm 13) := va_DT (va_segD hD0 49 13 rfl) rfl
  have hD : ∀ ws' : va_W, ws'.map Prod.fst = (djk b ++ dj0 bm 13).map Prod.fst → va_D (fun q : Nat => s.heap.size ≤ q) ws' := fun ws' e => va_D_adr hD0 e
  obtain ⟨s1, w1, m1, n1, s2, w2, m2, n2, s3, w3, m3, n3, ik, bt, ln, tk, sb, en, nm, bits, size, num, fnd, mo, tr, b1, so, bg, te, wd, va, gd, le, im, bf, hP, o1, o3, oh, ol, hB, him⟩ := hI
  refine lv_aload_n hx hb dL_law_499 rfl (lv_at hl 2 rfl) ?_
  refine lv_aload_n hx hb dL_law_500 rfl (lv_at hl 3 rfl) ?_
  refine lv_iload_n hx hb dL_law_501 rfl (lv_at hl 0 rfl) ?_
  refine lv_iconst (v := 1) hx hb dL_law_502 (by decide) ?_
  refine lv_iadd hx hb dL_law_503 ?_
  refine va_sld hx hb hX hbl hbA hS (sx_in (k := 1) hi (by decide) hL) dL_law_504 ?_
  refine lv_aload_n hx hb dL_law_505 rfl (lv_at hl 3 rfl) ?_
  refine lv_iload_n hx hb dL_law_506 rfl (lv_at hl 0 rfl) ?_
  refine lv_iconst (v := 2) hx hb dL_law_507 (by decide) ?_
  refine lv_iadd hx hb dL_law_508 ?_
  refine va_sld hx hb hX hbl hbA hS (sx_in (k := 2) hi (by decide) hL) dL_law_509 ?_
  refine callMi (va_runV (As := [.int (xs (ix (nI i + 1))), .int (xs (ix (nI i + 2)))]) (rest := []) ⟨hx, hb, hml, hown, hts⟩ (k_X5_as l D cI cL cS b s1 w1 m1 n1 s2 w2 m2 n2 s3 w3 m3 n3 ik bt ln tk sb en nm bits size num fnd (xs (ix (nI i + 1))) (xs (ix (nI i + 2))) hdk o1) (cwV 2 hts gL_law_X5_as rfl rfl rfl (by decide +kernel) ⟨Nat.le_of_ble_eq_true rfl, Nat.le_of_ble_eq_true rfl⟩) ⟨PcR_fb, va_recv hK hP (ci := 3) (q0 := 0) rfl rfl, PcR_pre (va_seg hP 0 49 rfl) hK⟩ rfl rfl hl.1 rfl (lv_room (Nat.le_of_ble_eq_true rfl)) dL_law_510 ⟨Nat.le_of_ble_eq_true rfl, Nat.le_of_ble_eq_true rfl⟩) hP (hD _ rfl) hS 0 49 rfl (fun r1 u H locs h1 hP hS => ?_)
  obtain ⟨x1, rfl⟩ : ∃ z, z = u := ⟨_, rfl⟩
  have hP : va_P D vwCl (kcw cI cL cS b s1 w1 m1 n1 s2 w2 m2 n2 s3 w3 m3 n3 ik bt ln tk sb en nm bits size num x1 ++ mdw cI cL bm (encS s1) fnd mo tr b1 bt ln so bg te wd va gd bits size (flat4 num) le im bf ik) H := hP
  refine lv_aload_n hx hb dL_law_513 rfl (lv_at hl 1 rfl) ?_
  refine lv_aload_n hx hb dL_law_514 rfl (lv_at hl 3 rfl) ?_
  refine lv_iload_n hx hb dL_law_515 rfl (lv_at hl 0 rfl) ?_
  refine lv_iconst (v := 1) hx hb dL_law_516 (by decide) ?_
  refine lv_iadd hx hb dL_law_517 ?_
  refine va_sld hx hb hX hbl hbA hS (sx_in (k := 1) hi (by decide) hL) dL_law_518 ?_
  refine lv_aload_n hx hb dL_law_519 rfl (lv_at hl 3 rfl) ?_
  refine lv_iload_n hx hb dL_law_520 rfl (lv_at hl 0 rfl) ?_
  refine lv_iconst (v := 2) hx hb dL_law_521 (by decide) ?_
  refine lv_iadd hx hb dL_law_522 ?_
  refine va_sld hx hb hX hbl hbA hS (sx_in (k := 2) hi (by decide) hL) dL_law_523 ?_
  refine callMi (va_runV (As := [.int (xs (ix (nI i + 1))), .int (xs (ix (nI i + 2)))]) (rest := [.int r1]) ⟨hx, hb, hml, hown, hts⟩ (k_X6_as l D cI cL cS bm (sCo s1) (sGu s1) (sKn s1) (sFo s1) (sSp s1) (sKi s1) (sPl s1) (sEa s1) (sTo s1) (sQu s1) fnd mo tr b1 bt ln so bg te wd va gd bits size (flat4 num) le im bf ik (xs (ix (nI i + 1))) (xs (ix (nI i + 2))) hdm o1.1.cC) (cwV 2 hts gL_law_X6_as rfl rfl rfl (by decide +kernel) ⟨Nat.le_of_ble_eq_true rfl, Nat.le_of_ble_eq_true rfl⟩) ⟨PcR_fb, va_recv hK hP (ci := 4) (q0 := 49) rfl rfl, PcR_pre (va_seg hP 49 13 rfl) hK⟩ rfl rfl hl.1 rfl (lv_room (Nat.le_of_ble_eq_true rfl)) dL_law_524 ⟨Nat.le_of_ble_eq_true rfl, Nat.le_of_ble_eq_true rfl⟩) hP (hD _ rfl) hS 49 13 rfl (fun r2 u H locs h2 hP hS => ?_)
  obtain ⟨y1, rfl⟩ : ∃ z, z = u := ⟨_, rfl⟩
  have hP : va_P D vwCl (kcw cI cL cS b s1 w1 m1 n1 s2 w2 m2 n2 s3 w3 m3 n3 ik bt ln tk sb en nm bits size num x1 ++ mdw cI cL bm (encS s1) y1 mo tr b1 bt ln so bg te wd va gd bits size (flat4 num) le im bf ik) H := hP
  have eq := (h1).trans (h2).symm
  have eq : (r1, x1) = (r2, y1) := eq
  cases eq
  exact lv_icmp_eq (tgt := 1281) hx hb dL_law_527 (by decide) (fun _ => k H locs ⟨_, _, _, _, _, _, _, _, _, _, _, _, _, _, _, _, _, _, _, _, _, _, _, _, _, _, _, _, _, _, _, _, _, _, _, hP, o1, o3, oh, ol, hB, him⟩ hS) (fun q9 => absurd rfl q9)

set_option maxRecDepth 100000 in
set_option maxHeartbeats 4000000 in
theorem law_courses {p : Program} {l : Launch} {e : Env} {s : State} {m : MethodId} {below : List Frame} {meth : Method} {c : Code} {a L : Nat} {xs : Nat → Int32} (hL : L ≤ 3072) (C0 : lw_At p s m meth c a L xs) {D : va_G} {cI cL cS : ClassId} {b : Nat → Nat → Nat} {bm ad av : Nat → Nat} {fm : Option Nat} (hK : va_K D vwCl (tyG cI cL cS) s) (hD0 : va_D (fun q : Nat => s.heap.size ≤ q) (djk b ++ dj0 bm 13)) (hZ : SX ad av fm (fun q : Nat => s.heap.size ≤ q) s s.heap) {H : Heap} {locs : List Loc} {ls : Array Slot} {i : Nat} (hI : LW D cI cL cS b bm H) (hS : va_S (fun q : Nat => s.heap.size ≤ q) s.heap H locs) (hi : i + 6 ≤ L) (hl : lv_has ls 4 [(3, .int (nI i)), (2, .ref (bm 0)), (1, .ref (b 0 0)), (0, .ref a)]) (k : ∀ (H : Heap) (locs : List Loc), LW D cI cL cS b bm H → va_S (fun q : Nat => s.heap.size ≤ q) s.heap H locs → W p l e room_1 s m #[Value.ref a] below meth c H locs 62 1366 (lw_Z below #[Value.ref a] s) (F0 m 1281 ls [])) : W p l e room_1 s m #[Value.ref a] below meth c H locs 62 1366 (lw_Z below #[Value.ref a] s) (F0 m 532 ls []) := by
  obtain ⟨hx, hb, hr, hml, hown, hts0, hX, hbl, hlocks, hgv⟩ := id C0
  have hown : s.vm.findClass RL = some m.cls := hown
  have hts : ∀ w ∈ wsL_law, w.before #[Value.ref a] s = true := fun w h => hts0 w (wsL_law_in w h)
  have hbA : ¬ (fun q : Nat => s.heap.size ≤ q) a := Nat.not_le.mpr hbl
  have hdk : va_D (fun _ => True) (djk b) := va_DT (va_segD hD0 0 49 rfl) rfl
  have hdm : va_D (fun _ => True) (dj0 bm 13) := va_DT (va_segD hD0 49 13 rfl) rfl
  have hD : ∀ ws' : va_W, ws'.map Prod.fst = (djk b ++ dj0 bm 13).map Prod.fst → va_D (fun q : Nat => s.heap.size ≤ q) ws' := fun ws' e => va_D_adr hD0 e
  obtain ⟨s1, w1, m1, n1, s2, w2, m2, n2, s3, w3, m3, n3, ik, bt, ln, tk, sb, en, nm, bits, size, num, fnd, mo, tr, b1, so, bg, te, wd, va, gd, le, im, bf, hP, o1, o3, oh, ol, hB, him⟩ := hI
  refine lv_aload_n hx hb dL_law_532 rfl (lv_at hl 2 rfl) ?_
  refine lv_aload_n hx hb dL_law_533 rfl (lv_at hl 3 rfl) ?_
  refine lv_iload_n hx hb dL_law_534 rfl (lv_at hl 0 rfl) ?_
  refine lv_iconst (v := 1) hx hb dL_law_535 (by decide) ?_
  refine lv_iadd hx hb dL_law_536 ?_
  refine va_sld hx hb hX hbl hbA hS (sx_in (k := 1) hi (by decide) hL) dL_law_537 ?_
  refine callMi (va_runV (As := [.int (xs (ix (nI i + 1)))]) (rest := []) ⟨hx, hb, hml, hown, hts⟩ (k_X5_courses l D cI cL cS b s1 w1 m1 n1 s2 w2 m2 n2 s3 w3 m3 n3 ik bt ln tk sb en nm bits size num fnd (xs (ix (nI i + 1))) hdk o1) (cwV 1 hts gL_law_X5_courses rfl rfl rfl (by decide +kernel) ⟨Nat.le_of_ble_eq_true rfl, Nat.le_of_ble_eq_true rfl⟩) ⟨PcR_fb, va_recv hK hP (ci := 3) (q0 := 0) rfl rfl, PcR_pre (va_seg hP 0 49 rfl) hK⟩ rfl rfl hl.1 rfl (lv_room (Nat.le_of_ble_eq_true rfl)) dL_law_538 ⟨Nat.le_of_ble_eq_true rfl, Nat.le_of_ble_eq_true rfl⟩) hP (hD _ rfl) hS 0 49 rfl (fun r1 u H locs h1 hP hS => ?_)
  obtain ⟨x1, x2, x3, x4⟩ := u
  have hP : va_P D vwCl (kcw cI cL cS b x1 w1 x2 x3 s2 w2 m2 n2 s3 w3 m3 n3 ik bt ln tk sb en nm bits size num x4 ++ mdw cI cL bm (encS s1) fnd mo tr b1 bt ln so bg te wd va gd bits size (flat4 num) le im bf ik) H := hP
  refine lv_aload_n hx hb dL_law_541 rfl (lv_at hl 1 rfl) ?_
  refine lv_aload_n hx hb dL_law_542 rfl (lv_at hl 3 rfl) ?_
  refine lv_iload_n hx hb dL_law_543 rfl (lv_at hl 0 rfl) ?_
  refine lv_iconst (v := 1) hx hb dL_law_544 (by decide) ?_
  refine lv_iadd hx hb dL_law_545 ?_
  refine va_sld hx hb hX hbl hbA hS (sx_in (k := 1) hi (by decide) hL) dL_law_546 ?_
  refine callMi (va_runV (As := [.int (xs (ix (nI i + 1)))]) (rest := [.int r1]) ⟨hx, hb, hml, hown, hts⟩ (k_X6_courses l D cI cL cS bm (sCo s1) (sGu s1) (sKn s1) (sFo s1) (sSp s1) (sKi s1) (sPl s1) (sEa s1) (sTo s1) (sQu s1) fnd mo tr b1 bt ln so bg te wd va gd bits size (flat4 num) le im bf ik (xs (ix (nI i + 1))) hdm o1.1.cC o1.2) (cwV 1 hts gL_law_X6_courses rfl rfl rfl (by decide +kernel) ⟨Nat.le_of_ble_eq_true rfl, Nat.le_of_ble_eq_true rfl⟩) ⟨PcR_fb, va_recv hK hP (ci := 4) (q0 := 49) rfl rfl, PcR_pre (va_seg hP 49 13 rfl) hK⟩ rfl rfl hl.1 rfl (lv_room (Nat.le_of_ble_eq_true rfl)) dL_law_547 ⟨Nat.le_of_ble_eq_true rfl, Nat.le_of_ble_eq_true rfl⟩) hP (hD _ rfl) hS 49 13 rfl (fun r2 u H locs h2 hP hS => ?_)
  obtain ⟨y1, y2, y3⟩ := u
  have hP : va_P D vwCl (kcw cI cL cS b x1 w1 x2 x3 s2 w2 m2 n2 s3 w3 m3 n3 ik bt ln tk sb en nm bits size num x4 ++ mdw cI cL bm (encS y1) y3 y2 tr b1 bt ln so bg te wd va gd bits size (flat4 num) le im bf ik) H := hP
  have eq := (h1.1).trans (h2).symm
  have o9 := h1.2
  have eq : (r1, x1, x4) = (r2, y1, y3) := eq
  cases eq
  exact lv_icmp_eq (tgt := 1281) hx hb dL_law_550 (by decide) (fun _ => k H locs ⟨_, _, _, _, _, _, _, _, _, _, _, _, _, _, _, _, _, _, _, _, _, _, _, _, _, _, _, _, _, _, _, _, _, _, _, hP, o9, o3, oh, ol, hB, him⟩ hS) (fun q9 => absurd rfl q9)

set_option maxRecDepth 100000 in
set_option maxHeartbeats 4000000 in
theorem law_on {p : Program} {l : Launch} {e : Env} {s : State} {m : MethodId} {below : List Frame} {meth : Method} {c : Code} {a L : Nat} {xs : Nat → Int32} (hL : L ≤ 3072) (C0 : lw_At p s m meth c a L xs) {D : va_G} {cI cL cS : ClassId} {b : Nat → Nat → Nat} {bm ad av : Nat → Nat} {fm : Option Nat} (hK : va_K D vwCl (tyG cI cL cS) s) (hD0 : va_D (fun q : Nat => s.heap.size ≤ q) (djk b ++ dj0 bm 13)) (hZ : SX ad av fm (fun q : Nat => s.heap.size ≤ q) s s.heap) {H : Heap} {locs : List Loc} {ls : Array Slot} {i : Nat} (hI : LW D cI cL cS b bm H) (hS : va_S (fun q : Nat => s.heap.size ≤ q) s.heap H locs) (hi : i + 6 ≤ L) (hl : lv_has ls 4 [(3, .int (nI i)), (2, .ref (bm 0)), (1, .ref (b 0 0)), (0, .ref a)]) (k : ∀ (H : Heap) (locs : List Loc), LW D cI cL cS b bm H → va_S (fun q : Nat => s.heap.size ≤ q) s.heap H locs → W p l e room_1 s m #[Value.ref a] below meth c H locs 62 1366 (lw_Z below #[Value.ref a] s) (F0 m 1281 ls [])) : W p l e room_1 s m #[Value.ref a] below meth c H locs 62 1366 (lw_Z below #[Value.ref a] s) (F0 m 555 ls []) := by
  obtain ⟨hx, hb, hr, hml, hown, hts0, hX, hbl, hlocks, hgv⟩ := id C0
  have hown : s.vm.findClass RL = some m.cls := hown
  have hts : ∀ w ∈ wsL_law, w.before #[Value.ref a] s = true := fun w h => hts0 w (wsL_law_in w h)
  have hbA : ¬ (fun q : Nat => s.heap.size ≤ q) a := Nat.not_le.mpr hbl
  have hdk : va_D (fun _ => True) (djk b) := va_DT (va_segD hD0 0 49 rfl) rfl
  have hdm : va_D (fun _ => True) (dj0 bm 13) := va_DT (va_segD hD0 49 13 rfl) rfl
  have hD : ∀ ws' : va_W, ws'.map Prod.fst = (djk b ++ dj0 bm 13).map Prod.fst → va_D (fun q : Nat => s.heap.size ≤ q) ws' := fun ws' e => va_D_adr hD0 e
  obtain ⟨s1, w1, m1, n1, s2, w2, m2, n2, s3, w3, m3, n3, ik, bt, ln, tk, sb, en, nm, bits, size, num, fnd, mo, tr, b1, so, bg, te, wd, va, gd, le, im, bf, hP, o1, o3, oh, ol, hB, him⟩ := hI
  refine lv_aload_n hx hb dL_law_555 rfl (lv_at hl 2 rfl) ?_
  refine lv_aload_n hx hb dL_law_556 rfl (lv_at hl 3 rfl) ?_
  refine lv_iload_n hx hb dL_law_557 rfl (lv_at hl 0 rfl) ?_
  refine lv_iconst (v := 1) hx hb dL_law_558 (by decide) ?_
  refine lv_iadd hx hb dL_law_559 ?_
  refine va_sld hx hb hX hbl hbA hS (sx_in (k := 1) hi (by decide) hL) dL_law_560 ?_
  refine lv_aload_n hx hb dL_law_561 rfl (lv_at hl 3 rfl) ?_
  refine lv_iload_n hx hb dL_law_562 rfl (lv_at hl 0 rfl) ?_
  refine lv_iconst (v := 2) hx hb dL_law_563 (by decide) ?_
  refine lv_iadd hx hb dL_law_564 ?_
  refine va_sld hx hb hX hbl hbA hS (sx_in (k := 2) hi (by decide) hL) dL_law_565 ?_
  refine lv_aload_n hx hb dL_law_566 rfl (lv_at hl 3 rfl) ?_
  refine lv_iload_n hx hb dL_law_567 rfl (lv_at hl 0 rfl) ?_
  refine lv_iconst (v := 3) hx hb dL_law_568 (by decide) ?_
  refine lv_iadd hx hb dL_law_569 ?_
  refine va_sld hx hb hX hbl hbA hS (sx_in (k := 3) hi (by decide) hL) dL_law_570 ?_
  refine callMi (va_runV (As := [.int (xs (ix (nI i + 1))), .int (xs (ix (nI i + 2))), .int (xs (ix (nI i + 3)))]) (rest := []) ⟨hx, hb, hml, hown, hts⟩ (k_X5_on l D cI cL cS b s1 w1 m1 n1 s2 w2 m2 n2 s3 w3 m3 n3 ik bt ln tk sb en nm bits size num fnd (xs (ix (nI i + 1))) (xs (ix (nI i + 2))) (xs (ix (nI i + 3))) hdk o1) (cwV 3 hts gL_law_X5_on rfl rfl rfl (by decide +kernel) ⟨Nat.le_of_ble_eq_true rfl, Nat.le_of_ble_eq_true rfl⟩) ⟨PcR_fb, va_recv hK hP (ci := 3) (q0 := 0) rfl rfl, PcR_pre (va_seg hP 0 49 rfl) hK⟩ rfl rfl hl.1 rfl (lv_room (Nat.le_of_ble_eq_true rfl)) dL_law_571 ⟨Nat.le_of_ble_eq_true rfl, Nat.le_of_ble_eq_true rfl⟩) hP (hD _ rfl) hS 0 49 rfl (fun r1 u H locs h1 hP hS => ?_)
  obtain ⟨x1, x2, x3, x4, x5⟩ := u
  have hP : va_P D vwCl (kcw cI cL cS b s1 w1 m1 n1 x1 x2 x3 x4 s3 w3 m3 n3 ik bt ln tk sb en nm bits size num x5 ++ mdw cI cL bm (encS s1) fnd mo tr b1 bt ln so bg te wd va gd bits size (flat4 num) le im bf ik) H := hP
  refine lv_aload_n hx hb dL_law_574 rfl (lv_at hl 1 rfl) ?_
  refine lv_aload_n hx hb dL_law_575 rfl (lv_at hl 3 rfl) ?_
  refine lv_iload_n hx hb dL_law_576 rfl (lv_at hl 0 rfl) ?_
  refine lv_iconst (v := 1) hx hb dL_law_577 (by decide) ?_
  refine lv_iadd hx hb dL_law_578 ?_
  refine va_sld hx hb hX hbl hbA hS (sx_in (k := 1) hi (by decide) hL) dL_law_579 ?_
  refine lv_aload_n hx hb dL_law_580 rfl (lv_at hl 3 rfl) ?_
  refine lv_iload_n hx hb dL_law_581 rfl (lv_at hl 0 rfl) ?_
  refine lv_iconst (v := 2) hx hb dL_law_582 (by decide) ?_
  refine lv_iadd hx hb dL_law_583 ?_
  refine va_sld hx hb hX hbl hbA hS (sx_in (k := 2) hi (by decide) hL) dL_law_584 ?_
  refine lv_aload_n hx hb dL_law_585 rfl (lv_at hl 3 rfl) ?_
  refine lv_iload_n hx hb dL_law_586 rfl (lv_at hl 0 rfl) ?_
  refine lv_iconst (v := 3) hx hb dL_law_587 (by decide) ?_
  refine lv_iadd hx hb dL_law_588 ?_
  refine va_sld hx hb hX hbl hbA hS (sx_in (k := 3) hi (by decide) hL) dL_law_589 ?_
  refine callMi (va_runV (As := [.int (xs (ix (nI i + 1))), .int (xs (ix (nI i + 2))), .int (xs (ix (nI i + 3)))]) (rest := [.int r1]) ⟨hx, hb, hml, hown, hts⟩ (k_X6_on l D cI cL cS bm (sCo s1) (sGu s1) (sKn s1) (sFo s1) (sSp s1) (sKi s1) (sPl s1) (sEa s1) (sTo s1) (sQu s1) fnd mo tr b1 bt ln so bg te wd va gd bits size (flat4 num) le im bf ik (xs (ix (nI i + 1))) (xs (ix (nI i + 2))) (xs (ix (nI i + 3))) hdm o1.1.cC o1.2) (cwV 3 hts gL_law_X6_on rfl rfl rfl (by decide +kernel) ⟨Nat.le_of_ble_eq_true rfl, Nat.le_of_ble_eq_true rfl⟩) ⟨PcR_fb, va_recv hK hP (ci := 4) (q0 := 49) rfl rfl, PcR_pre (va_seg hP 49 13 rfl) hK⟩ rfl rfl hl.1 rfl (lv_room (Nat.le_of_ble_eq_true rfl)) dL_law_590 ⟨Nat.le_of_ble_eq_true rfl, Nat.le_of_ble_eq_true rfl⟩) hP (hD _ rfl) hS 49 13 rfl (fun r2 u H locs h2 hP hS => ?_)
  obtain ⟨y1, y2, y3⟩ := u
  have hP : va_P D vwCl (kcw cI cL cS b s1 w1 m1 n1 x1 x2 x3 x4 s3 w3 m3 n3 ik bt ln tk sb en nm bits size num x5 ++ mdw cI cL bm (encS s1) y3 y1 y2 b1 bt ln so bg te wd va gd bits size (flat4 num) le im bf ik) H := hP
  have eq := (h1).trans (h2).symm
  have eq : (r1, x5) = (r2, y3) := eq
  cases eq
  exact lv_icmp_eq (tgt := 1281) hx hb dL_law_593 (by decide) (fun _ => k H locs ⟨_, _, _, _, _, _, _, _, _, _, _, _, _, _, _, _, _, _, _, _, _, _, _, _, _, _, _, _, _, _, _, _, _, _, _, hP, o1, o3, oh, ol, hB, him⟩ hS) (fun q9 => absurd rfl q9)
