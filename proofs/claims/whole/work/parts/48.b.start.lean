set_option maxRecDepth 100000 in
set_option maxHeartbeats 8000000 in
theorem whole_start {p : Program} {e : Env} {s : State} {m : MethodId} {below : List Frame} {meth : Method} {c : Code} (l : Launch) (hflags : l.flags = flags0) {b L : Nat} {xs : Nat → Int32} (hL : L ≤ 3072) (C0 : lw_At p s m meth c b L xs) : W p l e room_1 s m #[Value.ref b] below meth c s.heap [] 0 0 (lw_Z below #[Value.ref b] s) (entryFrame m ([Value.ref b] : List Value).toArray 4) := by
  obtain ⟨hx, hb, hr, hml, hown, hts0, hX, hbl, hlocks, hgv⟩ := id C0
  have hown : s.vm.findClass RL = some m.cls := hown
  have hts : ∀ w ∈ wsL_law, w.before #[Value.ref b] s = true := fun w h => hts0 w (wsL_law_in w h)
  obtain ⟨ad, av, fm, hZ⟩ := st_SX hts0 hgv
  obtain ⟨D, cI, cL, cS, hK, hAO⟩ := st_K hts0
  obtain ⟨A, hAe⟩ : ∃ A : Nat → Prop, A = (fun q : Nat => s.heap.size ≤ q) := ⟨_, rfl⟩
  have hA : ∀ q : Nat, s.heap.size ≤ q → A q := fun q h => by rw [hAe]; exact h
  have hS : va_S A s.heap s.heap [] := va_S.rf
  have hP : va_P D vwCl [] s.heap := fun k q h => by cases h
  have hD : va_D A [] := ⟨(fun i j p q h => by cases h), (fun k q h => by cases h)⟩
  have hl := lv_entry ([.ref b]) (n := 4) (Nat.le_of_ble_eq_true rfl)
  rw [lg_entry_eq]
  generalize (lg_sl ([.ref b]) ++ List.replicate (4 - (lg_sl ([.ref b])).length) Slot.unset).toArray = ls at hl ⊢
  have hl : lv_has ls 4 [(0, .ref b)] := hl
  refine va_new (ci := 3) (fs := [.null, .null, .null, .int 0, .null, .null, .null]) (C := RX5) (T := TX5) (N := 7) hx hb hts0 in_wsX50 tyX5 tyX5_ok hown (hts0 (.classLink RL 7 RX5) (List.mem_append_right _ (List.mem_of_getElem? (i := 16) (by decide +kernel)))) (hts0 (.instantiable RX5 7) (List.mem_append_right _ (List.mem_of_getElem? (i := 17) (by decide +kernel)))) (hts0 (.initialized RX5) (List.mem_append_right _ (List.mem_of_getElem? (i := 1) (by decide +kernel)))) hK hP hD hS hA rfl (fun j hj => match j, hj with | 0, _ => rfl | 1, _ => rfl | 2, _ => rfl | 3, _ => rfl | 4, _ => rfl | 5, _ => rfl | 6, _ => rfl | (k + 7), h => absurd h (by omega)) (Nat.le_of_ble_eq_true rfl) (Nat.le_of_ble_eq_true rfl) dL_law_0 (fun q1 H hP hD hS => ?_)
  have hP : va_P D vwCl ([(q1, .inr (3, [.null, .null, .null, .int 0, .null, .null, .null]))]) H := hP
  have hD : va_D A ([(q1, .inr (3, [.null, .null, .null, .int 0, .null, .null, .null]))]) := hD
  refine W.widen (k := 1) (n := 7) (Nat.le_of_ble_eq_true rfl) (Nat.le_of_ble_eq_true rfl) ?_
  refine lv_dup hx hb dL_law_3 rfl ?_
  have hPc := hP.sub (ws' := [(q1, .inr (3, [.null, .null, .null, .int 0, .null, .null, .null]))]) [0] rfl
  have hDc := hD.sub (ws' := [(q1, .inr (3, [.null, .null, .null, .int 0, .null, .null, .null]))]) [0] (by decide) rfl
  have hFc := va_free (wc := [(q1, .inr (3, [.null, .null, .null, .int 0, .null, .null, .null]))]) hD hS hA [0] rfl
  refine va_callv (va_runI (As := []) (rest := [.ref q1]) ⟨hx, hb, hml, hown, hts⟩ (k_X5_init l D cI cL cS q1 H.size) (cwI 0 hts gL_law_X5_init rfl rfl rfl (hts0 (.initialized RX5) (List.mem_append_right _ (List.mem_of_getElem? (i := 1) (by decide +kernel)))) (hts0 (.methodLink RL 9 yX5_init) (List.mem_append_right _ (List.mem_of_getElem? (i := 18) (by decide +kernel)))) (hts0 (.instanceMethod yX5_init) (List.mem_append_right _ (List.mem_of_getElem? (i := 19) (by decide +kernel)))) rfl (by decide +kernel) ⟨Nat.le_of_ble_eq_true rfl, Nat.le_of_ble_eq_true rfl⟩) ⟨PcO_fb, PcO_pre hPc hK hDc hAO⟩ rfl rfl hl.1 rfl (lv_room (Nat.le_of_ble_eq_true rfl)) dL_law_4 ⟨Nat.le_of_ble_eq_true rfl, Nat.le_of_ble_eq_true rfl⟩) hS (fun q _ h => hFc q h) hFc (fun bk t H1 locs ht hvm hw hB hz1 hk1 hS => ?_)
  obtain ⟨hP1, hD1⟩ := hB
  rw [ht] at hP1
  subst hw
  obtain ⟨hP, hD⟩ := va_join (wr := []) (w1 := kcw cI cL cS bk sZ ZM Z0 Z0 sZ ZM Z0 Z0 sZ ZM Z0 Z0 0 Z0 0 0 0 0 0 Z0 Z0 (fun _ => ZL) Z0) hP hD [0] [] rfl rfl (by decide) (by decide) hk1 hFc hP1 hD1
  generalize H1 = H at hP hS ⊢
  have hP : va_P D vwCl (kcw cI cL cS bk sZ ZM Z0 Z0 sZ ZM Z0 Z0 sZ ZM Z0 Z0 0 Z0 0 0 0 0 0 Z0 Z0 (fun _ => ZL) Z0) H := hP
  have hD : va_D A (kcw cI cL cS bk sZ ZM Z0 Z0 sZ ZM Z0 Z0 sZ ZM Z0 Z0 0 Z0 0 0 0 0 0 Z0 Z0 (fun _ => ZL) Z0) := hD
  refine W.widen (k := 49) (n := 643) (Nat.le_of_ble_eq_true rfl) (Nat.le_of_ble_eq_true rfl) ?_
  refine lv_astore_n (lv' := [(1, .ref (bk 0 0)), (0, .ref b)]) hx hb dL_law_7 rfl hl (by decide) rfl (fun ls hl => ?_)
  refine va_new (ci := 4) (fs := [.null, .null, .null, .null, .null, .null, .int 0, .int 0, .int 0, .int 0, .long 0, .int 0, .int 0, .null, .null, .null, .null, .null, .null, .int 0]) (C := RX6) (T := TX6) (N := 20) hx hb hts0 in_wsX60 tyX6 tyX6_ok hown (hts0 (.classLink RL 10 RX6) (List.mem_append_right _ (List.mem_of_getElem? (i := 614) (by decide +kernel)))) (hts0 (.instantiable RX6 20) (List.mem_append_right _ (List.mem_of_getElem? (i := 615) (by decide +kernel)))) (hts0 (.initialized RX6) (List.mem_append_right _ (List.mem_of_getElem? (i := 6) (by decide +kernel)))) hK hP hD hS hA rfl (fun j hj => match j, hj with | 0, _ => rfl | 1, _ => rfl | 2, _ => rfl | 3, _ => rfl | 4, _ => rfl | 5, _ => rfl | 6, _ => rfl | 7, _ => rfl | 8, _ => rfl | 9, _ => rfl | 10, _ => rfl | 11, _ => rfl | 12, _ => rfl | 13, _ => rfl | 14, _ => rfl | 15, _ => rfl | 16, _ => rfl | 17, _ => rfl | 18, _ => rfl | 19, _ => rfl | (k + 20), h => absurd h (by omega)) (Nat.le_of_ble_eq_true rfl) (Nat.le_of_ble_eq_true rfl) dL_law_8 (fun q2 H hP hD hS => ?_)
  have hP : va_P D vwCl (kcw cI cL cS bk sZ ZM Z0 Z0 sZ ZM Z0 Z0 sZ ZM Z0 Z0 0 Z0 0 0 0 0 0 Z0 Z0 (fun _ => ZL) Z0 ++ [(q2, .inr (4, [.null, .null, .null, .null, .null, .null, .int 0, .int 0, .int 0, .int 0, .long 0, .int 0, .int 0, .null, .null, .null, .null, .null, .null, .int 0]))]) H := hP
  have hD : va_D A (kcw cI cL cS bk sZ ZM Z0 Z0 sZ ZM Z0 Z0 sZ ZM Z0 Z0 0 Z0 0 0 0 0 0 Z0 Z0 (fun _ => ZL) Z0 ++ [(q2, .inr (4, [.null, .null, .null, .null, .null, .null, .int 0, .int 0, .int 0, .int 0, .long 0, .int 0, .int 0, .null, .null, .null, .null, .null, .null, .int 0]))]) := hD
  refine W.widen (k := 50) (n := 663) (Nat.le_of_ble_eq_true rfl) (Nat.le_of_ble_eq_true rfl) ?_
  refine lv_dup hx hb dL_law_11 rfl ?_
  have hPc := hP.sub (ws' := [(q2, .inr (4, [.null, .null, .null, .null, .null, .null, .int 0, .int 0, .int 0, .int 0, .long 0, .int 0, .int 0, .null, .null, .null, .null, .null, .null, .int 0]))]) [49] rfl
  have hDc := hD.sub (ws' := [(q2, .inr (4, [.null, .null, .null, .null, .null, .null, .int 0, .int 0, .int 0, .int 0, .long 0, .int 0, .int 0, .null, .null, .null, .null, .null, .null, .int 0]))]) [49] (by decide) rfl
  have hFc := va_free (wc := [(q2, .inr (4, [.null, .null, .null, .null, .null, .null, .int 0, .int 0, .int 0, .int 0, .long 0, .int 0, .int 0, .null, .null, .null, .null, .null, .null, .int 0]))]) hD hS hA [49] rfl
  refine va_callv (va_runI (As := []) (rest := [.ref q2]) ⟨hx, hb, hml, hown, hts⟩ (k_X6_init l D cI cL cS q2 H.size) (cwI 0 hts gL_law_X6_init rfl rfl rfl (hts0 (.initialized RX6) (List.mem_append_right _ (List.mem_of_getElem? (i := 6) (by decide +kernel)))) (hts0 (.methodLink RL 12 yX6_init) (List.mem_append_right _ (List.mem_of_getElem? (i := 616) (by decide +kernel)))) (hts0 (.instanceMethod yX6_init) (List.mem_append_right _ (List.mem_of_getElem? (i := 617) (by decide +kernel)))) rfl (by decide +kernel) ⟨Nat.le_of_ble_eq_true rfl, Nat.le_of_ble_eq_true rfl⟩) ⟨PcC_fb, PcC_pre hPc hK hDc⟩ rfl rfl hl.1 rfl (lv_room (Nat.le_of_ble_eq_true rfl)) dL_law_12 ⟨Nat.le_of_ble_eq_true rfl, Nat.le_of_ble_eq_true rfl⟩) hS (fun q _ h => hFc q h) hFc (fun bm t H1 locs ht hvm hw hB hz1 hk1 hS => ?_)
  obtain ⟨hP1, hD1⟩ := hB
  rw [ht] at hP1
  subst hw
  obtain ⟨hP, hD⟩ := va_join (wr := kcw cI cL cS bk sZ ZM Z0 Z0 sZ ZM Z0 Z0 sZ ZM Z0 Z0 0 Z0 0 0 0 0 0 Z0 Z0 (fun _ => ZL) Z0) (w1 := mdw cI cL bm (encS sZ) Z0 Z0 Z0 Z0 Z0 0 0 0 0 0 0 0 Z0 Z0 (flat4 (fun _ => ZL)) ZL Z0 Z0 0) hP hD [49] [0, 1, 2, 3, 4, 5, 6, 7, 8, 9, 10, 11, 12, 13, 14, 15, 16, 17, 18, 19, 20, 21, 22, 23, 24, 25, 26, 27, 28, 29, 30, 31, 32, 33, 34, 35, 36, 37, 38, 39, 40, 41, 42, 43, 44, 45, 46, 47, 48] rfl rfl (by decide) (by decide) hk1 hFc hP1 hD1
  generalize H1 = H at hP hS ⊢
  have hP : va_P D vwCl (kcw cI cL cS bk sZ ZM Z0 Z0 sZ ZM Z0 Z0 sZ ZM Z0 Z0 0 Z0 0 0 0 0 0 Z0 Z0 (fun _ => ZL) Z0 ++ mdw cI cL bm (encS sZ) Z0 Z0 Z0 Z0 Z0 0 0 0 0 0 0 0 Z0 Z0 (flat4 (fun _ => ZL)) ZL Z0 Z0 0) H := hP
  have hD : va_D A (kcw cI cL cS bk sZ ZM Z0 Z0 sZ ZM Z0 Z0 sZ ZM Z0 Z0 0 Z0 0 0 0 0 0 Z0 Z0 (fun _ => ZL) Z0 ++ mdw cI cL bm (encS sZ) Z0 Z0 Z0 Z0 Z0 0 0 0 0 0 0 0 Z0 Z0 (flat4 (fun _ => ZL)) ZL Z0 Z0 0) := hD
  refine W.widen (k := 62) (n := 1366) (Nat.le_of_ble_eq_true rfl) (Nat.le_of_ble_eq_true rfl) ?_
  refine lv_astore_n (lv' := [(2, .ref (bm 0)), (1, .ref (bk 0 0)), (0, .ref b)]) hx hb dL_law_15 rfl hl (by decide) rfl (fun ls hl => ?_)
  refine lv_iconst (v := 0) hx hb dL_law_16 (by decide) ?_
  refine lv_istore_n (lv' := [(3, .int 0), (2, .ref (bm 0)), (1, .ref (bk 0 0)), (0, .ref b)]) hx hb dL_law_17 rfl hl (by decide) rfl (fun ls hl => ?_)
  subst hAe
  exact law_loop hL C0 hK (va_D_adr hD rfl) hZ (L + 1) 0 (Nat.zero_le L) (by omega) H locs ls ⟨_, _, _, _, _, _, _, _, _, _, _, _, _, _, _, _, _, _, _, _, _, _, _, _, _, _, _, _, _, _, _, _, _, _, _, hP, okS_Z, okS_Z, okH_Z, vp_in_iff.mpr (by decide), fun _ => (by decide : ¬ (0 : Int32) < 0), fun h => absurd rfl h⟩ hS hl
