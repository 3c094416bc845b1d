set_option maxRecDepth 100000 in
set_option maxHeartbeats 4000000 in
theorem k_X5_findingOfBook (l : Launch) (D : va_G) (cI cL cS : ClassId) (b : Nat → Nat → Nat) (s1 : Sg) (w1 m1 n1 : FI) (s2 : Sg) (w2 m2 n2 : FI) (s3 : Sg) (w3 m3 n3 : FI) (ik : Int32) (bt : FI) (ln tk sb en nm : Int32) (bits size : FI) (num : Nat → FJ) (fnd : FI) (x0 : Int32) (x1 : Int32) (o1 : okS s1 w1) : Met l yX5_findingOfBook wsX5_findingOfBook { frames := 1, cells := 0, slots := 0, locals := 21 } (PcR D vwCl (tyG cI cL cS) [.ref (b 0 0), .int x0, .int x1] (kcw cI cL cS b s1 w1 m1 n1 s2 w2 m2 n2 s3 w3 m3 n3 ik bt ln tk sb en nm bits size num fnd)) (vp_Si (fun r => r = sFob bits s1 x0 x1)) 0 0 (fun _ => False) := by
  refine Met.ofW (cc := cX5_findingOfBook) (maxL := 3) (ret := (some .int)) (by decide) rfl ?_
  intro p e s m args below meth c s₁ B hml hv
  obtain ⟨rfl, hP, hK⟩ := hv
  have hx := B.exec
  have hb := B.bytes
  have hr := B.returns
  have hts := atoms_spec (ws := wsX5_findingOfBook) B.pre
  have hown : s.vm.findClass RX5 = some m.cls := findClass_of_methodNamed B.named
  have hlocks := B.notSynchronized
  have hl := lv_entry ([.ref (b 0 0), .int x0, .int x1]) (n := 3) (Nat.le_of_ble_eq_true rfl)
  rw [lg_entry_eq]
  generalize (lg_sl ([.ref (b 0 0), .int x0, .int x1]) ++ List.replicate (3 - (lg_sl ([.ref (b 0 0), .int x0, .int x1])).length) Slot.unset).toArray = ls at hl ⊢
  have hl : lv_has ls 3 [(0, .ref (b 0 0)), (1, .int x0), (2, .int x1)] := hl
  have f35 := hts (.fieldLink RX5 35 "KnivesLaid" "sheets" "[LKnivesLaid$Sheet;") (List.mem_of_getElem? (i := 2) rfl)
  have inX5 : ∀ w ∈ u_ws RX5 TX5 7, w ∈ wsX5_findingOfBook := in_at 21 _ _ rfl
  have f10 := hts (.fieldLink RX5 10 "KnivesLaid" "table" "LKnivesLaid$Table;") (List.mem_of_getElem? (i := 4) rfl)
  have k52 := hts (.constant RX5 52 (-1000000001)) (List.mem_of_getElem? (i := 1) rfl)
  have k196 := hts (.constant RX5 196 (-1000000006)) (List.mem_of_getElem? (i := 3) rfl)
  refine lv_iload_n hx hb dX5_findingOfBook_0 rfl (lv_at hl 1 rfl) ?_
  refine callE (W.runS (As := [.int x0]) (rest := []) ⟨hx, hb, hml, hown, hts⟩ (k_X5_isSheet l x0) (va_cwS 1 hts gX5_findingOfBook_X5_isSheet rfl rfl rfl (by decide +kernel) ⟨Nat.le_of_ble_eq_true rfl, Nat.le_of_ble_eq_true rfl⟩) ⟨PcP_fb, fun U _ _ => ⟨rfl, trivial⟩⟩ rfl rfl hl.1 rfl (lv_room (Nat.le_of_ble_eq_true rfl)) dX5_findingOfBook_1 ⟨Nat.zero_le _, Nat.zero_le _⟩) ?_
  refine lv_if_ne (tgt := 10) hx hb dX5_findingOfBook_4 (by decide) (fun c_1 => ?_) (fun c_1 => ?_)
  · skip
    have c_1b := bI_n c_1
    rcases in4 c_1b with rfl | rfl | rfl | rfl
    · skip
      refine lv_aload_n hx hb dX5_findingOfBook_10 rfl (lv_at hl 0 rfl) ?_
      refine va_get (ci := 3) (v := .ref (b 6 0)) (C := RX5) (T := TX5) (N := 7) hx hb hts inX5 hown hK hP 0 rfl rfl 5 (by decide) f35 (fun _ h9 => h9) rfl dX5_findingOfBook_11 ?_
      refine lv_iload_n hx hb dX5_findingOfBook_14 rfl (lv_at hl 1 rfl) ?_
      refine va_aldq (f := fun s => some (b 7 s)) hx hb hK hP 39 2 rfl rfl (vp_in_iff.mpr (by decide)) dX5_findingOfBook_15 ?_
      refine W.eq (g2 := F0 m 16 ls [.ref (b 7 0)]) rfl ?_
      refine callE (W.runV (As := []) (rest := []) ⟨hx, hb, hml, hown, hts⟩ (k_X2_isMissing l D cI cL cS (b 7 0) (b 8 0) (bits 0) (size 0) (num 0)) (cwV 0 hts gX5_findingOfBook_X2_isMissing rfl rfl rfl (by decide +kernel) ⟨Nat.le_of_ble_eq_true rfl, Nat.le_of_ble_eq_true rfl⟩) ⟨PcR_fb, va_recv hK hP (ci := 0) (q0 := 40) rfl rfl, PcR_pre (va_seg hP 40 2 rfl) hK⟩ rfl rfl hl.1 rfl (lv_room (Nat.le_of_ble_eq_true rfl)) dX5_findingOfBook_16 ⟨Nat.zero_le _, Nat.zero_le _⟩) ?_
      refine lv_if_eq (tgt := 25) hx hb dX5_findingOfBook_19 (by decide) (fun c_2 => ?_) (fun c_2 => ?_)
      · skip
        have c_2b := bI_0 c_2
        refine lv_aload_n hx hb dX5_findingOfBook_25 rfl (lv_at hl 0 rfl) ?_
        refine va_get (ci := 3) (v := .ref (b 1 0)) (C := RX5) (T := TX5) (N := 7) hx hb hts inX5 hown hK hP 0 rfl rfl 0 (by decide) f10 (fun _ h9 => h9) rfl dX5_findingOfBook_26 ?_
        refine lv_iload_n hx hb dX5_findingOfBook_29 rfl (lv_at hl 2 rfl) ?_
        refine callE (W.runV (As := [.int x1]) (rest := []) ⟨hx, hb, hml, hown, hts⟩ (k_X3_has l D cI cL cS (b 1) (sCo s1) (sGu s1) (sKn s1) (sFo s1) (sSp s1) w1 (sKi s1) (sPl s1) (sEa s1) (sTo s1) (sQu s1) m1 n1 x1 o1.1.gu) (cwV 1 hts gX5_findingOfBook_X3_has rfl rfl rfl (by decide +kernel) ⟨Nat.le_of_ble_eq_true rfl, Nat.le_of_ble_eq_true rfl⟩) ⟨PcR_fb, va_recv hK hP (ci := 1) (q0 := 1) rfl rfl, PcR_pre (va_seg hP 1 12 rfl) hK⟩ rfl rfl hl.1 rfl (lv_room (Nat.le_of_ble_eq_true rfl)) dX5_findingOfBook_30 ⟨Nat.zero_le _, Nat.zero_le _⟩) ?_
        refine lv_if_eq (tgt := 40) hx hb dX5_findingOfBook_33 (by decide) (fun c_3 => ?_) (fun c_3 => ?_)
        · skip
          have c_3b := bI_0 c_3
          refine lv_ldc hx hb hown k52 dX5_findingOfBook_40 ?_
          exact W.iret hx hb hr (fun t ht hW => ⟨_, rfl, (by exact ((iF_t c_1b).trans ((iF_f c_2b).trans (iF_f c_3b))).symm), ht⟩) (fun _ h => absurd h List.not_mem_nil) dX5_findingOfBook_42
        · skip
          have c_3b := bI_n c_3
          refine lv_iconst (v := 0) hx hb dX5_findingOfBook_36 (by decide) ?_
          refine lv_goto (tgt := 42) hx hb dX5_findingOfBook_37 (by decide) ?_
          exact W.iret hx hb hr (fun t ht hW => ⟨_, rfl, (by exact ((iF_t c_1b).trans ((iF_f c_2b).trans (iF_t c_3b))).symm), ht⟩) (fun _ h => absurd h List.not_mem_nil) dX5_findingOfBook_42
      · skip
        have c_2b := bI_n c_2
        refine lv_ldc hx hb hown k196 dX5_findingOfBook_22 ?_
        exact W.iret hx hb hr (fun t ht hW => ⟨_, rfl, (by exact ((iF_t c_1b).trans (iF_t c_2b)).symm), ht⟩) (fun _ h => absurd h List.not_mem_nil) dX5_findingOfBook_24
    · skip
      refine lv_aload_n hx hb dX5_findingOfBook_10 rfl (lv_at hl 0 rfl) ?_
      refine va_get (ci := 3) (v := .ref (b 6 0)) (C := RX5) (T := TX5) (N := 7) hx hb hts inX5 hown hK hP 0 rfl rfl 5 (by decide) f35 (fun _ h9 => h9) rfl dX5_findingOfBook_11 ?_
      refine lv_iload_n hx hb dX5_findingOfBook_14 rfl (lv_at hl 1 rfl) ?_
      refine va_aldq (f := fun s => some (b 7 s)) hx hb hK hP 39 2 rfl rfl (vp_in_iff.mpr (by decide)) dX5_findingOfBook_15 ?_
      refine W.eq (g2 := F0 m 16 ls [.ref (b 7 1)]) rfl ?_
      refine callE (W.runV (As := []) (rest := []) ⟨hx, hb, hml, hown, hts⟩ (k_X2_isMissing l D cI cL cS (b 7 1) (b 8 1) (bits 1) (size 1) (num 1)) (cwV 0 hts gX5_findingOfBook_X2_isMissing rfl rfl rfl (by decide +kernel) ⟨Nat.le_of_ble_eq_true rfl, Nat.le_of_ble_eq_true rfl⟩) ⟨PcR_fb, va_recv hK hP (ci := 0) (q0 := 42) rfl rfl, PcR_pre (va_seg hP 42 2 rfl) hK⟩ rfl rfl hl.1 rfl (lv_room (Nat.le_of_ble_eq_true rfl)) dX5_findingOfBook_16 ⟨Nat.zero_le _, Nat.zero_le _⟩) ?_
      refine lv_if_eq (tgt := 25) hx hb dX5_findingOfBook_19 (by decide) (fun c_4 => ?_) (fun c_4 => ?_)
      · skip
        have c_4b := bI_0 c_4
        refine lv_aload_n hx hb dX5_findingOfBook_25 rfl (lv_at hl 0 rfl) ?_
        refine va_get (ci := 3) (v := .ref (b 1 0)) (C := RX5) (T := TX5) (N := 7) hx hb hts inX5 hown hK hP 0 rfl rfl 0 (by decide) f10 (fun _ h9 => h9) rfl dX5_findingOfBook_26 ?_
        refine lv_iload_n hx hb dX5_findingOfBook_29 rfl (lv_at hl 2 rfl) ?_
        refine callE (W.runV (As := [.int x1]) (rest := []) ⟨hx, hb, hml, hown, hts⟩ (k_X3_has l D cI cL cS (b 1) (sCo s1) (sGu s1) (sKn s1) (sFo s1) (sSp s1) w1 (sKi s1) (sPl s1) (sEa s1) (sTo s1) (sQu s1) m1 n1 x1 o1.1.gu) (cwV 1 hts gX5_findingOfBook_X3_has rfl rfl rfl (by decide +kernel) ⟨Nat.le_of_ble_eq_true rfl, Nat.le_of_ble_eq_true rfl⟩) ⟨PcR_fb, va_recv hK hP (ci := 1) (q0 := 1) rfl rfl, PcR_pre (va_seg hP 1 12 rfl) hK⟩ rfl rfl hl.1 rfl (lv_room (Nat.le_of_ble_eq_true rfl)) dX5_findingOfBook_30 ⟨Nat.zero_le _, Nat.zero_le _⟩) ?_
        refine lv_if_eq (tgt := 40) hx hb dX5_findingOfBook_33 (by decide) (fun c_5 => ?_) (fun c_5 => ?_)
        · skip
          have c_5b := bI_0 c_5
          refine lv_ldc hx hb hown k52 dX5_findingOfBook_40 ?_
          exact W.iret hx hb hr (fun t ht hW => ⟨_, rfl, (by exact ((iF_t c_1b).trans ((iF_f c_4b).trans (iF_f c_5b))).symm), ht⟩) (fun _ h => absurd h List.not_mem_nil) dX5_findingOfBook_42
        · skip
          have c_5b := bI_n c_5
          refine lv_iconst (v := 0) hx hb dX5_findingOfBook_36 (by decide) ?_
          refine lv_goto (tgt := 42) hx hb dX5_findingOfBook_37 (by decide) ?_
          exact W.iret hx hb hr (fun t ht hW => ⟨_, rfl, (by exact ((iF_t c_1b).trans ((iF_f c_4b).trans (iF_t c_5b))).symm), ht⟩) (fun _ h => absurd h List.not_mem_nil) dX5_findingOfBook_42
      · skip
        have c_4b := bI_n c_4
        refine lv_ldc hx hb hown k196 dX5_findingOfBook_22 ?_
        exact W.iret hx hb hr (fun t ht hW => ⟨_, rfl, (by exact ((iF_t c_1b).trans (iF_t c_4b)).symm), ht⟩) (fun _ h => absurd h List.not_mem_nil) dX5_findingOfBook_24
    · skip
      refine lv_aload_n hx hb dX5_findingOfBook_10 rfl (lv_at hl 0 rfl) ?_
      refine va_get (ci := 3) (v := .ref (b 6 0)) (C := RX5) (T := TX5) (N := 7) hx hb hts inX5 hown hK hP 0 rfl rfl 5 (by decide) f35 (fun _ h9 => h9) rfl dX5_findingOfBook_11 ?_
      refine lv_iload_n hx hb dX5_findingOfBook_14 rfl (lv_at hl 1 rfl) ?_
      refine va_aldq (f := fun s => some (b 7 s)) hx hb hK hP 39 2 rfl rfl (vp_in_iff.mpr (by decide)) dX5_findingOfBook_15 ?_
      refine W.eq (g2 := F0 m 16 ls [.ref (b 7 2)]) rfl ?_
      refine callE (W.runV (As := []) (rest := []) ⟨hx, hb, hml, hown, hts⟩ (k_X2_isMissing l D cI cL cS (b 7 2) (b 8 2) (bits 2) (size 2) (num 2)) (cwV 0 hts gX5_findingOfBook_X2_isMissing rfl rfl rfl (by decide +kernel) ⟨Nat.le_of_ble_eq_true rfl, Nat.le_of_ble_eq_true rfl⟩) ⟨PcR_fb, va_recv hK hP (ci := 0) (q0 := 44) rfl rfl, PcR_pre (va_seg hP 44 2 rfl) hK⟩ rfl rfl hl.1 rfl (lv_room (Nat.le_of_ble_eq_true rfl)) dX5_findingOfBook_16 ⟨Nat.zero_le _, Nat.zero_le _⟩) ?_
      refine lv_if_eq (tgt := 25) hx hb dX5_findingOfBook_19 (by decide) (fun c_6 => ?_) (fun c_6 => ?_)
      · skip
        have c_6b := bI_0 c_6
        refine lv_aload_n hx hb dX5_findingOfBook_25 rfl (lv_at hl 0 rfl) ?_
        refine va_get (ci := 3) (v := .ref (b 1 0)) (C := RX5) (T := TX5) (N := 7) hx hb hts inX5 hown hK hP 0 rfl rfl 0 (by decide) f10 (fun _ h9 => h9) rfl dX5_findingOfBook_26 ?_
        refine lv_iload_n hx hb dX5_findingOfBook_29 rfl (lv_at hl 2 rfl) ?_
        refine callE (W.runV (As := [.int x1]) (rest := []) ⟨hx, hb, hml, hown, hts⟩ (k_X3_has l D cI cL cS (b 1) (sCo s1) (sGu s1) (sKn s1) (sFo s1) (sSp s1) w1 (sKi s1) (sPl s1) (sEa s1) (sTo s1) (sQu s1) m1 n1 x1 o1.1.gu) (cwV 1 hts gX5_findingOfBook_X3_has rfl rfl rfl (by decide +kernel) ⟨Nat.le_of_ble_eq_true rfl, Nat.le_of_ble_eq_true rfl⟩) ⟨PcR_fb, va_recv hK hP (ci := 1) (q0 := 1) rfl rfl, PcR_pre (va_seg hP 1 12 rfl) hK⟩ rfl rfl hl.1 rfl (lv_room (Nat.le_of_ble_eq_true rfl)) dX5_findingOfBook_30 ⟨Nat.zero_le _, Nat.zero_le _⟩) ?_
        refine lv_if_eq (tgt := 40) hx hb dX5_findingOfBook_33 (by decide) (fun c_7 => ?_) (fun c_7 => ?_)
        · skip
          have c_7b := bI_0 c_7
          refine lv_ldc hx hb hown k52 dX5_findingOfBook_40 ?_
          exact W.iret hx hb hr (fun t ht hW => ⟨_, rfl, (by exact ((iF_t c_1b).trans ((iF_f c_6b).trans (iF_f c_7b))).symm), ht⟩) (fun _ h => absurd h List.not_mem_nil) dX5_findingOfBook_42
        · skip
          have c_7b := bI_n c_7
          refine lv_iconst (v := 0) hx hb dX5_findingOfBook_36 (by decide) ?_
          refine lv_goto (tgt := 42) hx hb dX5_findingOfBook_37 (by decide) ?_
          exact W.iret hx hb hr (fun t ht hW => ⟨_, rfl, (by exact ((iF_t c_1b).trans ((iF_f c_6b).trans (iF_t c_7b))).symm), ht⟩) (fun _ h => absurd h List.not_mem_nil) dX5_findingOfBook_42
      · skip
        have c_6b := bI_n c_6
        refine lv_ldc hx hb hown k196 dX5_findingOfBook_22 ?_
        exact W.iret hx hb hr (fun t ht hW => ⟨_, rfl, (by exact ((iF_t c_1b).trans (iF_t c_6b)).symm), ht⟩) (fun _ h => absurd h List.not_mem_nil) dX5_findingOfBook_24
    · skip
      refine lv_aload_n hx hb dX5_findingOfBook_10 rfl (lv_at hl 0 rfl) ?_
      refine va_get (ci := 3) (v := .ref (b 6 0)) (C := RX5) (T := TX5) (N := 7) hx hb hts inX5 hown hK hP 0 rfl rfl 5 (by decide) f35 (fun _ h9 => h9) rfl dX5_findingOfBook_11 ?_
      refine lv_iload_n hx hb dX5_findingOfBook_14 rfl (lv_at hl 1 rfl) ?_
      refine va_aldq (f := fun s => some (b 7 s)) hx hb hK hP 39 2 rfl rfl (vp_in_iff.mpr (by decide)) dX5_findingOfBook_15 ?_
      refine W.eq (g2 := F0 m 16 ls [.ref (b 7 3)]) rfl ?_
      refine callE (W.runV (As := []) (rest := []) ⟨hx, hb, hml, hown, hts⟩ (k_X2_isMissing l D cI cL cS (b 7 3) (b 8 3) (bits 3) (size 3) (num 3)) (cwV 0 hts gX5_findingOfBook_X2_isMissing rfl rfl rfl (by decide +kernel) ⟨Nat.le_of_ble_eq_true rfl, Nat.le_of_ble_eq_true rfl⟩) ⟨PcR_fb, va_recv hK hP (ci := 0) (q0 := 46) rfl rfl, PcR_pre (va_seg hP 46 2 rfl) hK⟩ rfl rfl hl.1 rfl (lv_room (Nat.le_of_ble_eq_true rfl)) dX5_findingOfBook_16 ⟨Nat.zero_le _, Nat.zero_le _⟩) ?_
      refine lv_if_eq (tgt := 25) hx hb dX5_findingOfBook_19 (by decide) (fun c_8 => ?_) (fun c_8 => ?_)
      · skip
        have c_8b := bI_0 c_8
        refine lv_aload_n hx hb dX5_findingOfBook_25 rfl (lv_at hl 0 rfl) ?_
        refine va_get (ci := 3) (v := .ref (b 1 0)) (C := RX5) (T := TX5) (N := 7) hx hb hts inX5 hown hK hP 0 rfl rfl 0 (by decide) f10 (fun _ h9 => h9) rfl dX5_findingOfBook_26 ?_
        refine lv_iload_n hx hb dX5_findingOfBook_29 rfl (lv_at hl 2 rfl) ?_
        refine callE (W.runV (As := [.int x1]) (rest := []) ⟨hx, hb, hml, hown, hts⟩ (k_X3_has l D cI cL cS (b 1) (sCo s1) (sGu s1) (sKn s1) (sFo s1) (sSp s1) w1 (sKi s1) (sPl s1) (sEa s1) (sTo s1) (sQu s1) m1 n1 x1 o1.1.gu) (cwV 1 hts gX5_findingOfBook_X3_has rfl rfl rfl (by decide +kernel) ⟨Nat.le_of_ble_eq_true rfl, Nat.le_of_ble_eq_true rfl⟩) ⟨PcR_fb, va_recv hK hP (ci := 1) (q0 := 1) rfl rfl, PcR_pre (va_seg hP 1 12 rfl) hK⟩ rfl rfl hl.1 rfl (lv_room (Nat.le_of_ble_eq_true rfl)) dX5_findingOfBook_30 ⟨Nat.zero_le _, Nat.zero_le _⟩) ?_
        refine lv_if_eq (tgt := 40) hx hb dX5_findingOfBook_33 (by decide) (fun c_9 => ?_) (fun c_9 => ?_)
        · skip
          have c_9b := bI_0 c_9
          refine lv_ldc hx hb hown k52 dX5_findingOfBook_40 ?_
          exact W.iret hx hb hr (fun t ht hW => ⟨_, rfl, (by exact ((iF_t c_1b).trans ((iF_f c_8b).trans (iF_f c_9b))).symm), ht⟩) (fun _ h => absurd h List.not_mem_nil) dX5_findingOfBook_42
        · skip
          have c_9b := bI_n c_9
          refine lv_iconst (v := 0) hx hb dX5_findingOfBook_36 (by decide) ?_
          refine lv_goto (tgt := 42) hx hb dX5_findingOfBook_37 (by decide) ?_
          exact W.iret hx hb hr (fun t ht hW => ⟨_, rfl, (by exact ((iF_t c_1b).trans ((iF_f c_8b).trans (iF_t c_9b))).symm), ht⟩) (fun _ h => absurd h List.not_mem_nil) dX5_findingOfBook_42
      · skip
        have c_8b := bI_n c_8
        refine lv_ldc hx hb hown k196 dX5_findingOfBook_22 ?_
        exact W.iret hx hb hr (fun t ht hW => ⟨_, rfl, (by exact ((iF_t c_1b).trans (iF_t c_8b)).symm), ht⟩) (fun _ h => absurd h List.not_mem_nil) dX5_findingOfBook_24
  · skip
    have c_1b := bI_0 c_1
    refine lv_ldc hx hb hown k52 dX5_findingOfBook_7 ?_
    exact W.iret hx hb hr (fun t ht hW => ⟨_, rfl, (by exact (iF_f c_1b).symm), ht⟩) (fun _ h => absurd h List.not_mem_nil) dX5_findingOfBook_9

set_option maxRecDepth 100000 in
set_option maxHeartbeats 4000000 in
theorem k_X5_book (l : Launch) (D : va_G) (cI cL cS : ClassId) (b : Nat → Nat → Nat) (s1 : Sg) (w1 m1 n1 : FI) (s2 : Sg) (w2 m2 n2 : FI) (s3 : Sg) (w3 m3 n3 : FI) (ik : Int32) (bt : FI) (ln tk sb en nm : Int32) (bits size : FI) (num : Nat → FJ) (fnd : FI) (x0 : Int32) (x1 : Int32) (dj : va_D (fun _ => True) (djk b)) (o1 : okS s1 w1) (oh : okH bits size) : Met l yX5_book wsX5_book { frames := 4, cells := 0, slots := 0, locals := 89 } (PcR D vwCl (tyG cI cL cS) [.ref (b 0 0), .int x0, .int x1] (kcw cI cL cS b s1 w1 m1 n1 s2 w2 m2 n2 s3 w3 m3 n3 ik bt ln tk sb en nm bits size num fnd)) (va_Qi (fun (r : Int32) (u : Sg × FI × FI × FI × (Nat → FJ) × FI) => (r, u.2.2.2.2.1, u.2.2.2.2.2) = sBook bits size num s1 fnd x0 x1) (fun u t => va_P D vwCl (kcw cI cL cS b s1 w1 m1 n1 u.1 u.2.1 u.2.2.1 u.2.2.2.1 s3 w3 m3 n3 ik bt ln tk sb en nm bits size u.2.2.2.2.1 u.2.2.2.2.2) t.heap) (Aof (kcw cI cL cS b s1 w1 m1 n1 s2 w2 m2 n2 s3 w3 m3 n3 ik bt ln tk sb en nm bits size num fnd))) 0 0 (Aof (kcw cI cL cS b s1 w1 m1 n1 s2 w2 m2 n2 s3 w3 m3 n3 ik bt ln tk sb en nm bits size num fnd)) := by
  refine Met.ofW (cc := cX5_book) (maxL := 6) (ret := (some .int)) (by decide) rfl ?_
  intro p e s m args below meth c s₁ B hml hv
  obtain ⟨rfl, hP, hK⟩ := hv
  have hx := B.exec
  have hb := B.bytes
  have hr := B.returns
  have hts := atoms_spec (ws := wsX5_book) B.pre
  have hown : s.vm.findClass RX5 = some m.cls := findClass_of_methodNamed B.named
  have hlocks := B.notSynchronized
  obtain ⟨A, hAe⟩ : ∃ A, A = Aof (kcw cI cL cS b s1 w1 m1 n1 s2 w2 m2 n2 s3 w3 m3 n3 ik bt ln tk sb en nm bits size num fnd) := ⟨_, rfl⟩
  rw [← hAe]
  have hD : ∀ ws' : va_W, ws'.map Prod.fst = (kcw cI cL cS b s1 w1 m1 n1 s2 w2 m2 n2 s3 w3 m3 n3 ik bt ln tk sb en nm bits size num fnd).map Prod.fst → va_D A ws' := fun ws' e => by rw [hAe]; exact va_D_adr (va_D_self (va_D_adr dj rfl)) e
  have hS : va_S A s.heap s.heap [] := va_S.rf
  have hP : va_P D vwCl (kcw cI cL cS b s1 w1 m1 n1 s2 w2 m2 n2 s3 w3 m3 n3 ik bt ln tk sb en nm bits size num fnd) s.heap := hP
  have hl := lv_entry ([.ref (b 0 0), .int x0, .int x1]) (n := 6) (Nat.le_of_ble_eq_true rfl)
  rw [lg_entry_eq]
  generalize (lg_sl ([.ref (b 0 0), .int x0, .int x1]) ++ List.replicate (6 - (lg_sl ([.ref (b 0 0), .int x0, .int x1])).length) Slot.unset).toArray = ls at hl ⊢
  have hl : lv_has ls 6 [(0, .ref (b 0 0)), (1, .int x0), (2, .int x1)] := hl
  have f35 := hts (.fieldLink RX5 35 "KnivesLaid" "sheets" "[LKnivesLaid$Sheet;") (List.mem_of_getElem? (i := 1) rfl)
  have inX5 : ∀ w ∈ u_ws RX5 TX5 7, w ∈ wsX5_book := in_at 130 _ _ rfl
  have f16 := hts (.fieldLink RX5 16 "KnivesLaid" "trial" "LKnivesLaid$Table;") (List.mem_of_getElem? (i := 2) rfl)
  have f10 := hts (.fieldLink RX5 10 "KnivesLaid" "table" "LKnivesLaid$Table;") (List.mem_of_getElem? (i := 3) rfl)
  have f189 := hts (.fieldLink RX5 189 "KnivesLaid$Sheet" "size" "I") (List.mem_of_getElem? (i := 4) rfl)
  have inX2 : ∀ w ∈ u_ws RX2 TX2 3, w ∈ wsX5_book := in_at 137 _ _ rfl
  have f107 := hts (.fieldLink RX5 107 "KnivesLaid$Table" "ease" "[I") (List.mem_of_getElem? (i := 5) rfl)
  have inX3 : ∀ w ∈ u_ws RX3 TX3 13, w ∈ wsX5_book := in_at 140 _ _ rfl
  skip
  refine lv_aload_n hx hb dX5_book_0 rfl (lv_at hl 0 rfl) ?_
  refine lv_iload_n hx hb dX5_book_1 rfl (lv_at hl 1 rfl) ?_
  refine lv_iload_n hx hb dX5_book_2 rfl (lv_at hl 2 rfl) ?_
  refine callE (W.runV (As := [.int x0, .int x1]) (rest := []) ⟨hx, hb, hml, hown, hts⟩ (k_X5_findingOfBook l D cI cL cS b s1 w1 m1 n1 s2 w2 m2 n2 s3 w3 m3 n3 ik bt ln tk sb en nm bits size num fnd x0 x1 o1) (cwV 2 hts gX5_book_X5_findingOfBook rfl rfl rfl (by decide +kernel) ⟨Nat.le_of_ble_eq_true rfl, Nat.le_of_ble_eq_true rfl⟩) ⟨PcR_fb, va_recv hK hP (ci := 3) (q0 := 0) rfl rfl, PcR_pre hP hK⟩ rfl rfl hl.1 rfl (lv_room (Nat.le_of_ble_eq_true rfl)) dX5_book_3 ⟨Nat.zero_le _, Nat.zero_le _⟩) ?_
  refine lv_istore_n (lv' := [(3, .int (sFob bits s1 x0 x1)), (0, .ref (b 0 0)), (1, .int x0), (2, .int x1)]) hx hb dX5_book_6 rfl hl (by decide) rfl (fun ls hl => ?_)
  refine lv_iload_n hx hb dX5_book_7 rfl (lv_at hl 0 rfl) ?_
  refine lv_if_eq (tgt := 17) hx hb dX5_book_8 (by decide) (fun c_1 => ?_) (fun c_1 => ?_)
  · skip
    have hf0 := c_1
    obtain ⟨hs, hbz, h1n⟩ := fob_0 hf0
    have h8 : vp_in x1 8 := in_8 o1.1.gu h1n
    rcases in4 hs with rfl | rfl | rfl | rfl
    · skip
      have hz := sz_of (oh 0 (by decide)).1
      refine lv_aload_n hx hb dX5_book_17 rfl (lv_at hl 1 rfl) ?_
      refine va_get (ci := 3) (v := .ref (b 6 0)) (C := RX5) (T := TX5) (N := 7) hx hb hts inX5 hown hK hP 0 rfl rfl 5 (by decide) f35 (fun _ h9 => h9) rfl dX5_book_18 ?_
      refine lv_iload_n hx hb dX5_book_21 rfl (lv_at hl 2 rfl) ?_
      refine va_aldq (f := fun s => some (b 7 s)) hx hb hK hP 39 2 rfl rfl (vp_in_iff.mpr (by decide)) dX5_book_22 ?_
      refine W.eq (g2 := F0 m 23 ls [.ref (b 7 0)]) rfl ?_
      refine lv_astore (lv' := [(4, .ref (b 7 0)), (3, .int (sFob bits s1 0 x1)), (0, .ref (b 0 0)), (1, .int 0), (2, .int x1)]) hx hb dX5_book_23 hl (by decide) rfl (fun ls hl => ?_)
      refine lv_aload_n hx hb dX5_book_25 rfl (lv_at hl 2 rfl) ?_
      refine va_get (ci := 3) (v := .ref (b 2 0)) (C := RX5) (T := TX5) (N := 7) hx hb hts inX5 hown hK hP 0 rfl rfl 1 (by decide) f16 (fun _ h9 => h9) rfl dX5_book_26 ?_
      refine lv_aload_n hx hb dX5_book_29 rfl (lv_at hl 2 rfl) ?_
      refine va_get (ci := 3) (v := .ref (b 1 0)) (C := RX5) (T := TX5) (N := 7) hx hb hts inX5 hown hK hP 0 rfl rfl 0 (by decide) f10 (fun _ h9 => h9) rfl dX5_book_30 ?_
      refine callBec (wt := tbw cI (b 2) (sCo s2) (sGu s2) (sKn s2) (sFo s2) (sSp s2) w2 (sKi s2) (sPl s2) (sEa s2) (sTo s2) (sQu s2) m2 n2) (wo := tbw cI (b 1) (sCo s1) (sGu s1) (sKn s1) (sFo s1) (sSp s1) w1 (sKi s1) (sPl s1) (sEa s1) (sTo s1) (sQu s1) m1 n1) (w1 := tbw cI (b 2) (sCo s1) (sGu s1) (sKn s1) (sFo s1) (sSp s1) w1 (sKi s1) (sPl s1) (sEa s1) (sTo s1) (sQu s1) m2 n2) (va_runV (As := [.ref (b 1 0)]) (rest := []) ⟨hx, hb, hml, hown, hts⟩ (k_X3_become l D cI cL cS (b 2) (sCo s2) (sGu s2) (sKn s2) (sFo s2) (sSp s2) w2 (sKi s2) (sPl s2) (sEa s2) (sTo s2) (sQu s2) m2 n2 (b 1) (sCo s1) (sGu s1) (sKn s1) (sFo s1) (sSp s1) w1 (sKi s1) (sPl s1) (sEa s1) (sTo s1) (sQu s1) m1 n1 (va_DT (va_D.sub (ws' := tbw2 cI (b 2) (b 1) (sCo s2) (sGu s2) (sKn s2) (sFo s2) (sSp s2) w2 (sKi s2) (sPl s2) (sEa s2) (sTo s2) (sQu s2) m2 n2 (sCo s1) (sGu s1) (sKn s1) (sFo s1) (sSp s1) w1 (sKi s1) (sPl s1) (sEa s1) (sTo s1) (sQu s1) m1 n1) (hD (kcw cI cL cS b s1 w1 m1 n1 s2 w2 m2 n2 s3 w3 m3 n3 ik bt ln tk sb en nm bits size num fnd) rfl) [13, 14, 15, 16, 17, 18, 19, 20, 21, 22, 23, 24, 1, 2, 3, 4, 5, 6, 7, 8, 9, 10, 11, 12] (by decide) rfl) rfl)) (cwV 1 hts gX5_book_X3_become rfl rfl rfl (by decide +kernel) ⟨Nat.le_of_ble_eq_true rfl, Nat.le_of_ble_eq_true rfl⟩) ⟨PcR_fb, va_recv hK hP (ci := 1) (q0 := 13) rfl rfl, PcR_pre (va_P.sub hP [13, 14, 15, 16, 17, 18, 19, 20, 21, 22, 23, 24, 1, 2, 3, 4, 5, 6, 7, 8, 9, 10, 11, 12] rfl) hK⟩ rfl rfl hl.1 rfl (lv_room (Nat.le_of_ble_eq_true rfl)) dX5_book_33 ⟨Nat.zero_le _, Nat.zero_le _⟩) hP (hD _ rfl) hS 13 12 1 12 rfl rfl rfl (fun H locs hP hS => ?_)
      have hP : va_P D vwCl (kcw cI cL cS b s1 w1 m1 n1 s1 w1 m2 n2 s3 w3 m3 n3 ik bt ln tk sb en nm bits size num fnd) H := hP
      refine lv_aload_n hx hb dX5_book_36 rfl (lv_at hl 2 rfl) ?_
      refine va_get (ci := 3) (v := .ref (b 2 0)) (C := RX5) (T := TX5) (N := 7) hx hb hts inX5 hown hK hP 0 rfl rfl 1 (by decide) f16 (fun _ h9 => h9) rfl dX5_book_37 ?_
      refine callMv (va_runV (As := []) (rest := []) ⟨hx, hb, hml, hown, hts⟩ (k_X3_findMore l D cI cL cS (b 2) (sCo s1) (sGu s1) (sKn s1) (sFo s1) (sSp s1) w1 (sKi s1) (sPl s1) (sEa s1) (sTo s1) (sQu s1) m2 n2 (va_DT (va_segD (hD _ rfl) 13 12 rfl) rfl) o1.1) (cwV 0 hts gX5_book_X3_findMore rfl rfl rfl (by decide +kernel) ⟨Nat.le_of_ble_eq_true rfl, Nat.le_of_ble_eq_true rfl⟩) ⟨PcR_fb, va_recv hK hP (ci := 1) (q0 := 13) rfl rfl, PcR_pre (va_seg hP 13 12 rfl) hK⟩ rfl rfl hl.1 rfl (lv_room (Nat.le_of_ble_eq_true rfl)) dX5_book_40 ⟨Nat.zero_le _, Nat.zero_le _⟩) hP (hD _ rfl) hS 13 12 rfl (fun u_2 H locs hu_2 hP hS => ?_)
      obtain ⟨mo_4, ne_5⟩ := u_2
      have hu_2 : (∀ g, g < ix (sGu s1) → mo_4 g = sMore (sGu s1) (sKn s1) (sFo s1) (sSp s1) (sKi s1) (sPl s1) g) ∧ (∀ g, g < ix (sGu s1) → ne_5 g = sNear (sGu s1) (sPl s1) g) := hu_2
      have hMN := hu_2
      have hP : va_P D vwCl (kcw cI cL cS b s1 w1 m1 n1 s1 w1 mo_4 ne_5 s3 w3 m3 n3 ik bt ln tk sb en nm bits size num fnd) H := hP
      have hP : va_P D vwCl (kcw cI cL cS b s1 w1 m1 n1 (sPass 0 s1) w1 mo_4 ne_5 s3 w3 m3 n3 ik bt ln tk sb en nm bits size (va_up num 0 (fa_fill (fBook s1 x1) (num 0) 0)) fnd) H := by rw [fa_fill_0, va_up_id]; exact hP
      refine lv_iconst (v := 0) hx hb dX5_book_43 (by decide) ?_
      refine lv_istore (lv' := [(5, .int 0), (4, .ref (b 7 0)), (3, .int (sFob bits s1 0 x1)), (0, .ref (b 0 0)), (1, .int 0), (2, .int x1)]) hx hb dX5_book_44 hl (by decide) rfl (fun ls hl => ?_)
      refine lpW (fun n (u : Nat) H locs ls => (u + n = ix (size 0)) ∧ va_P D vwCl (kcw cI cL cS b s1 w1 m1 n1 (sPass u s1) w1 mo_4 ne_5 s3 w3 m3 n3 ik bt ln tk sb en nm bits size (va_up num 0 (fa_fill (fBook s1 x1) (num 0) u)) fnd) H ∧ va_S A s.heap H locs ∧ lv_has ls 6 [(0, .ref (b 0 0)), (2, .int x1), (4, .ref (b 7 0)), (5, .int (nI u))]) (ix (size 0)) (0) ⟨by omega, hP, hS, lv_sub hl [3, 5, 1, 0] rfl⟩ (fun n ih u H locs ls hI => ?_)
      obtain ⟨i, rfl⟩ : ∃ z, z = u := ⟨_, rfl⟩
      obtain ⟨hi0, hP, hS, hl⟩ := hI
      have hi0 : i + n = ix (size 0) := hi0
      have hl : lv_has ls 6 [(0, .ref (b 0 0)), (2, .int x1), (4, .ref (b 7 0)), (5, .int (nI i))] := hl
      have hP : va_P D vwCl (kcw cI cL cS b s1 w1 m1 n1 (sPass i s1) w1 mo_4 ne_5 s3 w3 m3 n3 ik bt ln tk sb en nm bits size (va_up num 0 (fa_fill (fBook s1 x1) (num 0) i)) fnd) H := hP
      have hix : ix (nI i) = i := ix_nI (by omega)
      refine lv_iload hx hb dX5_book_46 (lv_at hl 3 rfl) ?_
      refine lv_aload hx hb dX5_book_48 (lv_at hl 2 rfl) ?_
      refine va_get (ci := 0) (v := .int (size 0)) (C := RX2) (T := TX2) (N := 3) hx hb hts inX2 hown hK hP 40 rfl rfl 1 (by decide) f189 (fun _ h9 => h9) rfl dX5_book_50 ?_
      refine lv_icmp_ge (tgt := 86) hx hb dX5_book_53 (by decide) (fun c_6 => ?_) (fun c_6 => ?_)
      · skip
        have c_6n := (cmp_le (a := ix (size 0)) (b := i) hz.1 rfl (by omega) (by omega)).mp c_6
        refine lv_aload hx hb dX5_book_86 (lv_at hl 2 rfl) ?_
        refine va_get (ci := 0) (v := .int (size 0)) (C := RX2) (T := TX2) (N := 3) hx hb hts inX2 hown hK hP 40 rfl rfl 1 (by decide) f189 (fun _ h9 => h9) rfl dX5_book_88 ?_
        exact W.iret hx hb hr (fun t ht hW => ⟨⟨_, (sPass i s1, w1, mo_4, ne_5, va_up num 0 (fa_fill (fBook s1 x1) (num 0) i), fnd), rfl, (by refine Eq.symm ((iF_t hf0).trans ?_); rw [show ix (size (ix 0)) = i by show ix (size 0) = i; omega]; rfl), by dsimp only; rw [ht]; exact hP⟩, hS.F ht⟩) hS.2.2 dX5_book_91
      · skip
        have c_6n := mt (cmp_le (a := ix (size 0)) (b := i) hz.1 rfl (by omega) (by omega)).mpr c_6
        refine lv_aload hx hb dX5_book_56 (lv_at hl 2 rfl) ?_
        refine lv_iload hx hb dX5_book_58 (lv_at hl 3 rfl) ?_
        refine lv_aload_n hx hb dX5_book_60 rfl (lv_at hl 0 rfl) ?_
        refine va_get (ci := 3) (v := .ref (b 2 0)) (C := RX5) (T := TX5) (N := 7) hx hb hts inX5 hown hK hP 0 rfl rfl 1 (by decide) f16 (fun _ h9 => h9) rfl dX5_book_61 ?_
        refine va_get (ci := 1) (v := .ref (b 2 7)) (C := RX3) (T := TX3) (N := 13) hx hb hts inX3 hown hK hP 13 rfl rfl 8 (by decide) f107 (fun _ h9 => h9) rfl dX5_book_64 ?_
        refine lv_iload_n hx hb dX5_book_67 rfl (lv_at hl 1 rfl) ?_
        refine va_iald hx hb hK hP 20 0 rfl rfl (by assumption) dX5_book_68 ?_
        refine lv_i2l (v := ((sEa (sPass i s1)) (ix x1)).toInt64) hx hb dX5_book_69 rfl ?_
        refine callMv (va_runV (As := [.int (nI i), .long (((sEa (sPass i s1)) (ix x1)).toInt64)]) (rest := []) ⟨hx, hb, hml, hown, hts⟩ (k_X2_put l D cI cL cS (b 7 0) (b 8 0) (bits 0) (size 0) ((va_up num 0 (fa_fill (fBook s1 x1) (num 0) i)) 0) (nI i) (((sEa (sPass i s1)) (ix x1)).toInt64) (va_DT (va_segD (hD (kcw cI cL cS b s1 w1 m1 n1 (sPass i s1) w1 mo_4 ne_5 s3 w3 m3 n3 ik bt ln tk sb en nm bits size (va_up num 0 (fa_fill (fBook s1 x1) (num 0) i)) fnd) rfl) 40 2 rfl) rfl) (vp_in_nI (by omega) (by omega))) (cwV 2 hts gX5_book_X2_put rfl rfl rfl (by decide +kernel) ⟨Nat.le_of_ble_eq_true rfl, Nat.le_of_ble_eq_true rfl⟩) ⟨PcR_fb, va_recv hK hP (ci := 0) (q0 := 40) rfl rfl, PcR_pre (va_seg hP 40 2 rfl) hK⟩ rfl rfl hl.1 rfl (lv_room (Nat.le_of_ble_eq_true rfl)) dX5_book_70 ⟨Nat.zero_le _, Nat.zero_le _⟩) hP (hD _ rfl) hS 40 2 rfl (fun u_7 H locs hu_7 hP hS => ?_)
        have hP : va_P D vwCl (kcw cI cL cS b s1 w1 m1 n1 (sPass i s1) w1 mo_4 ne_5 s3 w3 m3 n3 ik bt ln tk sb en nm bits size (va_up (va_up num 0 (fa_fill (fBook s1 x1) (num 0) i)) 0 (vp_updL ((va_up num 0 (fa_fill (fBook s1 x1) (num 0) i)) 0) (ix (nI i)) (sNar (bits 0) (((sEa (sPass i s1)) (ix x1)).toInt64)))) fnd) H := hP
        refine lv_aload_n hx hb dX5_book_73 rfl (lv_at hl 0 rfl) ?_
        refine va_get (ci := 3) (v := .ref (b 2 0)) (C := RX5) (T := TX5) (N := 7) hx hb hts inX5 hown hK hP 0 rfl rfl 1 (by decide) f16 (fun _ h9 => h9) rfl dX5_book_74 ?_
        refine callMv (va_runV (As := []) (rest := []) ⟨hx, hb, hml, hown, hts⟩ (k_X3_serveOne l D cI cL cS (b 2) (sCo (sPass i s1)) (sGu (sPass i s1)) (sKn (sPass i s1)) (sFo (sPass i s1)) (sSp (sPass i s1)) w1 (sKi (sPass i s1)) (sPl (sPass i s1)) (sEa (sPass i s1)) (sTo (sPass i s1)) (sQu (sPass i s1)) mo_4 ne_5 (va_DT (va_segD (hD _ rfl) 13 12 rfl) rfl) ((okS_pass o1 i).1) ((okS_pass o1 i).2) (pass_more (σ := s1) hMN.1 i) (pass_near (σ := s1) hMN.2 i)) (cwV 0 hts gX5_book_X3_serveOne rfl rfl rfl (by decide +kernel) ⟨Nat.le_of_ble_eq_true rfl, Nat.le_of_ble_eq_true rfl⟩) ⟨PcR_fb, va_recv hK hP (ci := 1) (q0 := 13) rfl rfl, PcR_pre (va_seg hP 13 12 rfl) hK⟩ rfl rfl hl.1 rfl (lv_room (Nat.le_of_ble_eq_true rfl)) dX5_book_77 ⟨Nat.zero_le _, Nat.zero_le _⟩) hP (hD _ rfl) hS 13 12 rfl (fun u_9 H locs hu_9 hP hS => ?_)
        have hP : va_P D vwCl (kcw cI cL cS b s1 w1 m1 n1 (uQu (uTo (uEa (uCo (sPass i s1) ((sCo (sPass i s1)) + 1)) (cEa (sGu (sPass i s1)) (sKn (sPass i s1)) (sFo (sPass i s1)) (sSp (sPass i s1)) (sKi (sPass i s1)) (sPl (sPass i s1)) (sEa (sPass i s1)))) (cTo (sGu (sPass i s1)) (sSp (sPass i s1)) (sKi (sPass i s1)) (sPl (sPass i s1)) (sEa (sPass i s1)) (sTo (sPass i s1)))) (cQu (sGu (sPass i s1)) (sKi (sPass i s1)) (sPl (sPass i s1)) (cEa (sGu (sPass i s1)) (sKn (sPass i s1)) (sFo (sPass i s1)) (sSp (sPass i s1)) (sKi (sPass i s1)) (sPl (sPass i s1)) (sEa (sPass i s1))) (sQu (sPass i s1)))) w1 mo_4 ne_5 s3 w3 m3 n3 ik bt ln tk sb en nm bits size (va_up (va_up num 0 (fa_fill (fBook s1 x1) (num 0) i)) 0 (vp_updL ((va_up num 0 (fa_fill (fBook s1 x1) (num 0) i)) 0) (ix (nI i)) (sNar (bits 0) (((sEa (sPass i s1)) (ix x1)).toInt64)))) fnd) H := hP
        refine lv_iinc (v := nI (i + 1)) (lv' := [(5, .int (nI (i + 1))), (0, .ref (b 0 0)), (2, .int x1), (4, .ref (b 7 0))]) hx hb dX5_book_80 hl (k := 3) rfl (nI_1 _) (by decide) rfl (fun ls hl => ?_)
        refine lv_goto (tgt := 46) hx hb dX5_book_83 (by decide) ?_
        have hP : va_P D vwCl (kcw cI cL cS b s1 w1 m1 n1 (sPass (i + 1) s1) w1 mo_4 ne_5 s3 w3 m3 n3 ik bt ln tk sb en nm bits size (va_up num 0 (fa_fill (fBook s1 x1) (num 0) (i + 1))) fnd) H := by rw [← book_step (b := bits 0) hix (okS_pass o1 i |>.2 _ (ix_lt (by decide) h8)).1]; exact hP
        exact ih (n - 1) (by omega) (i + 1) H locs ls ⟨by omega, hP, hS, lv_sub hl [1, 2, 3, 0] rfl⟩
    · skip
      have hz := sz_of (oh 1 (by decide)).1
      refine lv_aload_n hx hb dX5_book_17 rfl (lv_at hl 1 rfl) ?_
      refine va_get (ci := 3) (v := .ref (b 6 0)) (C := RX5) (T := TX5) (N := 7) hx hb hts inX5 hown hK hP 0 rfl rfl 5 (by decide) f35 (fun _ h9 => h9) rfl dX5_book_18 ?_
      refine lv_iload_n hx hb dX5_book_21 rfl (lv_at hl 2 rfl) ?_
      refine va_aldq (f := fun s => some (b 7 s)) hx hb hK hP 39 2 rfl rfl (vp_in_iff.mpr (by decide)) dX5_book_22 ?_
      refine W.eq (g2 := F0 m 23 ls [.ref (b 7 1)]) rfl ?_
      refine lv_astore (lv' := [(4, .ref (b 7 1)), (3, .int (sFob bits s1 1 x1)), (0, .ref (b 0 0)), (1, .int 1), (2, .int x1)]) hx hb dX5_book_23 hl (by decide) rfl (fun ls hl => ?_)
      refine lv_aload_n hx hb dX5_book_25 rfl (lv_at hl 2 rfl) ?_
      refine va_get (ci := 3) (v := .ref (b 2 0)) (C := RX5) (T := TX5) (N := 7) hx hb hts inX5 hown hK hP 0 rfl rfl 1 (by decide) f16 (fun _ h9 => h9) rfl dX5_book_26 ?_
      refine lv_aload_n hx hb dX5_book_29 rfl (lv_at hl 2 rfl) ?_
      refine va_get (ci := 3) (v := .ref (b 1 0)) (C := RX5) (T := TX5) (N := 7) hx hb hts inX5 hown hK hP 0 rfl rfl 0 (by decide) f10 (fun _ h9 => h9) rfl dX5_book_30 ?_
      refine callBec (wt := tbw cI (b 2) (sCo s2) (sGu s2) (sKn s2) (sFo s2) (sSp s2) w2 (sKi s2) (sPl s2) (sEa s2) (sTo s2) (sQu s2) m2 n2) (wo := tbw cI (b 1) (sCo s1) (sGu s1) (sKn s1) (sFo s1) (sSp s1) w1 (sKi s1) (sPl s1) (sEa s1) (sTo s1) (sQu s1) m1 n1) (w1 := tbw cI (b 2) (sCo s1) (sGu s1) (sKn s1) (sFo s1) (sSp s1) w1 (sKi s1) (sPl s1) (sEa s1) (sTo s1) (sQu s1) m2 n2) (va_runV (As := [.ref (b 1 0)]) (rest := []) ⟨hx, hb, hml, hown, hts⟩ (k_X3_become l D cI cL cS (b 2) (sCo s2) (sGu s2) (sKn s2) (sFo s2) (sSp s2) w2 (sKi s2) (sPl s2) (sEa s2) (sTo s2) (sQu s2) m2 n2 (b 1) (sCo s1) (sGu s1) (sKn s1) (sFo s1) (sSp s1) w1 (sKi s1) (sPl s1) (sEa s1) (sTo s1) (sQu s1) m1 n1 (va_DT (va_D.sub (ws' := tbw2 cI (b 2) (b 1) (sCo s2) (sGu s2) (sKn s2) (sFo s2) (sSp s2) w2 (sKi s2) (sPl s2) (sEa s2) (sTo s2) (sQu s2) m2 n2 (sCo s1) (sGu s1) (sKn s1) (sFo s1) (sSp s1) w1 (sKi s1) (sPl s1) (sEa s1) (sTo s1) (sQu s1) m1 n1) (hD (kcw cI cL cS b s1 w1 m1 n1 s2 w2 m2 n2 s3 w3 m3 n3 ik bt ln tk sb en nm bits size num fnd) rfl) [13, 14, 15, 16, 17, 18, 19, 20, 21, 22, 23, 24, 1, 2, 3, 4, 5, 6, 7, 8, 9, 10, 11, 12] (by decide) rfl) rfl)) (cwV 1 hts gX5_book_X3_become rfl rfl rfl (by decide +kernel) ⟨Nat.le_of_ble_eq_true rfl, Nat.le_of_ble_eq_true rfl⟩) ⟨PcR_fb, va_recv hK hP (ci := 1) (q0 := 13) rfl rfl, PcR_pre (va_P.sub hP [13, 14, 15, 16, 17, 18, 19, 20, 21, 22, 23, 24, 1, 2, 3, 4, 5, 6, 7, 8, 9, 10, 11, 12] rfl) hK⟩ rfl rfl hl.1 rfl (lv_room (Nat.le_of_ble_eq_true rfl)) dX5_book_33 ⟨Nat.zero_le _, Nat.zero_le _⟩) hP (hD _ rfl) hS 13 12 1 12 rfl rfl rfl (fun H locs hP hS => ?_)
      have hP : va_P D vwCl (kcw cI cL cS b s1 w1 m1 n1 s1 w1 m2 n2 s3 w3 m3 n3 ik bt ln tk sb en nm bits size num fnd) H := hP
      refine lv_aload_n hx hb dX5_book_36 rfl (lv_at hl 2 rfl) ?_
      refine va_get (ci := 3) (v := .ref (b 2 0)) (C := RX5) (T := TX5) (N := 7) hx hb hts inX5 hown hK hP 0 rfl rfl 1 (by decide) f16 (fun _ h9 => h9) rfl dX5_book_37 ?_
      refine callMv (va_runV (As := []) (rest := []) ⟨hx, hb, hml, hown, hts⟩ (k_X3_findMore l D cI cL cS (b 2) (sCo s1) (sGu s1) (sKn s1) (sFo s1) (sSp s1) w1 (sKi s1) (sPl s1) (sEa s1) (sTo s1) (sQu s1) m2 n2 (va_DT (va_segD (hD _ rfl) 13 12 rfl) rfl) o1.1) (cwV 0 hts gX5_book_X3_findMore rfl rfl rfl (by decide +kernel) ⟨Nat.le_of_ble_eq_true rfl, Nat.le_of_ble_eq_true rfl⟩) ⟨PcR_fb, va_recv hK hP (ci := 1) (q0 := 13) rfl rfl, PcR_pre (va_seg hP 13 12 rfl) hK⟩ rfl rfl hl.1 rfl (lv_room (Nat.le_of_ble_eq_true rfl)) dX5_book_40 ⟨Nat.zero_le _, Nat.zero_le _⟩) hP (hD _ rfl) hS 13 12 rfl (fun u_11 H locs hu_11 hP hS => ?_)
      obtain ⟨mo_13, ne_14⟩ := u_11
      have hu_11 : (∀ g, g < ix (sGu s1) → mo_13 g = sMore (sGu s1) (sKn s1) (sFo s1) (sSp s1) (sKi s1) (sPl s1) g) ∧ (∀ g, g < ix (sGu s1) → ne_14 g = sNear (sGu s1) (sPl s1) g) := hu_11
      have hMN := hu_11
      have hP : va_P D vwCl (kcw cI cL cS b s1 w1 m1 n1 s1 w1 mo_13 ne_14 s3 w3 m3 n3 ik bt ln tk sb en nm bits size num fnd) H := hP
      have hP : va_P D vwCl (kcw cI cL cS b s1 w1 m1 n1 (sPass 0 s1) w1 mo_13 ne_14 s3 w3 m3 n3 ik bt ln tk sb en nm bits size (va_up num 1 (fa_fill (fBook s1 x1) (num 1) 0)) fnd) H := by rw [fa_fill_0, va_up_id]; exact hP
      refine lv_iconst (v := 0) hx hb dX5_book_43 (by decide) ?_
      refine lv_istore (lv' := [(5, .int 0), (4, .ref (b 7 1)), (3, .int (sFob bits s1 1 x1)), (0, .ref (b 0 0)), (1, .int 1), (2, .int x1)]) hx hb dX5_book_44 hl (by decide) rfl (fun ls hl => ?_)
      refine lpW (fun n (u : Nat) H locs ls => (u + n = ix (size 1)) ∧ va_P D vwCl (kcw cI cL cS b s1 w1 m1 n1 (sPass u s1) w1 mo_13 ne_14 s3 w3 m3 n3 ik bt ln tk sb en nm bits size (va_up num 1 (fa_fill (fBook s1 x1) (num 1) u)) fnd) H ∧ va_S A s.heap H locs ∧ lv_has ls 6 [(0, .ref (b 0 0)), (2, .int x1), (4, .ref (b 7 1)), (5, .int (nI u))]) (ix (size 1)) (0) ⟨by omega, hP, hS, lv_sub hl [3, 5, 1, 0] rfl⟩ (fun n ih u H locs ls hI => ?_)
      obtain ⟨i, rfl⟩ : ∃ z, z = u := ⟨_, rfl⟩
      obtain ⟨hi0, hP, hS, hl⟩ := hI
      have hi0 : i + n = ix (size 1) := hi0
      have hl : lv_has ls 6 [(0, .ref (b 0 0)), (2, .int x1), (4, .ref (b 7 1)), (5, .int (nI i))] := hl
      have hP : va_P D vwCl (kcw cI cL cS b s1 w1 m1 n1 (sPass i s1) w1 mo_13 ne_14 s3 w3 m3 n3 ik bt ln tk sb en nm bits size (va_up num 1 (fa_fill (fBook s1 x1) (num 1) i)) fnd) H := hP
      have hix : ix (nI i) = i := ix_nI (by omega)
      refine lv_iload hx hb dX5_book_46 (lv_at hl 3 rfl) ?_
      refine lv_aload hx hb dX5_book_48 (lv_at hl 2 rfl) ?_
      refine va_get (ci := 0) (v := .int (size 1)) (C := RX2) (T := TX2) (N := 3) hx hb hts inX2 hown hK hP 42 rfl rfl 1 (by decide) f189 (fun _ h9 => h9) rfl dX5_book_50 ?_
      refine lv_icmp_ge (tgt := 86) hx hb dX5_book_53 (by decide) (fun c_15 => ?_) (fun c_15 => ?_)
      · skip
        have c_15n := (cmp_le (a := ix (size 1)) (b := i) hz.1 rfl (by omega) (by omega)).mp c_15
        refine lv_aload hx hb dX5_book_86 (lv_at hl 2 rfl) ?_
        refine va_get (ci := 0) (v := .int (size 1)) (C := RX2) (T := TX2) (N := 3) hx hb hts inX2 hown hK hP 42 rfl rfl 1 (by decide) f189 (fun _ h9 => h9) rfl dX5_book_88 ?_
        exact W.iret hx hb hr (fun t ht hW => ⟨⟨_, (sPass i s1, w1, mo_13, ne_14, va_up num 1 (fa_fill (fBook s1 x1) (num 1) i), fnd), rfl, (by refine Eq.symm ((iF_t hf0).trans ?_); rw [show ix (size (ix 1)) = i by show ix (size 1) = i; omega]; rfl), by dsimp only; rw [ht]; exact hP⟩, hS.F ht⟩) hS.2.2 dX5_book_91
      · skip
        have c_15n := mt (cmp_le (a := ix (size 1)) (b := i) hz.1 rfl (by omega) (by omega)).mpr c_15
        refine lv_aload hx hb dX5_book_56 (lv_at hl 2 rfl) ?_
        refine lv_iload hx hb dX5_book_58 (lv_at hl 3 rfl) ?_
        refine lv_aload_n hx hb dX5_book_60 rfl (lv_at hl 0 rfl) ?_
        refine va_get (ci := 3) (v := .ref (b 2 0)) (C := RX5) (T := TX5) (N := 7) hx hb hts inX5 hown hK hP 0 rfl rfl 1 (by decide) f16 (fun _ h9 => h9) rfl dX5_book_61 ?_
        refine va_get (ci := 1) (v := .ref (b 2 7)) (C := RX3) (T := TX3) (N := 13) hx hb hts inX3 hown hK hP 13 rfl rfl 8 (by decide) f107 (fun _ h9 => h9) rfl dX5_book_64 ?_
        refine lv_iload_n hx hb dX5_book_67 rfl (lv_at hl 1 rfl) ?_
        refine va_iald hx hb hK hP 20 0 rfl rfl (by assumption) dX5_book_68 ?_
        refine lv_i2l (v := ((sEa (sPass i s1)) (ix x1)).toInt64) hx hb dX5_book_69 rfl ?_
        refine callMv (va_runV (As := [.int (nI i), .long (((sEa (sPass i s1)) (ix x1)).toInt64)]) (rest := []) ⟨hx, hb, hml, hown, hts⟩ (k_X2_put l D cI cL cS (b 7 1) (b 8 1) (bits 1) (size 1) ((va_up num 1 (fa_fill (fBook s1 x1) (num 1) i)) 1) (nI i) (((sEa (sPass i s1)) (ix x1)).toInt64) (va_DT (va_segD (hD (kcw cI cL cS b s1 w1 m1 n1 (sPass i s1) w1 mo_13 ne_14 s3 w3 m3 n3 ik bt ln tk sb en nm bits size (va_up num 1 (fa_fill (fBook s1 x1) (num 1) i)) fnd) rfl) 42 2 rfl) rfl) (vp_in_nI (by omega) (by omega))) (cwV 2 hts gX5_book_X2_put rfl rfl rfl (by decide +kernel) ⟨Nat.le_of_ble_eq_true rfl, Nat.le_of_ble_eq_true rfl⟩) ⟨PcR_fb, va_recv hK hP (ci := 0) (q0 := 42) rfl rfl, PcR_pre (va_seg hP 42 2 rfl) hK⟩ rfl rfl hl.1 rfl (lv_room (Nat.le_of_ble_eq_true rfl)) dX5_book_70 ⟨Nat.zero_le _, Nat.zero_le _⟩) hP (hD _ rfl) hS 42 2 rfl (fun u_16 H locs hu_16 hP hS => ?_)
        have hP : va_P D vwCl (kcw cI cL cS b s1 w1 m1 n1 (sPass i s1) w1 mo_13 ne_14 s3 w3 m3 n3 ik bt ln tk sb en nm bits size (va_up (va_up num 1 (fa_fill (fBook s1 x1) (num 1) i)) 1 (vp_updL ((va_up num 1 (fa_fill (fBook s1 x1) (num 1) i)) 1) (ix (nI i)) (sNar (bits 1) (((sEa (sPass i s1)) (ix x1)).toInt64)))) fnd) H := hP
        refine lv_aload_n hx hb dX5_book_73 rfl (lv_at hl 0 rfl) ?_
        refine va_get (ci := 3) (v := .ref (b 2 0)) (C := RX5) (T := TX5) (N := 7) hx hb hts inX5 hown hK hP 0 rfl rfl 1 (by decide) f16 (fun _ h9 => h9) rfl dX5_book_74 ?_
        refine callMv (va_runV (As := []) (rest := []) ⟨hx, hb, hml, hown, hts⟩ (k_X3_serveOne l D cI cL cS (b 2) (sCo (sPass i s1)) (sGu (sPass i s1)) (sKn (sPass i s1)) (sFo (sPass i s1)) (sSp (sPass i s1)) w1 (sKi (sPass i s1)) (sPl (sPass i s1)) (sEa (sPass i s1)) (sTo (sPass i s1)) (sQu (sPass i s1)) mo_13 ne_14 (va_DT (va_segD (hD _ rfl) 13 12 rfl) rfl) ((okS_pass o1 i).1) ((okS_pass o1 i).2) (pass_more (σ := s1) hMN.1 i) (pass_near (σ := s1) hMN.2 i)) (cwV 0 hts gX5_book_X3_serveOne rfl rfl rfl (by decide +kernel) ⟨Nat.le_of_ble_eq_true rfl, Nat.le_of_ble_eq_true rfl⟩) ⟨PcR_fb, va_recv hK hP (ci := 1) (q0 := 13) rfl rfl, PcR_pre (va_seg hP 13 12 rfl) hK⟩ rfl rfl hl.1 rfl (lv_room (Nat.le_of_ble_eq_true rfl)) dX5_book_77 ⟨Nat.zero_le _, Nat.zero_le _⟩) hP (hD _ rfl) hS 13 12 rfl (fun u_18 H locs hu_18 hP hS => ?_)
        have hP : va_P D vwCl (kcw cI cL cS b s1 w1 m1 n1 (uQu (uTo (uEa (uCo (sPass i s1) ((sCo (sPass i s1)) + 1)) (cEa (sGu (sPass i s1)) (sKn (sPass i s1)) (sFo (sPass i s1)) (sSp (sPass i s1)) (sKi (sPass i s1)) (sPl (sPass i s1)) (sEa (sPass i s1)))) (cTo (sGu (sPass i s1)) (sSp (sPass i s1)) (sKi (sPass i s1)) (sPl (sPass i s1)) (sEa (sPass i s1)) (sTo (sPass i s1)))) (cQu (sGu (sPass i s1)) (sKi (sPass i s1)) (sPl (sPass i s1)) (cEa (sGu (sPass i s1)) (sKn (sPass i s1)) (sFo (sPass i s1)) (sSp (sPass i s1)) (sKi (sPass i s1)) (sPl (sPass i s1)) (sEa (sPass i s1))) (sQu (sPass i s1)))) w1 mo_13 ne_14 s3 w3 m3 n3 ik bt ln tk sb en nm bits size (va_up (va_up num 1 (fa_fill (fBook s1 x1) (num 1) i)) 1 (vp_updL ((va_up num 1 (fa_fill (fBook s1 x1) (num 1) i)) 1) (ix (nI i)) (sNar (bits 1) (((sEa (sPass i s1)) (ix x1)).toInt64)))) fnd) H := hP
        refine lv_iinc (v := nI (i + 1)) (lv' := [(5, .int (nI (i + 1))), (0, .ref (b 0 0)), (2, .int x1), (4, .ref (b 7 1))]) hx hb dX5_book_80 hl (k := 3) rfl (nI_1 _) (by decide) rfl (fun ls hl => ?_)
        refine lv_goto (tgt := 46) hx hb dX5_book_83 (by decide) ?_
        have hP : va_P D vwCl (kcw cI cL cS b s1 w1 m1 n1 (sPass (i + 1) s1) w1 mo_13 ne_14 s3 w3 m3 n3 ik bt ln tk sb en nm bits size (va_up num 1 (fa_fill (fBook s1 x1) (num 1) (i + 1))) fnd) H := by rw [← book_step (b := bits 1) hix (okS_pass o1 i |>.2 _ (ix_lt (by decide) h8)).1]; exact hP
        exact ih (n - 1) (by omega) (i + 1) H locs ls ⟨by omega, hP, hS, lv_sub hl [1, 2, 3, 0] rfl⟩
    · skip
      have hz := sz_of (oh 2 (by decide)).1
      refine lv_aload_n hx hb dX5_book_17 rfl (lv_at hl 1 rfl) ?_
      refine va_get (ci := 3) (v := .ref (b 6 0)) (C := RX5) (T := TX5) (N := 7) hx hb hts inX5 hown hK hP 0 rfl rfl 5 (by decide) f35 (fun _ h9 => h9) rfl dX5_book_18 ?_
      refine lv_iload_n hx hb dX5_book_21 rfl (lv_at hl 2 rfl) ?_
      refine va_aldq (f := fun s => some (b 7 s)) hx hb hK hP 39 2 rfl rfl (vp_in_iff.mpr (by decide)) dX5_book_22 ?_
      refine W.eq (g2 := F0 m 23 ls [.ref (b 7 2)]) rfl ?_
      refine lv_astore (lv' := [(4, .ref (b 7 2)), (3, .int (sFob bits s1 2 x1)), (0, .ref (b 0 0)), (1, .int 2), (2, .int x1)]) hx hb dX5_book_23 hl (by decide) rfl (fun ls hl => ?_)
      refine lv_aload_n hx hb dX5_book_25 rfl (lv_at hl 2 rfl) ?_
      refine va_get (ci := 3) (v := .ref (b 2 0)) (C := RX5) (T := TX5) (N := 7) hx hb hts inX5 hown hK hP 0 rfl rfl 1 (by decide) f16 (fun _ h9 => h9) rfl dX5_book_26 ?_
      refine lv_aload_n hx hb dX5_book_29 rfl (lv_at hl 2 rfl) ?_
      refine va_get (ci := 3) (v := .ref (b 1 0)) (C := RX5) (T := TX5) (N := 7) hx hb hts inX5 hown hK hP 0 rfl rfl 0 (by decide) f10 (fun _ h9 => h9) rfl dX5_book_30 ?_
      refine callBec (wt := tbw cI (b 2) (sCo s2) (sGu s2) (sKn s2) (sFo s2) (sSp s2) w2 (sKi s2) (sPl s2) (sEa s2) (sTo s2) (sQu s2) m2 n2) (wo := tbw cI (b 1) (sCo s1) (sGu s1) (sKn s1) (sFo s1) (sSp s1) w1 (sKi s1) (sPl s1) (sEa s1) (sTo s1) (sQu s1) m1 n1) (w1 := tbw cI (b 2) (sCo s1) (sGu s1) (sKn s1) (sFo s1) (sSp s1) w1 (sKi s1) (sPl s1) (sEa s1) (sTo s1) (sQu s1) m2 n2) (va_runV (As := [.ref (b 1 0)]) (rest := []) ⟨hx, hb, hml, hown, hts⟩ (k_X3_become l D cI cL cS (b 2) (sCo s2) (sGu s2) (sKn s2) (sFo s2) (sSp s2) w2 (sKi s2) (sPl s2) (sEa s2) (sTo s2) (sQu s2) m2 n2 (b 1) (sCo s1) (sGu s1) (sKn s1) (sFo s1) (sSp s1) w1 (sKi s1) (sPl s1) (sEa s1) (sTo s1) (sQu s1) m1 n1 (va_DT (va_D.sub (ws' := tbw2 cI (b 2) (b 1) (sCo s2) (sGu s2) (sKn s2) (sFo s2) (sSp s2) w2 (sKi s2) (sPl s2) (sEa s2) (sTo s2) (sQu s2) m2 n2 (sCo s1) (sGu s1) (sKn s1) (sFo s1) (sSp s1) w1 (sKi s1) (sPl s1) (sEa s1) (sTo s1) (sQu s1) m1 n1) (hD (kcw cI cL cS b s1 w1 m1 n1 s2 w2 m2 n2 s3 w3 m3 n3 ik bt ln tk sb en nm bits size num fnd) rfl) [13, 14, 15, 16, 17, 18, 19, 20, 21, 22, 23, 24, 1, 2, 3, 4, 5, 6, 7, 8, 9, 10, 11, 12] (by decide) rfl) rfl)) (cwV 1 hts gX5_book_X3_become rfl rfl rfl (by decide +kernel) ⟨Nat.le_of_ble_eq_true rfl, Nat.le_of_ble_eq_true rfl⟩) ⟨PcR_fb, va_recv hK hP (ci := 1) (q0 := 13) rfl rfl, PcR_pre (va_P.sub hP [13, 14, 15, 16, 17, 18, 19, 20, 21, 22, 23, 24, 1, 2, 3, 4, 5, 6, 7, 8, 9, 10, 11, 12] rfl) hK⟩ rfl rfl hl.1 rfl (lv_room (Nat.le_of_ble_eq_true rfl)) dX5_book_33 ⟨Nat.zero_le _, Nat.zero_le _⟩) hP (hD _ rfl) hS 13 12 1 12 rfl rfl rfl (fun H locs hP hS => ?_)
      have hP : va_P D vwCl (kcw cI cL cS b s1 w1 m1 n1 s1 w1 m2 n2 s3 w3 m3 n3 ik bt ln tk sb en nm bits size num fnd) H := hP
      refine lv_aload_n hx hb dX5_book_36 rfl (lv_at hl 2 rfl) ?_
      refine va_get (ci := 3) (v := .ref (b 2 0)) (C := RX5) (T := TX5) (N := 7) hx hb hts inX5 hown hK hP 0 rfl rfl 1 (by decide) f16 (fun _ h9 => h9) rfl dX5_book_37 ?_
      refine callMv (va_runV (As := []) (rest := []) ⟨hx, hb, hml, hown, hts⟩ (k_X3_findMore l D cI cL cS (b 2) (sCo s1) (sGu s1) (sKn s1) (sFo s1) (sSp s1) w1 (sKi s1) (sPl s1) (sEa s1) (sTo s1) (sQu s1) m2 n2 (va_DT (va_segD (hD _ rfl) 13 12 rfl) rfl) o1.1) (cwV 0 hts gX5_book_X3_findMore rfl rfl rfl (by decide +kernel) ⟨Nat.le_of_ble_eq_true rfl, Nat.le_of_ble_eq_true rfl⟩) ⟨PcR_fb, va_recv hK hP (ci := 1) (q0 := 13) rfl rfl, PcR_pre (va_seg hP 13 12 rfl) hK⟩ rfl rfl hl.1 rfl (lv_room (Nat.le_of_ble_eq_true rfl)) dX5_book_40 ⟨Nat.zero_le _, Nat.zero_le _⟩) hP (hD _ rfl) hS 13 12 rfl (fun u_20 H locs hu_20 hP hS => ?_)
      obtain ⟨mo_22, ne_23⟩ := u_20
      have hu_20 : (∀ g, g < ix (sGu s1) → mo_22 g = sMore (sGu s1) (sKn s1) (sFo s1) (sSp s1) (sKi s1) (sPl s1) g) ∧ (∀ g, g < ix (sGu s1) → ne_23 g = sNear (sGu s1) (sPl s1) g) := hu_20
      have hMN := hu_20
      have hP : va_P D vwCl (kcw cI cL cS b s1 w1 m1 n1 s1 w1 mo_22 ne_23 s3 w3 m3 n3 ik bt ln tk sb en nm bits size num fnd) H := hP
      have hP : va_P D vwCl (kcw cI cL cS b s1 w1 m1 n1 (sPass 0 s1) w1 mo_22 ne_23 s3 w3 m3 n3 ik bt ln tk sb en nm bits size (va_up num 2 (fa_fill (fBook s1 x1) (num 2) 0)) fnd) H := by rw [fa_fill_0, va_up_id]; exact hP
      refine lv_iconst (v := 0) hx hb dX5_book_43 (by decide) ?_
      refine lv_istore (lv' := [(5, .int 0), (4, .ref (b 7 2)), (3, .int (sFob bits s1 2 x1)), (0, .ref (b 0 0)), (1, .int 2), (2, .int x1)]) hx hb dX5_book_44 hl (by decide) rfl (fun ls hl => ?_)
      refine lpW (fun n (u : Nat) H locs ls => (u + n = ix (size 2)) ∧ va_P D vwCl (kcw cI cL cS b s1 w1 m1 n1 (sPass u s1) w1 mo_22 ne_23 s3 w3 m3 n3 ik bt ln tk sb en nm bits size (va_up num 2 (fa_fill (fBook s1 x1) (num 2) u)) fnd) H ∧ va_S A s.heap H locs ∧ lv_has ls 6 [(0, .ref (b 0 0)), (2, .int x1), (4, .ref (b 7 2)), (5, .int (nI u))]) (ix (size 2)) (0) ⟨by omega, hP, hS, lv_sub hl [3, 5, 1, 0] rfl⟩ (fun n ih u H locs ls hI => ?_)
      obtain ⟨i, rfl⟩ : ∃ z, z = u := ⟨_, rfl⟩
      obtain ⟨hi0, hP, hS, hl⟩ := hI
      have hi0 : i + n = ix (size 2) := hi0
      have hl : lv_has ls 6 [(0, .ref (b 0 0)), (2, .int x1), (4, .ref (b 7 2)), (5, .int (nI i))] := hl
      have hP : va_P D vwCl (kcw cI cL cS b s1 w1 m1 n1 (sPass i s1) w1 mo_22 ne_23 s3 w3 m3 n3 ik bt ln tk sb en nm bits size (va_up num 2 (fa_fill (fBook s1 x1) (num 2) i)) fnd) H := hP
      have hix : ix (nI i) = i := ix_nI (by omega)
      refine lv_iload hx hb dX5_book_46 (lv_at hl 3 rfl) ?_
      refine lv_aload hx hb dX5_book_48 (lv_at hl 2 rfl) ?_
      refine va_get (ci := 0) (v := .int (size 2)) (C := RX2) (T := TX2) (N := 3) hx hb hts inX2 hown hK hP 44 rfl rfl 1 (by decide) f189 (fun _ h9 => h9) rfl dX5_book_50 ?_
      refine lv_icmp_ge (tgt := 86) hx hb dX5_book_53 (by decide) (fun c_24 => ?_) (fun c_24 => ?_)
      · skip
        have c_24n := (cmp_le (a := ix (size 2)) (b := i) hz.1 rfl (by omega) (by omega)).mp c_24
        refine lv_aload hx hb dX5_book_86 (lv_at hl 2 rfl) ?_
        refine va_get (ci := 0) (v := .int (size 2)) (C := RX2) (T := TX2) (N := 3) hx hb hts inX2 hown hK hP 44 rfl rfl 1 (by decide) f189 (fun _ h9 => h9) rfl dX5_book_88 ?_
        exact W.iret hx hb hr (fun t ht hW => ⟨⟨_, (sPass i s1, w1, mo_22, ne_23, va_up num 2 (fa_fill (fBook s1 x1) (num 2) i), fnd), rfl, (by refine Eq.symm ((iF_t hf0).trans ?_); rw [show ix (size (ix 2)) = i by show ix (size 2) = i; omega]; rfl), by dsimp only; rw [ht]; exact hP⟩, hS.F ht⟩) hS.2.2 dX5_book_91
      · skip
        have c_24n := mt (cmp_le (a := ix (size 2)) (b := i) hz.1 rfl (by omega) (by omega)).mpr c_24
        refine lv_aload hx hb dX5_book_56 (lv_at hl 2 rfl) ?_
        refine lv_iload hx hb dX5_book_58 (lv_at hl 3 rfl) ?_
        refine lv_aload_n hx hb dX5_book_60 rfl (lv_at hl 0 rfl) ?_
        refine va_get (ci := 3) (v := .ref (b 2 0)) (C := RX5) (T := TX5) (N := 7) hx hb hts inX5 hown hK hP 0 rfl rfl 1 (by decide) f16 (fun _ h9 => h9) rfl dX5_book_61 ?_
        refine va_get (ci := 1) (v := .ref (b 2 7)) (C := RX3) (T := TX3) (N := 13) hx hb hts inX3 hown hK hP 13 rfl rfl 8 (by decide) f107 (fun _ h9 => h9) rfl dX5_book_64 ?_
        refine lv_iload_n hx hb dX5_book_67 rfl (lv_at hl 1 rfl) ?_
        refine va_iald hx hb hK hP 20 0 rfl rfl (by assumption) dX5_book_68 ?_
        refine lv_i2l (v := ((sEa (sPass i s1)) (ix x1)).toInt64) hx hb dX5_book_69 rfl ?_
        refine callMv (va_runV (As := [.int (nI i), .long (((sEa (sPass i s1)) (ix x1)).toInt64)]) (rest := []) ⟨hx, hb, hml, hown, hts⟩ (k_X2_put l D cI cL cS (b 7 2) (b 8 2) (bits 2) (size 2) ((va_up num 2 (fa_fill (fBook s1 x1) (num 2) i)) 2) (nI i) (((sEa (sPass i s1)) (ix x1)).toInt64) (va_DT (va_segD (hD (kcw cI cL cS b s1 w1 m1 n1 (sPass i s1) w1 mo_22 ne_23 s3 w3 m3 n3 ik bt ln tk sb en nm bits size (va_up num 2 (fa_fill (fBook s1 x1) (num 2) i)) fnd) rfl) 44 2 rfl) rfl) (vp_in_nI (by omega) (by omega))) (cwV 2 hts gX5_book_X2_put rfl rfl rfl (by decide +kernel) ⟨Nat.le_of_ble_eq_true rfl, Nat.le_of_ble_eq_true rfl⟩) ⟨PcR_fb, va_recv hK hP (ci := 0) (q0 := 44) rfl rfl, PcR_pre (va_seg hP 44 2 rfl) hK⟩ rfl rfl hl.1 rfl (lv_room (Nat.le_of_ble_eq_true rfl)) dX5_book_70 ⟨Nat.zero_le _, Nat.zero_le _⟩) hP (hD _ rfl) hS 44 2 rfl (fun u_25 H locs hu_25 hP hS => ?_)
        have hP : va_P D vwCl (kcw cI cL cS b s1 w1 m1 n1 (sPass i s1) w1 mo_22 ne_23 s3 w3 m3 n3 ik bt ln tk sb en nm bits size (va_up (va_up num 2 (fa_fill (fBook s1 x1) (num 2) i)) 2 (vp_updL ((va_up num 2 (fa_fill (fBook s1 x1) (num 2) i)) 2) (ix (nI i)) (sNar (bits 2) (((sEa (sPass i s1)) (ix x1)).toInt64)))) fnd) H := hP
        refine lv_aload_n hx hb dX5_book_73 rfl (lv_at hl 0 rfl) ?_
        refine va_get (ci := 3) (v := .ref (b 2 0)) (C := RX5) (T := TX5) (N := 7) hx hb hts inX5 hown hK hP 0 rfl rfl 1 (by decide) f16 (fun _ h9 => h9) rfl dX5_book_74 ?_
        refine callMv (va_runV (As := []) (rest := []) ⟨hx, hb, hml, hown, hts⟩ (k_X3_serveOne l D cI cL cS (b 2) (sCo (sPass i s1)) (sGu (sPass i s1)) (sKn (sPass i s1)) (sFo (sPass i s1)) (sSp (sPass i s1)) w1 (sKi (sPass i s1)) (sPl (sPass i s1)) (sEa (sPass i s1)) (sTo (sPass i s1)) (sQu (sPass i s1)) mo_22 ne_23 (va_DT (va_segD (hD _ rfl) 13 12 rfl) rfl) ((okS_pass o1 i).1) ((okS_pass o1 i).2) (pass_more (σ := s1) hMN.1 i) (pass_near (σ := s1) hMN.2 i)) (cwV 0 hts gX5_book_X3_serveOne rfl rfl rfl (by decide +kernel) ⟨Nat.le_of_ble_eq_true rfl, Nat.le_of_ble_eq_true rfl⟩) ⟨PcR_fb, va_recv hK hP (ci := 1) (q0 := 13) rfl rfl, PcR_pre (va_seg hP 13 12 rfl) hK⟩ rfl rfl hl.1 rfl (lv_room (Nat.le_of_ble_eq_true rfl)) dX5_book_77 ⟨Nat.zero_le _, Nat.zero_le _⟩) hP (hD _ rfl) hS 13 12 rfl (fun u_27 H locs hu_27 hP hS => ?_)
        have hP : va_P D vwCl (kcw cI cL cS b s1 w1 m1 n1 (uQu (uTo (uEa (uCo (sPass i s1) ((sCo (sPass i s1)) + 1)) (cEa (sGu (sPass i s1)) (sKn (sPass i s1)) (sFo (sPass i s1)) (sSp (sPass i s1)) (sKi (sPass i s1)) (sPl (sPass i s1)) (sEa (sPass i s1)))) (cTo (sGu (sPass i s1)) (sSp (sPass i s1)) (sKi (sPass i s1)) (sPl (sPass i s1)) (sEa (sPass i s1)) (sTo (sPass i s1)))) (cQu (sGu (sPass i s1)) (sKi (sPass i s1)) (sPl (sPass i s1)) (cEa (sGu (sPass i s1)) (sKn (sPass i s1)) (sFo (sPass i s1)) (sSp (sPass i s1)) (sKi (sPass i s1)) (sPl (sPass i s1)) (sEa (sPass i s1))) (sQu (sPass i s1)))) w1 mo_22 ne_23 s3 w3 m3 n3 ik bt ln tk sb en nm bits size (va_up (va_up num 2 (fa_fill (fBook s1 x1) (num 2) i)) 2 (vp_updL ((va_up num 2 (fa_fill (fBook s1 x1) (num 2) i)) 2) (ix (nI i)) (sNar (bits 2) (((sEa (sPass i s1)) (ix x1)).toInt64)))) fnd) H := hP
        refine lv_iinc (v := nI (i + 1)) (lv' := [(5, .int (nI (i + 1))), (0, .ref (b 0 0)), (2, .int x1), (4, .ref (b 7 2))]) hx hb dX5_book_80 hl (k := 3) rfl (nI_1 _) (by decide) rfl (fun ls hl => ?_)
        refine lv_goto (tgt := 46) hx hb dX5_book_83 (by decide) ?_
        have hP : va_P D vwCl (kcw cI cL cS b s1 w1 m1 n1 (sPass (i + 1) s1) w1 mo_22 ne_23 s3 w3 m3 n3 ik bt ln tk sb en nm bits size (va_up num 2 (fa_fill (fBook s1 x1) (num 2) (i + 1))) fnd) H := by rw [← book_step (b := bits 2) hix (okS_pass o1 i |>.2 _ (ix_lt (by decide) h8)).1]; exact hP
        exact ih (n - 1) (by omega) (i + 1) H locs ls ⟨by omega, hP, hS, lv_sub hl [1, 2, 3, 0] rfl⟩
    · skip
      have hz := sz_of (oh 3 (by decide)).1
      refine lv_aload_n hx hb dX5_book_17 rfl (lv_at hl 1 rfl) ?_
      refine va_get (ci := 3) (v := .ref (b 6 0)) (C := RX5) (T := TX5) (N := 7) hx hb hts inX5 hown hK hP 0 rfl rfl 5 (by decide) f35 (fun _ h9 => h9) rfl dX5_book_18 ?_
      refine lv_iload_n hx hb dX5_book_21 rfl (lv_at hl 2 rfl) ?_
      refine va_aldq (f := fun s => some (b 7 s)) hx hb hK hP 39 2 rfl rfl (vp_in_iff.mpr (by decide)) dX5_book_22 ?_
      refine W.eq (g2 := F0 m 23 ls [.ref (b 7 3)]) rfl ?_
      refine lv_astore (lv' := [(4, .ref (b 7 3)), (3, .int (sFob bits s1 3 x1)), (0, .ref (b 0 0)), (1, .int 3), (2, .int x1)]) hx hb dX5_book_23 hl (by decide) rfl (fun ls hl => ?_)
      refine lv_aload_n hx hb dX5_book_25 rfl (lv_at hl 2 rfl) ?_
      refine va_get (ci := 3) (v := .ref (b 2 0)) (C := RX5) (T := TX5) (N := 7) hx hb hts inX5 hown hK hP 0 rfl rfl 1 (by decide) f16 (fun _ h9 => h9) rfl dX5_book_26 ?_
      refine lv_aload_n hx hb dX5_book_29 rfl (lv_at hl 2 rfl) ?_
      refine va_get (ci := 3) (v := .ref (b 1 0)) (C := RX5) (T := TX5) (N := 7) hx hb hts inX5 hown hK hP 0 rfl rfl 0 (by decide) f10 (fun _ h9 => h9) rfl dX5_book_30 ?_
      refine callBec (wt := tbw cI (b 2) (sCo s2) (sGu s2) (sKn s2) (sFo s2) (sSp s2) w2 (sKi s2) (sPl s2) (sEa s2) (sTo s2) (sQu s2) m2 n2) (wo := tbw cI (b 1) (sCo s1) (sGu s1) (sKn s1) (sFo s1) (sSp s1) w1 (sKi s1) (sPl s1) (sEa s1) (sTo s1) (sQu s1) m1 n1) (w1 := tbw cI (b 2) (sCo s1) (sGu s1) (sKn s1) (sFo s1) (sSp s1) w1 (sKi s1) (sPl s1) (sEa s1) (sTo s1) (sQu s1) m2 n2) (va_runV (As := [.ref (b 1 0)]) (rest := []) ⟨hx, hb, hml, hown, hts⟩ (k_X3_become l D cI cL cS (b 2) (sCo s2) (sGu s2) (sKn s2) (sFo s2) (sSp s2) w2 (sKi s2) (sPl s2) (sEa s2) (sTo s2) (sQu s2) m2 n2 (b 1) (sCo s1) (sGu s1) (sKn s1) (sFo s1) (sSp s1) w1 (sKi s1) (sPl s1) (sEa s1) (sTo s1) (sQu s1) m1 n1 (va_DT (va_D.sub (ws' := tbw2 cI (b 2) (b 1) (sCo s2) (sGu s2) (sKn s2) (sFo s2) (sSp s2) w2 (sKi s2) (sPl s2) (sEa s2) (sTo s2) (sQu s2) m2 n2 (sCo s1) (sGu s1) (sKn s1) (sFo s1) (sSp s1) w1 (sKi s1) (sPl s1) (sEa s1) (sTo s1) (sQu s1) m1 n1) (hD (kcw cI cL cS b s1 w1 m1 n1 s2 w2 m2 n2 s3 w3 m3 n3 ik bt ln tk sb en nm bits size num fnd) rfl) [13, 14, 15, 16, 17, 18, 19, 20, 21, 22, 23, 24, 1, 2, 3, 4, 5, 6, 7, 8, 9, 10, 11, 12] (by decide) rfl) rfl)) (cwV 1 hts gX5_book_X3_become rfl rfl rfl (by decide +kernel) ⟨Nat.le_of_ble_eq_true rfl, Nat.le_of_ble_eq_true rfl⟩) ⟨PcR_fb, va_recv hK hP (ci := 1) (q0 := 13) rfl rfl, PcR_pre (va_P.sub hP [13, 14, 15, 16, 17, 18, 19, 20, 21, 22, 23, 24, 1, 2, 3, 4, 5, 6, 7, 8, 9, 10, 11, 12] rfl) hK⟩ rfl rfl hl.1 rfl (lv_room (Nat.le_of_ble_eq_true rfl)) dX5_book_33 ⟨Nat.zero_le _, Nat.zero_le _⟩) hP (hD _ rfl) hS 13 12 1 12 rfl rfl rfl (fun H locs hP hS => ?_)
      have hP : va_P D vwCl (kcw cI cL cS b s1 w1 m1 n1 s1 w1 m2 n2 s3 w3 m3 n3 ik bt ln tk sb en nm bits size num fnd) H := hP
      refine lv_aload_n hx hb dX5_book_36 rfl (lv_at hl 2 rfl) ?_
      refine va_get (ci := 3) (v := .ref (b 2 0)) (C := RX5) (T := TX5) (N := 7) hx hb hts inX5 hown hK hP 0 rfl rfl 1 (by decide) f16 (fun _ h9 => h9) rfl dX5_book_37 ?_
      refine callMv (va_runV (As := []) (rest := []) ⟨hx, hb, hml, hown, hts⟩ (k_X3_findMore l D cI cL cS (b 2) (sCo s1) (sGu s1) (sKn s1) (sFo s1) (sSp s1) w1 (sKi s1) (sPl s1) (sEa s1) (sTo s1) (sQu s1) m2 n2 (va_DT (va_segD (hD _ rfl) 13 12 rfl) rfl) o1.1) (cwV 0 hts gX5_book_X3_findMore rfl rfl rfl (by decide +kernel) ⟨Nat.le_of_ble_eq_true rfl, Nat.le_of_ble_eq_true rfl⟩) ⟨PcR_fb, va_recv hK hP (ci := 1) (q0 := 13) rfl rfl, PcR_pre (va_seg hP 13 12 rfl) hK⟩ rfl rfl hl.1 rfl (lv_room (Nat.le_of_ble_eq_true rfl)) dX5_book_40 ⟨Nat.zero_le _, Nat.zero_le _⟩) hP (hD _ rfl) hS 13 12 rfl (fun u_29 H locs hu_29 hP hS => ?_)
      obtain ⟨mo_31, ne_32⟩ := u_29
      have hu_29 : (∀ g, g < ix (sGu s1) → mo_31 g = sMore (sGu s1) (sKn s1) (sFo s1) (sSp s1) (sKi s1) (sPl s1) g) ∧ (∀ g, g < ix (sGu s1) → ne_32 g = sNear (sGu s1) (sPl s1) g) := hu_29
      have hMN := hu_29
      have hP : va_P D vwCl (kcw cI cL cS b s1 w1 m1 n1 s1 w1 mo_31 ne_32 s3 w3 m3 n3 ik bt ln tk sb en nm bits size num fnd) H := hP
      have hP : va_P D vwCl (kcw cI cL cS b s1 w1 m1 n1 (sPass 0 s1) w1 mo_31 ne_32 s3 w3 m3 n3 ik bt ln tk sb en nm bits size (va_up num 3 (fa_fill (fBook s1 x1) (num 3) 0)) fnd) H := by rw [fa_fill_0, va_up_id]; exact hP
      refine lv_iconst (v := 0) hx hb dX5_book_43 (by decide) ?_
      refine lv_istore (lv' := [(5, .int 0), (4, .ref (b 7 3)), (3, .int (sFob bits s1 3 x1)), (0, .ref (b 0 0)), (1, .int 3), (2, .int x1)]) hx hb dX5_book_44 hl (by decide) rfl (fun ls hl => ?_)
      refine lpW (fun n (u : Nat) H locs ls => (u + n = ix (size 3)) ∧ va_P D vwCl (kcw cI cL cS b s1 w1 m1 n1 (sPass u s1) w1 mo_31 ne_32 s3 w3 m3 n3 ik bt ln tk sb en nm bits size (va_up num 3 (fa_fill (fBook s1 x1) (num 3) u)) fnd) H ∧ va_S A s.heap H locs ∧ lv_has ls 6 [(0, .ref (b 0 0)), (2, .int x1), (4, .ref (b 7 3)), (5, .int (nI u))]) (ix (size 3)) (0) ⟨by omega, hP, hS, lv_sub hl [3, 5, 1, 0] rfl⟩ (fun n ih u H locs ls hI => ?_)
      obtain ⟨i, rfl⟩ : ∃ z, z = u := ⟨_, rfl⟩
      obtain ⟨hi0, hP, hS, hl⟩ := hI
      have hi0 : i + n = ix (size 3) := hi0
      have hl : lv_has ls 6 [(0, .ref (b 0 0)), (2, .int x1), (4, .ref (b 7 3)), (5, .int (nI i))] := hl
      have hP : va_P D vwCl (kcw cI cL cS b s1 w1 m1 n1 (sPass i s1) w1 mo_31 ne_32 s3 w3 m3 n3 ik bt ln tk sb en nm bits size (va_up num 3 (fa_fill (fBook s1 x1) (num 3) i)) fnd) H := hP
      have hix : ix (nI i) = i := ix_nI (by omega)
      refine lv_iload hx hb dX5_book_46 (lv_at hl 3 rfl) ?_
      refine lv_aload hx hb dX5_book_48 (lv_at hl 2 rfl) ?_
      refine va_get (ci := 0) (v := .int (size 3)) (C := RX2) (T := TX2) (N := 3) hx hb hts inX2 hown hK hP 46 rfl rfl 1 (by decide) f189 (fun _ h9 => h9) rfl dX5_book_50 ?_
      refine lv_icmp_ge (tgt := 86) hx hb dX5_book_53 (by decide) (fun c_33 => ?_) (fun c_33 => ?_)
      · skip
        have c_33n := (cmp_le (a := ix (size 3)) (b := i) hz.1 rfl (by omega) (by omega)).mp c_33
        refine lv_aload hx hb dX5_book_86 (lv_at hl 2 rfl) ?_
        refine va_get (ci := 0) (v := .int (size 3)) (C := RX2) (T := TX2) (N := 3) hx hb hts inX2 hown hK hP 46 rfl rfl 1 (by decide) f189 (fun _ h9 => h9) rfl dX5_book_88 ?_
        exact W.iret hx hb hr (fun t ht hW => ⟨⟨_, (sPass i s1, w1, mo_31, ne_32, va_up num 3 (fa_fill (fBook s1 x1) (num 3) i), fnd), rfl, (by refine Eq.symm ((iF_t hf0).trans ?_); rw [show ix (size (ix 3)) = i by show ix (size 3) = i; omega]; rfl), by dsimp only; rw [ht]; exact hP⟩, hS.F ht⟩) hS.2.2 dX5_book_91
      · skip
        have c_33n := mt (cmp_le (a := ix (size 3)) (b := i) hz.1 rfl (by omega) (by omega)).mpr c_33
        refine lv_aload hx hb dX5_book_56 (lv_at hl 2 rfl) ?_
        refine lv_iload hx hb dX5_book_58 (lv_at hl 3 rfl) ?_
        refine lv_aload_n hx hb dX5_book_60 rfl (lv_at hl 0 rfl) ?_
        refine va_get (ci := 3) (v := .ref (b 2 0)) (C := RX5) (T := TX5) (N := 7) hx hb hts inX5 hown hK hP 0 rfl rfl 1 (by decide) f16 (fun _ h9 => h9) rfl dX5_book_61 ?_
        refine va_get (ci := 1) (v := .ref (b 2 7)) (C := RX3) (T := TX3) (N := 13) hx hb hts inX3 hown hK hP 13 rfl rfl 8 (by decide) f107 (fun _ h9 => h9) rfl dX5_book_64 ?_
        refine lv_iload_n hx hb dX5_book_67 rfl (lv_at hl 1 rfl) ?_
        refine va_iald hx hb hK hP 20 0 rfl rfl (by assumption) dX5_book_68 ?_
        refine lv_i2l (v := ((sEa (sPass i s1)) (ix x1)).toInt64) hx hb dX5_book_69 rfl ?_
        refine callMv (va_runV (As := [.int (nI i), .long (((sEa (sPass i s1)) (ix x1)).toInt64)]) (rest := []) ⟨hx, hb, hml, hown, hts⟩ (k_X2_put l D cI cL cS (b 7 3) (b 8 3) (bits 3) (size 3) ((va_up num 3 (fa_fill (fBook s1 x1) (num 3) i)) 3) (nI i) (((sEa (sPass i s1)) (ix x1)).toInt64) (va_DT (va_segD (hD (kcw cI cL cS b s1 w1 m1 n1 (sPass i s1) w1 mo_31 ne_32 s3 w3 m3 n3 ik bt ln tk sb en nm bits size (va_up num 3 (fa_fill (fBook s1 x1) (num 3) i)) fnd) rfl) 46 2 rfl) rfl) (vp_in_nI (by omega) (by omega))) (cwV 2 hts gX5_book_X2_put rfl rfl rfl (by decide +kernel) ⟨Nat.le_of_ble_eq_true rfl, Nat.le_of_ble_eq_true rfl⟩) ⟨PcR_fb, va_recv hK hP (ci := 0) (q0 := 46) rfl rfl, PcR_pre (va_seg hP 46 2 rfl) hK⟩ rfl rfl hl.1 rfl (lv_room (Nat.le_of_ble_eq_true rfl)) dX5_book_70 ⟨Nat.zero_le _, Nat.zero_le _⟩) hP (hD _ rfl) hS 46 2 rfl (fun u_34 H locs hu_34 hP hS => ?_)
        have hP : va_P D vwCl (kcw cI cL cS b s1 w1 m1 n1 (sPass i s1) w1 mo_31 ne_32 s3 w3 m3 n3 ik bt ln tk sb en nm bits size (va_up (va_up num 3 (fa_fill (fBook s1 x1) (num 3) i)) 3 (vp_updL ((va_up num 3 (fa_fill (fBook s1 x1) (num 3) i)) 3) (ix (nI i)) (sNar (bits 3) (((sEa (sPass i s1)) (ix x1)).toInt64)))) fnd) H := hP
        refine lv_aload_n hx hb dX5_book_73 rfl (lv_at hl 0 rfl) ?_
        refine va_get (ci := 3) (v := .ref (b 2 0)) (C := RX5) (T := TX5) (N := 7) hx hb hts inX5 hown hK hP 0 rfl rfl 1 (by decide) f16 (fun _ h9 => h9) rfl dX5_book_74 ?_
        refine callMv (va_runV (As := []) (rest := []) ⟨hx, hb, hml, hown, hts⟩ (k_X3_serveOne l D cI cL cS (b 2) (sCo (sPass i s1)) (sGu (sPass i s1)) (sKn (sPass i s1)) (sFo (sPass i s1)) (sSp (sPass i s1)) w1 (sKi (sPass i s1)) (sPl (sPass i s1)) (sEa (sPass i s1)) (sTo (sPass i s1)) (sQu (sPass i s1)) mo_31 ne_32 (va_DT (va_segD (hD _ rfl) 13 12 rfl) rfl) ((okS_pass o1 i).1) ((okS_pass o1 i).2) (pass_more (σ := s1) hMN.1 i) (pass_near (σ := s1) hMN.2 i)) (cwV 0 hts gX5_book_X3_serveOne rfl rfl rfl (by decide +kernel) ⟨Nat.le_of_ble_eq_true rfl, Nat.le_of_ble_eq_true rfl⟩) ⟨PcR_fb, va_recv hK hP (ci := 1) (q0 := 13) rfl rfl, PcR_pre (va_seg hP 13 12 rfl) hK⟩ rfl rfl hl.1 rfl (lv_room (Nat.le_of_ble_eq_true rfl)) dX5_book_77 ⟨Nat.zero_le _, Nat.zero_le _⟩) hP (hD _ rfl) hS 13 12 rfl (fun u_36 H locs hu_36 hP hS => ?_)
        have hP : va_P D vwCl (kcw cI cL cS b s1 w1 m1 n1 (uQu (uTo (uEa (uCo (sPass i s1) ((sCo (sPass i s1)) + 1)) (cEa (sGu (sPass i s1)) (sKn (sPass i s1)) (sFo (sPass i s1)) (sSp (sPass i s1)) (sKi (sPass i s1)) (sPl (sPass i s1)) (sEa (sPass i s1)))) (cTo (sGu (sPass i s1)) (sSp (sPass i s1)) (sKi (sPass i s1)) (sPl (sPass i s1)) (sEa (sPass i s1)) (sTo (sPass i s1)))) (cQu (sGu (sPass i s1)) (sKi (sPass i s1)) (sPl (sPass i s1)) (cEa (sGu (sPass i s1)) (sKn (sPass i s1)) (sFo (sPass i s1)) (sSp (sPass i s1)) (sKi (sPass i s1)) (sPl (sPass i s1)) (sEa (sPass i s1))) (sQu (sPass i s1)))) w1 mo_31 ne_32 s3 w3 m3 n3 ik bt ln tk sb en nm bits size (va_up (va_up num 3 (fa_fill (fBook s1 x1) (num 3) i)) 3 (vp_updL ((va_up num 3 (fa_fill (fBook s1 x1) (num 3) i)) 3) (ix (nI i)) (sNar (bits 3) (((sEa (sPass i s1)) (ix x1)).toInt64)))) fnd) H := hP
        refine lv_iinc (v := nI (i + 1)) (lv' := [(5, .int (nI (i + 1))), (0, .ref (b 0 0)), (2, .int x1), (4, .ref (b 7 3))]) hx hb dX5_book_80 hl (k := 3) rfl (nI_1 _) (by decide) rfl (fun ls hl => ?_)
        refine lv_goto (tgt := 46) hx hb dX5_book_83 (by decide) ?_
        have hP : va_P D vwCl (kcw cI cL cS b s1 w1 m1 n1 (sPass (i + 1) s1) w1 mo_31 ne_32 s3 w3 m3 n3 ik bt ln tk sb en nm bits size (va_up num 3 (fa_fill (fBook s1 x1) (num 3) (i + 1))) fnd) H := by rw [← book_step (b := bits 3) hix (okS_pass o1 i |>.2 _ (ix_lt (by decide) h8)).1]; exact hP
        exact ih (n - 1) (by omega) (i + 1) H locs ls ⟨by omega, hP, hS, lv_sub hl [1, 2, 3, 0] rfl⟩
  · skip
    refine lv_aload_n hx hb dX5_book_11 rfl (lv_at hl 1 rfl) ?_
    refine lv_iload_n hx hb dX5_book_12 rfl (lv_at hl 0 rfl) ?_
    refine callMi (va_runV (As := [.int (sFob bits s1 x0 x1)]) (rest := []) ⟨hx, hb, hml, hown, hts⟩ (k_X5_found l D cI cL cS b s1 w1 m1 n1 s2 w2 m2 n2 s3 w3 m3 n3 ik bt ln tk sb en nm bits size num fnd (sFob bits s1 x0 x1) (va_DT (hD _ rfl) rfl) (fob_in c_1)) (cwV 1 hts gX5_book_X5_found rfl rfl rfl (by decide +kernel) ⟨Nat.le_of_ble_eq_true rfl, Nat.le_of_ble_eq_true rfl⟩) ⟨PcR_fb, va_recv hK hP (ci := 3) (q0 := 0) rfl rfl, PcR_pre hP hK⟩ rfl rfl hl.1 rfl (lv_room (Nat.le_of_ble_eq_true rfl)) dX5_book_13 ⟨Nat.zero_le _, Nat.zero_le _⟩) hP (hD _ rfl) hS 0 49 rfl (fun r_39 u_38 H locs hu_38 hP hS => ?_)
    obtain ⟨hu_38r, -⟩ := hu_38
    subst hu_38r
    have hP : va_P D vwCl (kcw cI cL cS b s1 w1 m1 n1 s2 w2 m2 n2 s3 w3 m3 n3 ik bt ln tk sb en nm bits size num (bump fnd (sFob bits s1 x0 x1))) H := hP
    exact W.iret hx hb hr (fun t ht hW => ⟨⟨_, (s2, w2, m2, n2, num, bump fnd (sFob bits s1 x0 x1)), rfl, (by exact (iF_f c_1).symm), by dsimp only; rw [ht]; exact hP⟩, hS.F ht⟩) hS.2.2 dX5_book_16
