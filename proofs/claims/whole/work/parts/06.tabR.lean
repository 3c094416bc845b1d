set_option maxRecDepth 100000 in
set_option maxHeartbeats 4000000 in
theorem k_X3_has (l : Launch) (D : va_G) (cI cL cS : ClassId) (b : Nat → Nat) (co gu : Int32) (kn fo sp wh ki pl ea to qu mo ne : FI) (x0 : Int32) (hgu : vp_in gu 9) : Met l yX3_has wsX3_has { frames := 0, cells := 0, slots := 0, locals := 0 } (PcR D vwCl (tyG cI cL cS) [.ref (b 0), .int x0] (tbw cI b co gu kn fo sp wh ki pl ea to qu mo ne)) (vp_Si (fun r => r = bI (vp_in x0 (ix gu)))) 0 0 (fun _ => False) := by
  refine Met.ofW (cc := cX3_has) (maxL := 2) (ret := (some .boolean)) (by decide) rfl ?_
  intro p e s m args below meth c s₁ B hml hv
  obtain ⟨rfl, hP, hK⟩ := hv
  have hx := B.exec
  have hb := B.bytes
  have hr := B.returns
  have hts := atoms_spec (ws := wsX3_has) B.pre
  have hown : s.vm.findClass RX3 = some m.cls := findClass_of_methodNamed B.named
  have hlocks := B.notSynchronized
  have hl := lv_entry ([.ref (b 0), .int x0]) (n := 2) (Nat.le_of_ble_eq_true rfl)
  rw [lg_entry_eq]
  generalize (lg_sl ([.ref (b 0), .int x0]) ++ List.replicate (2 - (lg_sl ([.ref (b 0), .int x0])).length) Slot.unset).toArray = ls at hl ⊢
  have hl : lv_has ls 2 [(0, .ref (b 0)), (1, .int x0)] := hl
  have f34 := hts (.fieldLink RX3 34 "KnivesLaid$Table" "guests" "I") (List.mem_of_getElem? (i := 1) rfl)
  have inX3 : ∀ w ∈ u_ws RX3 TX3 13, w ∈ wsX3_has := in_at 2 _ _ rfl
  refine lv_iload_n hx hb dX3_has_0 rfl (lv_at hl 1 rfl) ?_
  refine lv_if_lt (tgt := 16) hx hb dX3_has_1 (by decide) (fun c_1 => ?_) (fun c_1 => ?_)
  · skip
    refine lv_iconst (v := 0) hx hb dX3_has_16 (by decide) ?_
    exact W.zret (ty := .boolean) hx hb hr rfl (fun t ht hW => ⟨_, rfl, (by exact (bI_f (has_f hgu (by first | exact Or.inl c_1 | exact Or.inr c_1))).symm), ht⟩) (fun _ h => absurd h List.not_mem_nil) dX3_has_17
  · skip
    refine lv_iload_n hx hb dX3_has_4 rfl (lv_at hl 1 rfl) ?_
    refine lv_aload_n hx hb dX3_has_5 rfl (lv_at hl 0 rfl) ?_
    refine va_get (ci := 1) (v := .int gu) (C := RX3) (T := TX3) (N := 13) hx hb hts inX3 hown hK hP 0 rfl rfl 5 (by decide) f34 (fun _ h9 => h9) rfl dX3_has_6 ?_
    refine lv_icmp_ge (tgt := 16) hx hb dX3_has_9 (by decide) (fun c_2 => ?_) (fun c_2 => ?_)
    · skip
      refine lv_iconst (v := 0) hx hb dX3_has_16 (by decide) ?_
      exact W.zret (ty := .boolean) hx hb hr rfl (fun t ht hW => ⟨_, rfl, (by exact (bI_f (has_f hgu (by first | exact Or.inl c_2 | exact Or.inr c_2))).symm), ht⟩) (fun _ h => absurd h List.not_mem_nil) dX3_has_17
    · skip
      refine lv_iconst (v := 1) hx hb dX3_has_12 (by decide) ?_
      refine lv_goto (tgt := 17) hx hb dX3_has_13 (by decide) ?_
      exact W.zret (ty := .boolean) hx hb hr rfl (fun t ht hW => ⟨_, rfl, (by exact (bI_t (has_t hgu c_1 c_2)).symm), ht⟩) (fun _ h => absurd h List.not_mem_nil) dX3_has_17

set_option maxRecDepth 100000 in
set_option maxHeartbeats 4000000 in
theorem k_X3_freeFor (l : Launch) (D : va_G) (cI cL cS : ClassId) (b : Nat → Nat) (co gu : Int32) (kn fo sp wh ki pl ea to qu mo ne : FI) (x0 x1 : Int32) (h1 : vp_in x1 10) : Met l yX3_freeFor wsX3_freeFor { frames := 0, cells := 0, slots := 0, locals := 0 } (PcR D vwCl (tyG cI cL cS) [.ref (b 0), .int x0, .int x1] (tbw cI b co gu kn fo sp wh ki pl ea to qu mo ne)) (vp_Si (fun r => r = bI (wh (ix x1) = -1 ∨ wh (ix x1) = x0))) 0 0 (fun _ => False) := by
  refine Met.ofW (cc := cX3_freeFor) (maxL := 3) (ret := (some .boolean)) (by decide) rfl ?_
  intro p e s m args below meth c s₁ B hml hv
  obtain ⟨rfl, hP, hK⟩ := hv
  have hx := B.exec
  have hb := B.bytes
  have hr := B.returns
  have hts := atoms_spec (ws := wsX3_freeFor) B.pre
  have hown : s.vm.findClass RX3 = some m.cls := findClass_of_methodNamed B.named
  have hlocks := B.notSynchronized
  have hl := lv_entry ([.ref (b 0), .int x0, .int x1]) (n := 3) (Nat.le_of_ble_eq_true rfl)
  rw [lg_entry_eq]
  generalize (lg_sl ([.ref (b 0), .int x0, .int x1]) ++ List.replicate (3 - (lg_sl ([.ref (b 0), .int x0, .int x1])).length) Slot.unset).toArray = ls at hl ⊢
  have hl : lv_has ls 3 [(0, .ref (b 0)), (1, .int x0), (2, .int x1)] := hl
  have f25 := hts (.fieldLink RX3 25 "KnivesLaid$Table" "who" "[I") (List.mem_of_getElem? (i := 1) rfl)
  have inX3 : ∀ w ∈ u_ws RX3 TX3 13, w ∈ wsX3_freeFor := in_at 2 _ _ rfl
  refine lv_aload_n hx hb dX3_freeFor_0 rfl (lv_at hl 0 rfl) ?_
  refine va_get (ci := 1) (v := .ref (b 4)) (C := RX3) (T := TX3) (N := 13) hx hb hts inX3 hown hK hP 0 rfl rfl 4 (by decide) f25 (fun _ h9 => h9) rfl dX3_freeFor_1 ?_
  refine lv_iload_n hx hb dX3_freeFor_4 rfl (lv_at hl 2 rfl) ?_
  refine va_iald hx hb hK hP 4 0 rfl rfl (by assumption) dX3_freeFor_5 ?_
  refine lv_iconst (v := (-1)) hx hb dX3_freeFor_6 (by decide) ?_
  refine lv_icmp_eq (tgt := 20) hx hb dX3_freeFor_7 (by decide) (fun c_1 => ?_) (fun c_1 => ?_)
  · skip
    refine lv_iconst (v := 1) hx hb dX3_freeFor_20 (by decide) ?_
    refine lv_goto (tgt := 25) hx hb dX3_freeFor_21 (by decide) ?_
    exact W.zret (ty := .boolean) hx hb hr rfl (fun t ht hW => ⟨_, rfl, (by exact (bI_t (by simp [c_1])).symm), ht⟩) (fun _ h => absurd h List.not_mem_nil) dX3_freeFor_25
  · skip
    refine lv_aload_n hx hb dX3_freeFor_10 rfl (lv_at hl 0 rfl) ?_
    refine va_get (ci := 1) (v := .ref (b 4)) (C := RX3) (T := TX3) (N := 13) hx hb hts inX3 hown hK hP 0 rfl rfl 4 (by decide) f25 (fun _ h9 => h9) rfl dX3_freeFor_11 ?_
    refine lv_iload_n hx hb dX3_freeFor_14 rfl (lv_at hl 2 rfl) ?_
    refine va_iald hx hb hK hP 4 0 rfl rfl (by assumption) dX3_freeFor_15 ?_
    refine lv_iload_n hx hb dX3_freeFor_16 rfl (lv_at hl 1 rfl) ?_
    refine lv_icmp_ne (tgt := 24) hx hb dX3_freeFor_17 (by decide) (fun c_2 => ?_) (fun c_2 => ?_)
    · skip
      refine lv_iconst (v := 0) hx hb dX3_freeFor_24 (by decide) ?_
      exact W.zret (ty := .boolean) hx hb hr rfl (fun t ht hW => ⟨_, rfl, (by exact (bI_f (by simp [c_1, c_2])).symm), ht⟩) (fun _ h => absurd h List.not_mem_nil) dX3_freeFor_25
    · skip
      refine lv_iconst (v := 1) hx hb dX3_freeFor_20 (by decide) ?_
      refine lv_goto (tgt := 25) hx hb dX3_freeFor_21 (by decide) ?_
      exact W.zret (ty := .boolean) hx hb hr rfl (fun t ht hW => ⟨_, rfl, (by exact (bI_t (by simp [c_1, c_2])).symm), ht⟩) (fun _ h => absurd h List.not_mem_nil) dX3_freeFor_25

set_option maxRecDepth 100000 in
set_option maxHeartbeats 4000000 in
theorem k_X3_neighbours (l : Launch) (D : va_G) (cI cL cS : ClassId) (b : Nat → Nat) (co gu : Int32) (kn fo sp wh ki pl ea to qu mo ne : FI) (x0 : Int32) (ok : okT gu kn fo sp wh ki pl) (h0 : vp_in x0 8) : Met l yX3_neighbours wsX3_neighbours { frames := 1, cells := 0, slots := 0, locals := 20 } (PcR D vwCl (tyG cI cL cS) [.ref (b 0), .int x0] (tbw cI b co gu kn fo sp wh ki pl ea to qu mo ne)) (vp_Si (fun r => r = sNear gu pl (ix x0))) 0 0 (fun _ => False) := by
  refine Met.ofW (cc := cX3_neighbours) (maxL := 2) (ret := (some .int)) (by decide) rfl ?_
  intro p e s m args below meth c s₁ B hml hv
  obtain ⟨rfl, hP, hK⟩ := hv
  have hx := B.exec
  have hb := B.bytes
  have hr := B.returns
  have hts := atoms_spec (ws := wsX3_neighbours) B.pre
  have hown : s.vm.findClass RX3 = some m.cls := findClass_of_methodNamed B.named
  have hlocks := B.notSynchronized
  have hl := lv_entry ([.ref (b 0), .int x0]) (n := 2) (Nat.le_of_ble_eq_true rfl)
  rw [lg_entry_eq]
  generalize (lg_sl ([.ref (b 0), .int x0]) ++ List.replicate (2 - (lg_sl ([.ref (b 0), .int x0])).length) Slot.unset).toArray = ls at hl ⊢
  have hl : lv_has ls 2 [(0, .ref (b 0)), (1, .int x0)] := hl
  have f25 := hts (.fieldLink RX3 25 "KnivesLaid$Table" "who" "[I") (List.mem_of_getElem? (i := 1) rfl)
  have inX3 : ∀ w ∈ u_ws RX3 TX3 13, w ∈ wsX3_neighbours := in_at 13 _ _ rfl
  have f40 := hts (.fieldLink RX3 40 "KnivesLaid$Table" "at" "[I") (List.mem_of_getElem? (i := 2) rfl)
  refine lv_aload_n hx hb dX3_neighbours_0 rfl (lv_at hl 0 rfl) ?_
  refine va_get (ci := 1) (v := .ref (b 4)) (C := RX3) (T := TX3) (N := 13) hx hb hts inX3 hown hK hP 0 rfl rfl 4 (by decide) f25 (fun _ h9 => h9) rfl dX3_neighbours_1 ?_
  refine lv_aload_n hx hb dX3_neighbours_4 rfl (lv_at hl 0 rfl) ?_
  refine va_get (ci := 1) (v := .ref (b 6)) (C := RX3) (T := TX3) (N := 13) hx hb hts inX3 hown hK hP 0 rfl rfl 7 (by decide) f40 (fun _ h9 => h9) rfl dX3_neighbours_5 ?_
  refine lv_iload_n hx hb dX3_neighbours_8 rfl (lv_at hl 1 rfl) ?_
  refine va_iald hx hb hK hP 6 0 rfl rfl (by assumption) dX3_neighbours_9 ?_
  refine callE (W.runS (As := [.int (pl (ix x0))]) (rest := [.ref (b 4)]) ⟨hx, hb, hml, hown, hts⟩ (k_X3_before l (pl (ix x0))) (va_cwS 1 hts gX3_neighbours_X3_before rfl rfl rfl (by decide +kernel) ⟨Nat.le_of_ble_eq_true rfl, Nat.le_of_ble_eq_true rfl⟩) ⟨PcP_fb, fun U _ _ => ⟨rfl, trivial⟩⟩ rfl rfl hl.1 rfl (lv_room (Nat.le_of_ble_eq_true rfl)) dX3_neighbours_10 ⟨Nat.zero_le _, Nat.zero_le _⟩) ?_
  refine va_iald hx hb hK hP 4 0 rfl rfl (in_bef (ok.pl h0)) dX3_neighbours_13 ?_
  refine callE (W.runS (As := [.int (wh (ix (sBef (pl (ix x0)))))]) (rest := []) ⟨hx, hb, hml, hown, hts⟩ (k_X3_bitOf l (wh (ix (sBef (pl (ix x0)))))) (va_cwS 1 hts gX3_neighbours_X3_bitOf rfl rfl rfl (by decide +kernel) ⟨Nat.le_of_ble_eq_true rfl, Nat.le_of_ble_eq_true rfl⟩) ⟨PcP_fb, fun U _ _ => ⟨rfl, trivial⟩⟩ rfl rfl hl.1 rfl (lv_room (Nat.le_of_ble_eq_true rfl)) dX3_neighbours_14 ⟨Nat.zero_le _, Nat.zero_le _⟩) ?_
  refine lv_aload_n hx hb dX3_neighbours_17 rfl (lv_at hl 0 rfl) ?_
  refine va_get (ci := 1) (v := .ref (b 4)) (C := RX3) (T := TX3) (N := 13) hx hb hts inX3 hown hK hP 0 rfl rfl 4 (by decide) f25 (fun _ h9 => h9) rfl dX3_neighbours_18 ?_
  refine lv_aload_n hx hb dX3_neighbours_21 rfl (lv_at hl 0 rfl) ?_
  refine va_get (ci := 1) (v := .ref (b 6)) (C := RX3) (T := TX3) (N := 13) hx hb hts inX3 hown hK hP 0 rfl rfl 7 (by decide) f40 (fun _ h9 => h9) rfl dX3_neighbours_22 ?_
  refine lv_iload_n hx hb dX3_neighbours_25 rfl (lv_at hl 1 rfl) ?_
  refine va_iald hx hb hK hP 6 0 rfl rfl (by assumption) dX3_neighbours_26 ?_
  refine callE (W.runS (As := [.int (pl (ix x0))]) (rest := [.ref (b 4), .int (sBit (wh (ix (sBef (pl (ix x0))))))]) ⟨hx, hb, hml, hown, hts⟩ (k_X3_behind l (pl (ix x0))) (va_cwS 1 hts gX3_neighbours_X3_behind rfl rfl rfl (by decide +kernel) ⟨Nat.le_of_ble_eq_true rfl, Nat.le_of_ble_eq_true rfl⟩) ⟨PcP_fb, fun U _ _ => ⟨rfl, trivial⟩⟩ rfl rfl hl.1 rfl (lv_room (Nat.le_of_ble_eq_true rfl)) dX3_neighbours_27 ⟨Nat.zero_le _, Nat.zero_le _⟩) ?_
  refine va_iald hx hb hK hP 4 0 rfl rfl (in_beh (ok.pl h0)) dX3_neighbours_30 ?_
  refine callE (W.runS (As := [.int (wh (ix (sBeh (pl (ix x0)))))]) (rest := [.int (sBit (wh (ix (sBef (pl (ix x0))))))]) ⟨hx, hb, hml, hown, hts⟩ (k_X3_bitOf l (wh (ix (sBeh (pl (ix x0)))))) (va_cwS 1 hts gX3_neighbours_X3_bitOf rfl rfl rfl (by decide +kernel) ⟨Nat.le_of_ble_eq_true rfl, Nat.le_of_ble_eq_true rfl⟩) ⟨PcP_fb, fun U _ _ => ⟨rfl, trivial⟩⟩ rfl rfl hl.1 rfl (lv_room (Nat.le_of_ble_eq_true rfl)) dX3_neighbours_31 ⟨Nat.zero_le _, Nat.zero_le _⟩) ?_
  refine lv_ior hx hb dX3_neighbours_34 ?_
  exact W.iret hx hb hr (fun t ht hW => ⟨_, rfl, (by rw [ok.wh (in_bef (ok.pl h0)), ok.wh (in_beh (ok.pl h0))]; rfl), ht⟩) (fun _ h => absurd h List.not_mem_nil) dX3_neighbours_35

set_option maxRecDepth 100000 in
set_option maxHeartbeats 4000000 in
theorem k_X3_caughtFrom (l : Launch) (D : va_G) (cI cL cS : ClassId) (b : Nat → Nat) (co gu : Int32) (kn fo sp wh ki pl ea to qu mo ne : FI) (x0 x1 : Int32) (ok : okT gu kn fo sp wh ki pl) (h0 : vp_in x0 8) (h1 : vp_in x1 10) : Met l yX3_caughtFrom wsX3_caughtFrom { frames := 1, cells := 0, slots := 0, locals := 24 } (PcR D vwCl (tyG cI cL cS) [.ref (b 0), .int x0, .int x1] (tbw cI b co gu kn fo sp wh ki pl ea to qu mo ne)) (vp_Si (fun r => r = sCau gu kn fo ki pl (ix x0) x1)) 0 0 (fun _ => False) := by
  refine Met.ofW (cc := cX3_caughtFrom) (maxL := 3) (ret := (some .int)) (by decide) rfl ?_
  intro p e s m args below meth c s₁ B hml hv
  obtain ⟨rfl, hP, hK⟩ := hv
  have hx := B.exec
  have hb := B.bytes
  have hr := B.returns
  have hts := atoms_spec (ws := wsX3_caughtFrom) B.pre
  have hown : s.vm.findClass RX3 = some m.cls := findClass_of_methodNamed B.named
  have hlocks := B.notSynchronized
  have hl := lv_entry ([.ref (b 0), .int x0, .int x1]) (n := 3) (Nat.le_of_ble_eq_true rfl)
  rw [lg_entry_eq]
  generalize (lg_sl ([.ref (b 0), .int x0, .int x1]) ++ List.replicate (3 - (lg_sl ([.ref (b 0), .int x0, .int x1])).length) Slot.unset).toArray = ls at hl ⊢
  have hl : lv_has ls 3 [(0, .ref (b 0)), (1, .int x0), (2, .int x1)] := hl
  have f25 := hts (.fieldLink RX3 25 "KnivesLaid$Table" "who" "[I") (List.mem_of_getElem? (i := 1) rfl)
  have inX3 : ∀ w ∈ u_ws RX3 TX3 13, w ∈ wsX3_caughtFrom := in_at 9 _ _ rfl
  have f37 := hts (.fieldLink RX3 37 "KnivesLaid$Table" "kinds" "[I") (List.mem_of_getElem? (i := 2) rfl)
  have f15 := hts (.fieldLink RX3 15 "KnivesLaid$Table" "knives" "[I") (List.mem_of_getElem? (i := 3) rfl)
  have f19 := hts (.fieldLink RX3 19 "KnivesLaid$Table" "forks" "[I") (List.mem_of_getElem? (i := 4) rfl)
  refine lv_aload_n hx hb dX3_caughtFrom_0 rfl (lv_at hl 0 rfl) ?_
  refine va_get (ci := 1) (v := .ref (b 4)) (C := RX3) (T := TX3) (N := 13) hx hb hts inX3 hown hK hP 0 rfl rfl 4 (by decide) f25 (fun _ h9 => h9) rfl dX3_caughtFrom_1 ?_
  refine lv_iload_n hx hb dX3_caughtFrom_4 rfl (lv_at hl 2 rfl) ?_
  refine va_iald hx hb hK hP 4 0 rfl rfl (by assumption) dX3_caughtFrom_5 ?_
  refine lv_iconst (v := (-1)) hx hb dX3_caughtFrom_6 (by decide) ?_
  refine lv_icmp_ne (tgt := 14) hx hb dX3_caughtFrom_7 (by decide) (fun c_1 => ?_) (fun c_1 => ?_)
  · skip
    refine lv_aload_n hx hb dX3_caughtFrom_14 rfl (lv_at hl 0 rfl) ?_
    refine va_get (ci := 1) (v := .ref (b 5)) (C := RX3) (T := TX3) (N := 13) hx hb hts inX3 hown hK hP 0 rfl rfl 6 (by decide) f37 (fun _ h9 => h9) rfl dX3_caughtFrom_15 ?_
    refine lv_iload_n hx hb dX3_caughtFrom_18 rfl (lv_at hl 1 rfl) ?_
    refine va_iald hx hb hK hP 5 0 rfl rfl (by assumption) dX3_caughtFrom_19 ?_
    refine lv_aload_n hx hb dX3_caughtFrom_20 rfl (lv_at hl 0 rfl) ?_
    refine va_get (ci := 1) (v := .ref (b 1)) (C := RX3) (T := TX3) (N := 13) hx hb hts inX3 hown hK hP 0 rfl rfl 1 (by decide) f15 (fun _ h9 => h9) rfl dX3_caughtFrom_21 ?_
    refine lv_iload_n hx hb dX3_caughtFrom_24 rfl (lv_at hl 2 rfl) ?_
    refine va_iald hx hb hK hP 1 0 rfl rfl (by assumption) dX3_caughtFrom_25 ?_
    refine lv_aload_n hx hb dX3_caughtFrom_26 rfl (lv_at hl 0 rfl) ?_
    refine va_get (ci := 1) (v := .ref (b 2)) (C := RX3) (T := TX3) (N := 13) hx hb hts inX3 hown hK hP 0 rfl rfl 2 (by decide) f19 (fun _ h9 => h9) rfl dX3_caughtFrom_27 ?_
    refine lv_iload_n hx hb dX3_caughtFrom_30 rfl (lv_at hl 2 rfl) ?_
    refine va_iald hx hb hK hP 2 0 rfl rfl (by assumption) dX3_caughtFrom_31 ?_
    refine callE (W.runS (As := [.int (ki (ix x0)), .int (kn (ix x1)), .int (fo (ix x1))]) (rest := []) ⟨hx, hb, hml, hown, hts⟩ (k_X1_catches l (ki (ix x0)) (kn (ix x1)) (fo (ix x1))) (va_cwS 3 hts gX3_caughtFrom_X1_catches rfl rfl rfl (by decide +kernel) ⟨Nat.le_of_ble_eq_true rfl, Nat.le_of_ble_eq_true rfl⟩) ⟨PcP_fb, fun U _ _ => ⟨rfl, trivial⟩⟩ rfl rfl hl.1 rfl (lv_room (Nat.le_of_ble_eq_true rfl)) dX3_caughtFrom_32 ⟨Nat.zero_le _, Nat.zero_le _⟩) ?_
    exact W.iret hx hb hr (fun t ht hW => ⟨_, rfl, (by have hw := ok.wh h1; simp [sCau, ← hw, c_1]), ht⟩) (fun _ h => absurd h List.not_mem_nil) dX3_caughtFrom_35
  · skip
    refine lv_iconst (v := 0) hx hb dX3_caughtFrom_10 (by decide) ?_
    refine lv_goto (tgt := 35) hx hb dX3_caughtFrom_11 (by decide) ?_
    exact W.iret hx hb hr (fun t ht hW => ⟨_, rfl, (by have hw := ok.wh h1; simp [sCau, ← hw, c_1]), ht⟩) (fun _ h => absurd h List.not_mem_nil) dX3_caughtFrom_35

set_option maxRecDepth 100000 in
set_option maxHeartbeats 4000000 in
theorem k_X3_caught (l : Launch) (D : va_G) (cI cL cS : ClassId) (b : Nat → Nat) (co gu : Int32) (kn fo sp wh ki pl ea to qu mo ne : FI) (x0 : Int32) (ok : okT gu kn fo sp wh ki pl) (h0 : vp_in x0 8) : Met l yX3_caught wsX3_caught { frames := 2, cells := 0, slots := 0, locals := 46 } (PcR D vwCl (tyG cI cL cS) [.ref (b 0), .int x0] (tbw cI b co gu kn fo sp wh ki pl ea to qu mo ne)) (vp_Si (fun r => r = sCatch gu kn fo ki pl (ix x0))) 0 0 (fun _ => False) := by
  refine Met.ofW (cc := cX3_caught) (maxL := 3) (ret := (some .int)) (by decide) rfl ?_
  intro p e s m args below meth c s₁ B hml hv
  obtain ⟨rfl, hP, hK⟩ := hv
  have hx := B.exec
  have hb := B.bytes
  have hr := B.returns
  have hts := atoms_spec (ws := wsX3_caught) B.pre
  have hown : s.vm.findClass RX3 = some m.cls := findClass_of_methodNamed B.named
  have hlocks := B.notSynchronized
  have hl := lv_entry ([.ref (b 0), .int x0]) (n := 3) (Nat.le_of_ble_eq_true rfl)
  rw [lg_entry_eq]
  generalize (lg_sl ([.ref (b 0), .int x0]) ++ List.replicate (3 - (lg_sl ([.ref (b 0), .int x0])).length) Slot.unset).toArray = ls at hl ⊢
  have hl : lv_has ls 3 [(0, .ref (b 0)), (1, .int x0)] := hl
  have f40 := hts (.fieldLink RX3 40 "KnivesLaid$Table" "at" "[I") (List.mem_of_getElem? (i := 1) rfl)
  have inX3 : ∀ w ∈ u_ws RX3 TX3 13, w ∈ wsX3_caught := in_at 21 _ _ rfl
  have hbe := in_bef (ok.pl h0)
  have hbh := in_beh (ok.pl h0)
  refine lv_aload_n hx hb dX3_caught_0 rfl (lv_at hl 0 rfl) ?_
  refine va_get (ci := 1) (v := .ref (b 6)) (C := RX3) (T := TX3) (N := 13) hx hb hts inX3 hown hK hP 0 rfl rfl 7 (by decide) f40 (fun _ h9 => h9) rfl dX3_caught_1 ?_
  refine lv_iload_n hx hb dX3_caught_4 rfl (lv_at hl 1 rfl) ?_
  refine va_iald hx hb hK hP 6 0 rfl rfl (by assumption) dX3_caught_5 ?_
  refine lv_istore_n (lv' := [(2, .int (pl (ix x0))), (0, .ref (b 0)), (1, .int x0)]) hx hb dX3_caught_6 rfl hl (by decide) rfl (fun ls hl => ?_)
  refine lv_aload_n hx hb dX3_caught_7 rfl (lv_at hl 1 rfl) ?_
  refine lv_iload_n hx hb dX3_caught_8 rfl (lv_at hl 2 rfl) ?_
  refine lv_iload_n hx hb dX3_caught_9 rfl (lv_at hl 0 rfl) ?_
  refine callE (W.runS (As := [.int (pl (ix x0))]) (rest := [.int x0, .ref (b 0)]) ⟨hx, hb, hml, hown, hts⟩ (k_X3_before l (pl (ix x0))) (va_cwS 1 hts gX3_caught_X3_before rfl rfl rfl (by decide +kernel) ⟨Nat.le_of_ble_eq_true rfl, Nat.le_of_ble_eq_true rfl⟩) ⟨PcP_fb, fun U _ _ => ⟨rfl, trivial⟩⟩ rfl rfl hl.1 rfl (lv_room (Nat.le_of_ble_eq_true rfl)) dX3_caught_10 ⟨Nat.zero_le _, Nat.zero_le _⟩) ?_
  refine callE (W.runV (As := [.int x0, .int (sBef (pl (ix x0)))]) (rest := []) ⟨hx, hb, hml, hown, hts⟩ (k_X3_caughtFrom l D cI cL cS b co gu kn fo sp wh ki pl ea to qu mo ne x0 (sBef (pl (ix x0))) ok (by assumption) (by assumption)) (cwV 2 hts gX3_caught_X3_caughtFrom rfl rfl rfl (by decide +kernel) ⟨Nat.le_of_ble_eq_true rfl, Nat.le_of_ble_eq_true rfl⟩) ⟨PcR_fb, va_recv hK hP (ci := 1) (q0 := 0) rfl rfl, PcR_pre hP hK⟩ rfl rfl hl.1 rfl (lv_room (Nat.le_of_ble_eq_true rfl)) dX3_caught_13 ⟨Nat.zero_le _, Nat.zero_le _⟩) ?_
  refine lv_aload_n hx hb dX3_caught_16 rfl (lv_at hl 1 rfl) ?_
  refine lv_iload_n hx hb dX3_caught_17 rfl (lv_at hl 2 rfl) ?_
  refine lv_iload_n hx hb dX3_caught_18 rfl (lv_at hl 0 rfl) ?_
  refine callE (W.runS (As := [.int (pl (ix x0))]) (rest := [.int x0, .ref (b 0), .int (sCau gu kn fo ki pl (ix x0) (sBef (pl (ix x0))))]) ⟨hx, hb, hml, hown, hts⟩ (k_X3_behind l (pl (ix x0))) (va_cwS 1 hts gX3_caught_X3_behind rfl rfl rfl (by decide +kernel) ⟨Nat.le_of_ble_eq_true rfl, Nat.le_of_ble_eq_true rfl⟩) ⟨PcP_fb, fun U _ _ => ⟨rfl, trivial⟩⟩ rfl rfl hl.1 rfl (lv_room (Nat.le_of_ble_eq_true rfl)) dX3_caught_19 ⟨Nat.zero_le _, Nat.zero_le _⟩) ?_
  refine callE (W.runV (As := [.int x0, .int (sBeh (pl (ix x0)))]) (rest := [.int (sCau gu kn fo ki pl (ix x0) (sBef (pl (ix x0))))]) ⟨hx, hb, hml, hown, hts⟩ (k_X3_caughtFrom l D cI cL cS b co gu kn fo sp wh ki pl ea to qu mo ne x0 (sBeh (pl (ix x0))) ok (by assumption) (by assumption)) (cwV 2 hts gX3_caught_X3_caughtFrom rfl rfl rfl (by decide +kernel) ⟨Nat.le_of_ble_eq_true rfl, Nat.le_of_ble_eq_true rfl⟩) ⟨PcR_fb, va_recv hK hP (ci := 1) (q0 := 0) rfl rfl, PcR_pre hP hK⟩ rfl rfl hl.1 rfl (lv_room (Nat.le_of_ble_eq_true rfl)) dX3_caught_22 ⟨Nat.zero_le _, Nat.zero_le _⟩) ?_
  refine lv_iadd hx hb dX3_caught_25 ?_
  exact W.iret hx hb hr (fun t ht hW => ⟨_, rfl, (by rfl), ht⟩) (fun _ h => absurd h List.not_mem_nil) dX3_caught_26

set_option maxRecDepth 100000 in
set_option maxHeartbeats 4000000 in
theorem k_X3_feeling (l : Launch) (D : va_G) (cI cL cS : ClassId) (b : Nat → Nat) (co gu : Int32) (kn fo sp wh ki pl ea to qu mo ne : FI) (x0 : Int32) (ok : okT gu kn fo sp wh ki pl) (h0 : vp_in x0 8) : Met l yX3_feeling wsX3_feeling { frames := 2, cells := 0, slots := 0, locals := 41 } (PcR D vwCl (tyG cI cL cS) [.ref (b 0), .int x0] (tbw cI b co gu kn fo sp wh ki pl ea to qu mo ne)) (vp_Si (fun r => r = sFeels gu kn fo sp ki pl (ix x0))) 0 0 (fun _ => False) := by
  refine Met.ofW (cc := cX3_feeling) (maxL := 4) (ret := (some .int)) (by decide) rfl ?_
  intro p e s m args below meth c s₁ B hml hv
  obtain ⟨rfl, hP, hK⟩ := hv
  have hx := B.exec
  have hb := B.bytes
  have hr := B.returns
  have hts := atoms_spec (ws := wsX3_feeling) B.pre
  have hown : s.vm.findClass RX3 = some m.cls := findClass_of_methodNamed B.named
  have hlocks := B.notSynchronized
  have hl := lv_entry ([.ref (b 0), .int x0]) (n := 4) (Nat.le_of_ble_eq_true rfl)
  rw [lg_entry_eq]
  generalize (lg_sl ([.ref (b 0), .int x0]) ++ List.replicate (4 - (lg_sl ([.ref (b 0), .int x0])).length) Slot.unset).toArray = ls at hl ⊢
  have hl : lv_has ls 4 [(0, .ref (b 0)), (1, .int x0)] := hl
  have f40 := hts (.fieldLink RX3 40 "KnivesLaid$Table" "at" "[I") (List.mem_of_getElem? (i := 1) rfl)
  have inX3 : ∀ w ∈ u_ws RX3 TX3 13, w ∈ wsX3_feeling := in_at 32 _ _ rfl
  have f37 := hts (.fieldLink RX3 37 "KnivesLaid$Table" "kinds" "[I") (List.mem_of_getElem? (i := 2) rfl)
  have f15 := hts (.fieldLink RX3 15 "KnivesLaid$Table" "knives" "[I") (List.mem_of_getElem? (i := 3) rfl)
  have f19 := hts (.fieldLink RX3 19 "KnivesLaid$Table" "forks" "[I") (List.mem_of_getElem? (i := 4) rfl)
  have f22 := hts (.fieldLink RX3 22 "KnivesLaid$Table" "spoons" "[I") (List.mem_of_getElem? (i := 5) rfl)
  have hpl := ok.pl h0
  refine lv_aload_n hx hb dX3_feeling_0 rfl (lv_at hl 0 rfl) ?_
  refine va_get (ci := 1) (v := .ref (b 6)) (C := RX3) (T := TX3) (N := 13) hx hb hts inX3 hown hK hP 0 rfl rfl 7 (by decide) f40 (fun _ h9 => h9) rfl dX3_feeling_1 ?_
  refine lv_iload_n hx hb dX3_feeling_4 rfl (lv_at hl 1 rfl) ?_
  refine va_iald hx hb hK hP 6 0 rfl rfl (by assumption) dX3_feeling_5 ?_
  refine lv_istore_n (lv' := [(2, .int (pl (ix x0))), (0, .ref (b 0)), (1, .int x0)]) hx hb dX3_feeling_6 rfl hl (by decide) rfl (fun ls hl => ?_)
  refine lv_aload_n hx hb dX3_feeling_7 rfl (lv_at hl 1 rfl) ?_
  refine lv_iload_n hx hb dX3_feeling_8 rfl (lv_at hl 2 rfl) ?_
  refine callE (W.runV (As := [.int x0]) (rest := []) ⟨hx, hb, hml, hown, hts⟩ (k_X3_neighbours l D cI cL cS b co gu kn fo sp wh ki pl ea to qu mo ne x0 ok (by assumption)) (cwV 1 hts gX3_feeling_X3_neighbours rfl rfl rfl (by decide +kernel) ⟨Nat.le_of_ble_eq_true rfl, Nat.le_of_ble_eq_true rfl⟩) ⟨PcR_fb, va_recv hK hP (ci := 1) (q0 := 0) rfl rfl, PcR_pre hP hK⟩ rfl rfl hl.1 rfl (lv_room (Nat.le_of_ble_eq_true rfl)) dX3_feeling_9 ⟨Nat.zero_le _, Nat.zero_le _⟩) ?_
  refine callE (W.runS (As := [.int (sNear gu pl (ix x0))]) (rest := []) ⟨hx, hb, hml, hown, hts⟩ (k_J6_bitCount_0f7a4 l (sNear gu pl (ix x0))) (va_cwS 1 hts gX3_feeling_J6_bitCount_0f7a4 rfl rfl rfl (by decide +kernel) ⟨Nat.le_of_ble_eq_true rfl, Nat.le_of_ble_eq_true rfl⟩) ⟨PcP_fb, fun U _ _ => ⟨rfl, trivial⟩⟩ rfl rfl hl.1 rfl (lv_room (Nat.le_of_ble_eq_true rfl)) dX3_feeling_12 ⟨Nat.zero_le _, Nat.zero_le _⟩) ?_
  refine lv_istore_n (lv' := [(3, .int (pop32 (sNear gu pl (ix x0)))), (2, .int (pl (ix x0))), (0, .ref (b 0)), (1, .int x0)]) hx hb dX3_feeling_15 rfl hl (by decide) rfl (fun ls hl => ?_)
  refine lv_aload_n hx hb dX3_feeling_16 rfl (lv_at hl 2 rfl) ?_
  refine va_get (ci := 1) (v := .ref (b 5)) (C := RX3) (T := TX3) (N := 13) hx hb hts inX3 hown hK hP 0 rfl rfl 6 (by decide) f37 (fun _ h9 => h9) rfl dX3_feeling_17 ?_
  refine lv_iload_n hx hb dX3_feeling_20 rfl (lv_at hl 3 rfl) ?_
  refine va_iald hx hb hK hP 5 0 rfl rfl (by assumption) dX3_feeling_21 ?_
  refine lv_aload_n hx hb dX3_feeling_22 rfl (lv_at hl 2 rfl) ?_
  refine va_get (ci := 1) (v := .ref (b 1)) (C := RX3) (T := TX3) (N := 13) hx hb hts inX3 hown hK hP 0 rfl rfl 1 (by decide) f15 (fun _ h9 => h9) rfl dX3_feeling_23 ?_
  refine lv_iload_n hx hb dX3_feeling_26 rfl (lv_at hl 1 rfl) ?_
  refine va_iald hx hb hK hP 1 0 rfl rfl (by assumption) dX3_feeling_27 ?_
  refine lv_aload_n hx hb dX3_feeling_28 rfl (lv_at hl 2 rfl) ?_
  refine va_get (ci := 1) (v := .ref (b 2)) (C := RX3) (T := TX3) (N := 13) hx hb hts inX3 hown hK hP 0 rfl rfl 2 (by decide) f19 (fun _ h9 => h9) rfl dX3_feeling_29 ?_
  refine lv_iload_n hx hb dX3_feeling_32 rfl (lv_at hl 1 rfl) ?_
  refine va_iald hx hb hK hP 2 0 rfl rfl (by assumption) dX3_feeling_33 ?_
  refine lv_aload_n hx hb dX3_feeling_34 rfl (lv_at hl 2 rfl) ?_
  refine va_get (ci := 1) (v := .ref (b 3)) (C := RX3) (T := TX3) (N := 13) hx hb hts inX3 hown hK hP 0 rfl rfl 3 (by decide) f22 (fun _ h9 => h9) rfl dX3_feeling_35 ?_
  refine lv_iload_n hx hb dX3_feeling_38 rfl (lv_at hl 1 rfl) ?_
  refine va_iald hx hb hK hP 3 0 rfl rfl (by assumption) dX3_feeling_39 ?_
  refine lv_iload_n hx hb dX3_feeling_40 rfl (lv_at hl 0 rfl) ?_
  refine callE (W.runS (As := [.int (ki (ix x0)), .int (kn (ix (pl (ix x0)))), .int (fo (ix (pl (ix x0)))), .int (sp (ix (pl (ix x0)))), .int (pop32 (sNear gu pl (ix x0)))]) (rest := []) ⟨hx, hb, hml, hown, hts⟩ (k_X1_feels l (ki (ix x0)) (kn (ix (pl (ix x0)))) (fo (ix (pl (ix x0)))) (sp (ix (pl (ix x0)))) (pop32 (sNear gu pl (ix x0)))) (va_cwS 5 hts gX3_feeling_X1_feels rfl rfl rfl (by decide +kernel) ⟨Nat.le_of_ble_eq_true rfl, Nat.le_of_ble_eq_true rfl⟩) ⟨PcP_fb, fun U _ _ => ⟨rfl, trivial⟩⟩ rfl rfl hl.1 rfl (lv_room (Nat.le_of_ble_eq_true rfl)) dX3_feeling_41 ⟨Nat.zero_le _, Nat.zero_le _⟩) ?_
  exact W.iret hx hb hr (fun t ht hW => ⟨_, rfl, (by rw [pop_near ok h0]; rfl), ht⟩) (fun _ h => absurd h List.not_mem_nil) dX3_feeling_44

set_option maxRecDepth 100000 in
set_option maxHeartbeats 4000000 in
theorem k_X3_isTelling (l : Launch) (D : va_G) (cI cL cS : ClassId) (b : Nat → Nat) (co gu : Int32) (kn fo sp wh ki pl ea to qu mo ne : FI) (x0 : Int32) (ok : okT gu kn fo sp wh ki pl) (h0 : vp_in x0 8) : Met l yX3_isTelling wsX3_isTelling { frames := 1, cells := 0, slots := 0, locals := 22 } (PcR D vwCl (tyG cI cL cS) [.ref (b 0), .int x0] (tbw cI b co gu kn fo sp wh ki pl ea to qu mo ne)) (vp_Si (fun r => r = bI (sTells sp ki pl ea (ix x0)))) 0 0 (fun _ => False) := by
  refine Met.ofW (cc := cX3_isTelling) (maxL := 2) (ret := (some .boolean)) (by decide) rfl ?_
  intro p e s m args below meth c s₁ B hml hv
  obtain ⟨rfl, hP, hK⟩ := hv
  have hx := B.exec
  have hb := B.bytes
  have hr := B.returns
  have hts := atoms_spec (ws := wsX3_isTelling) B.pre
  have hown : s.vm.findClass RX3 = some m.cls := findClass_of_methodNamed B.named
  have hlocks := B.notSynchronized
  have hl := lv_entry ([.ref (b 0), .int x0]) (n := 2) (Nat.le_of_ble_eq_true rfl)
  rw [lg_entry_eq]
  generalize (lg_sl ([.ref (b 0), .int x0]) ++ List.replicate (2 - (lg_sl ([.ref (b 0), .int x0])).length) Slot.unset).toArray = ls at hl ⊢
  have hl : lv_has ls 2 [(0, .ref (b 0)), (1, .int x0)] := hl
  have f37 := hts (.fieldLink RX3 37 "KnivesLaid$Table" "kinds" "[I") (List.mem_of_getElem? (i := 1) rfl)
  have inX3 : ∀ w ∈ u_ws RX3 TX3 13, w ∈ wsX3_isTelling := in_at 9 _ _ rfl
  have f22 := hts (.fieldLink RX3 22 "KnivesLaid$Table" "spoons" "[I") (List.mem_of_getElem? (i := 2) rfl)
  have f40 := hts (.fieldLink RX3 40 "KnivesLaid$Table" "at" "[I") (List.mem_of_getElem? (i := 3) rfl)
  have f43 := hts (.fieldLink RX3 43 "KnivesLaid$Table" "ease" "[I") (List.mem_of_getElem? (i := 4) rfl)
  have hpl := ok.pl h0
  refine lv_aload_n hx hb dX3_isTelling_0 rfl (lv_at hl 0 rfl) ?_
  refine va_get (ci := 1) (v := .ref (b 5)) (C := RX3) (T := TX3) (N := 13) hx hb hts inX3 hown hK hP 0 rfl rfl 6 (by decide) f37 (fun _ h9 => h9) rfl dX3_isTelling_1 ?_
  refine lv_iload_n hx hb dX3_isTelling_4 rfl (lv_at hl 1 rfl) ?_
  refine va_iald hx hb hK hP 5 0 rfl rfl (by assumption) dX3_isTelling_5 ?_
  refine lv_aload_n hx hb dX3_isTelling_6 rfl (lv_at hl 0 rfl) ?_
  refine va_get (ci := 1) (v := .ref (b 3)) (C := RX3) (T := TX3) (N := 13) hx hb hts inX3 hown hK hP 0 rfl rfl 3 (by decide) f22 (fun _ h9 => h9) rfl dX3_isTelling_7 ?_
  refine lv_aload_n hx hb dX3_isTelling_10 rfl (lv_at hl 0 rfl) ?_
  refine va_get (ci := 1) (v := .ref (b 6)) (C := RX3) (T := TX3) (N := 13) hx hb hts inX3 hown hK hP 0 rfl rfl 7 (by decide) f40 (fun _ h9 => h9) rfl dX3_isTelling_11 ?_
  refine lv_iload_n hx hb dX3_isTelling_14 rfl (lv_at hl 1 rfl) ?_
  refine va_iald hx hb hK hP 6 0 rfl rfl (by assumption) dX3_isTelling_15 ?_
  refine va_iald hx hb hK hP 3 0 rfl rfl (by assumption) dX3_isTelling_16 ?_
  refine lv_aload_n hx hb dX3_isTelling_17 rfl (lv_at hl 0 rfl) ?_
  refine va_get (ci := 1) (v := .ref (b 7)) (C := RX3) (T := TX3) (N := 13) hx hb hts inX3 hown hK hP 0 rfl rfl 8 (by decide) f43 (fun _ h9 => h9) rfl dX3_isTelling_18 ?_
  refine lv_iload_n hx hb dX3_isTelling_21 rfl (lv_at hl 1 rfl) ?_
  refine va_iald hx hb hK hP 7 0 rfl rfl (by assumption) dX3_isTelling_22 ?_
  refine callE (W.runS (As := [.int (ki (ix x0)), .int (sp (ix (pl (ix x0)))), .int (ea (ix x0))]) (rest := []) ⟨hx, hb, hml, hown, hts⟩ (k_X1_tellsAt l (ki (ix x0)) (sp (ix (pl (ix x0)))) (ea (ix x0))) (va_cwS 3 hts gX3_isTelling_X1_tellsAt rfl rfl rfl (by decide +kernel) ⟨Nat.le_of_ble_eq_true rfl, Nat.le_of_ble_eq_true rfl⟩) ⟨PcP_fb, fun U _ _ => ⟨rfl, trivial⟩⟩ rfl rfl hl.1 rfl (lv_room (Nat.le_of_ble_eq_true rfl)) dX3_isTelling_23 ⟨Nat.zero_le _, Nat.zero_le _⟩) ?_
  exact W.zret (ty := .boolean) hx hb hr (bI_nar _) (fun t ht hW => ⟨_, rfl, (by rfl), ht⟩) (fun _ h => absurd h List.not_mem_nil) dX3_isTelling_26

set_option maxRecDepth 100000 in
set_option maxHeartbeats 4000000 in
theorem k_X3_tellingSet (l : Launch) (D : va_G) (cI cL cS : ClassId) (b : Nat → Nat) (co gu : Int32) (kn fo sp wh ki pl ea to qu mo ne : FI) (ok : okT gu kn fo sp wh ki pl) : Met l yX3_tellingSet wsX3_tellingSet { frames := 2, cells := 0, slots := 0, locals := 43 } (PcR D vwCl (tyG cI cL cS) [.ref (b 0)] (tbw cI b co gu kn fo sp wh ki pl ea to qu mo ne)) (vp_Si (fun r => r = sSet (sTells sp ki pl ea) (ix gu))) 0 0 (fun _ => False) := by
  refine Met.ofW (cc := cX3_tellingSet) (maxL := 3) (ret := (some .int)) (by decide) rfl ?_
  intro p e s m args below meth c s₁ B hml hv
  obtain ⟨rfl, hP, hK⟩ := hv
  have hx := B.exec
  have hb := B.bytes
  have hr := B.returns
  have hts := atoms_spec (ws := wsX3_tellingSet) B.pre
  have hown : s.vm.findClass RX3 = some m.cls := findClass_of_methodNamed B.named
  have hlocks := B.notSynchronized
  have hl := lv_entry ([.ref (b 0)]) (n := 3) (Nat.le_of_ble_eq_true rfl)
  rw [lg_entry_eq]
  generalize (lg_sl ([.ref (b 0)]) ++ List.replicate (3 - (lg_sl ([.ref (b 0)])).length) Slot.unset).toArray = ls at hl ⊢
  have hl : lv_has ls 3 [(0, .ref (b 0))] := hl
  have f34 := hts (.fieldLink RX3 34 "KnivesLaid$Table" "guests" "I") (List.mem_of_getElem? (i := 1) rfl)
  have inX3 : ∀ w ∈ u_ws RX3 TX3 13, w ∈ wsX3_tellingSet := in_at 15 _ _ rfl
  have hgu := gu_of ok.gu
  have hgu8 := hgu.2
  refine lv_iconst (v := 0) hx hb dX3_tellingSet_0 (by decide) ?_
  refine lv_istore_n (lv' := [(1, .int 0), (0, .ref (b 0))]) hx hb dX3_tellingSet_1 rfl hl (by decide) rfl (fun ls hl => ?_)
  refine lv_iconst (v := 0) hx hb dX3_tellingSet_2 (by decide) ?_
  refine lv_istore_n (lv' := [(2, .int 0), (1, .int 0), (0, .ref (b 0))]) hx hb dX3_tellingSet_3 rfl hl (by decide) rfl (fun ls hl => ?_)
  refine lpR (fun n (u : Nat × Int32) ls => (u.1 + n = ix gu) ∧ (u.2 = sSet (sTells sp ki pl ea) u.1) ∧ lv_has ls 3 [(0, .ref (b 0)), (1, .int u.2), (2, .int (nI u.1))]) (ix gu) ((0, 0)) ⟨by omega, rfl, lv_sub hl [2, 1, 0] rfl⟩ (fun n ih u ls hI => ?_)
  obtain ⟨i, z⟩ := u
  obtain ⟨hi0, hi1, hl⟩ := hI
  have hi0 : i + n = ix gu := hi0
  have hi1 : z = sSet (sTells sp ki pl ea) i := hi1
  have hl : lv_has ls 3 [(0, .ref (b 0)), (1, .int z), (2, .int (nI i))] := hl
  have hix : ix (nI i) = i := ix_nI (by omega)
  refine lv_iload_n hx hb dX3_tellingSet_4 rfl (lv_at hl 2 rfl) ?_
  refine lv_aload_n hx hb dX3_tellingSet_5 rfl (lv_at hl 0 rfl) ?_
  refine va_get (ci := 1) (v := .int gu) (C := RX3) (T := TX3) (N := 13) hx hb hts inX3 hown hK hP 0 rfl rfl 5 (by decide) f34 (fun _ h9 => h9) rfl dX3_tellingSet_6 ?_
  refine lv_icmp_ge (tgt := 32) hx hb dX3_tellingSet_9 (by decide) (fun c_1 => ?_) (fun c_1 => ?_)
  · skip
    have c_1n := (cmp_le (a := ix gu) (b := i) hgu.1 rfl (by omega) (by omega)).mp c_1
    refine lv_iload_n hx hb dX3_tellingSet_32 rfl (lv_at hl 1 rfl) ?_
    exact W.iret hx hb hr (fun t ht hW => ⟨_, rfl, (by rw [hi1, show i = ix gu by omega]), ht⟩) (fun _ h => absurd h List.not_mem_nil) dX3_tellingSet_33
  · skip
    have c_1n := mt (cmp_le (a := ix gu) (b := i) hgu.1 rfl (by omega) (by omega)).mpr c_1
    refine lv_aload_n hx hb dX3_tellingSet_12 rfl (lv_at hl 0 rfl) ?_
    refine lv_iload_n hx hb dX3_tellingSet_13 rfl (lv_at hl 2 rfl) ?_
    refine callE (W.runV (As := [.int (nI i)]) (rest := []) ⟨hx, hb, hml, hown, hts⟩ (k_X3_isTelling l D cI cL cS b co gu kn fo sp wh ki pl ea to qu mo ne (nI i) ok (vp_in_nI (by omega) (by omega))) (cwV 1 hts gX3_tellingSet_X3_isTelling rfl rfl rfl (by decide +kernel) ⟨Nat.le_of_ble_eq_true rfl, Nat.le_of_ble_eq_true rfl⟩) ⟨PcR_fb, va_recv hK hP (ci := 1) (q0 := 0) rfl rfl, PcR_pre hP hK⟩ rfl rfl hl.1 rfl (lv_room (Nat.le_of_ble_eq_true rfl)) dX3_tellingSet_14 ⟨Nat.zero_le _, Nat.zero_le _⟩) ?_
    refine lv_if_eq (tgt := 26) hx hb dX3_tellingSet_17 (by decide) (fun c_2 => ?_) (fun c_2 => ?_)
    · skip
      have c_2b := bI_0 c_2
      refine lv_iinc (v := nI (i + 1)) (lv' := [(2, .int (nI (i + 1))), (0, .ref (b 0)), (1, .int z)]) hx hb dX3_tellingSet_26 hl (k := 2) rfl (nI_1 _) (by decide) rfl (fun ls hl => ?_)
      refine lv_goto (tgt := 4) hx hb dX3_tellingSet_29 (by decide) ?_
      exact ih (n - 1) (by omega) ((i + 1, z)) ls ⟨by omega, by rw [hi1]; exact (sSet_f hix c_2b).symm, lv_sub hl [1, 2, 0] rfl⟩
    · skip
      have c_2b := bI_n c_2
      refine lv_iload_n hx hb dX3_tellingSet_20 rfl (lv_at hl 1 rfl) ?_
      refine lv_iconst (v := 1) hx hb dX3_tellingSet_21 (by decide) ?_
      refine lv_iload_n hx hb dX3_tellingSet_22 rfl (lv_at hl 2 rfl) ?_
      refine lv_ishl hx hb dX3_tellingSet_23 ?_
      refine lv_ior hx hb dX3_tellingSet_24 ?_
      refine lv_istore_n (lv' := [(1, .int (z ||| (1 <<< ((nI i) &&& 31)))), (0, .ref (b 0)), (2, .int (nI i))]) hx hb dX3_tellingSet_25 rfl hl (by decide) rfl (fun ls hl => ?_)
      refine lv_iinc (v := nI (i + 1)) (lv' := [(2, .int (nI (i + 1))), (1, .int (z ||| (1 <<< ((nI i) &&& 31)))), (0, .ref (b 0))]) hx hb dX3_tellingSet_26 hl (k := 2) rfl (nI_1 _) (by decide) rfl (fun ls hl => ?_)
      refine lv_goto (tgt := 4) hx hb dX3_tellingSet_29 (by decide) ?_
      exact ih (n - 1) (by omega) ((i + 1, (z ||| (1 <<< ((nI i) &&& 31))))) ls ⟨by omega, by rw [hi1]; exact (sSet_t hix c_2b).symm, lv_sub hl [2, 1, 0] rfl⟩

set_option maxRecDepth 100000 in
set_option maxHeartbeats 4000000 in
theorem k_X3_soreSet (l : Launch) (D : va_G) (cI cL cS : ClassId) (b : Nat → Nat) (co gu : Int32) (kn fo sp wh ki pl ea to qu mo ne : FI) (hg9 : vp_in gu 9) : Met l yX3_soreSet wsX3_soreSet { frames := 1, cells := 0, slots := 0, locals := 20 } (PcR D vwCl (tyG cI cL cS) [.ref (b 0)] (tbw cI b co gu kn fo sp wh ki pl ea to qu mo ne)) (vp_Si (fun r => r = sSet (sSores ki ea) (ix gu))) 0 0 (fun _ => False) := by
  refine Met.ofW (cc := cX3_soreSet) (maxL := 3) (ret := (some .int)) (by decide) rfl ?_
  intro p e s m args below meth c s₁ B hml hv
  obtain ⟨rfl, hP, hK⟩ := hv
  have hx := B.exec
  have hb := B.bytes
  have hr := B.returns
  have hts := atoms_spec (ws := wsX3_soreSet) B.pre
  have hown : s.vm.findClass RX3 = some m.cls := findClass_of_methodNamed B.named
  have hlocks := B.notSynchronized
  have hl := lv_entry ([.ref (b 0)]) (n := 3) (Nat.le_of_ble_eq_true rfl)
  rw [lg_entry_eq]
  generalize (lg_sl ([.ref (b 0)]) ++ List.replicate (3 - (lg_sl ([.ref (b 0)])).length) Slot.unset).toArray = ls at hl ⊢
  have hl : lv_has ls 3 [(0, .ref (b 0))] := hl
  have f34 := hts (.fieldLink RX3 34 "KnivesLaid$Table" "guests" "I") (List.mem_of_getElem? (i := 1) rfl)
  have inX3 : ∀ w ∈ u_ws RX3 TX3 13, w ∈ wsX3_soreSet := in_at 8 _ _ rfl
  have f43 := hts (.fieldLink RX3 43 "KnivesLaid$Table" "ease" "[I") (List.mem_of_getElem? (i := 2) rfl)
  have f37 := hts (.fieldLink RX3 37 "KnivesLaid$Table" "kinds" "[I") (List.mem_of_getElem? (i := 3) rfl)
  have hgu := gu_of hg9
  have hgu8 := hgu.2
  refine lv_iconst (v := 0) hx hb dX3_soreSet_0 (by decide) ?_
  refine lv_istore_n (lv' := [(1, .int 0), (0, .ref (b 0))]) hx hb dX3_soreSet_1 rfl hl (by decide) rfl (fun ls hl => ?_)
  refine lv_iconst (v := 0) hx hb dX3_soreSet_2 (by decide) ?_
  refine lv_istore_n (lv' := [(2, .int 0), (1, .int 0), (0, .ref (b 0))]) hx hb dX3_soreSet_3 rfl hl (by decide) rfl (fun ls hl => ?_)
  refine lpR (fun n (u : Nat × Int32) ls => (u.1 + n = ix gu) ∧ (u.2 = sSet (sSores ki ea) u.1) ∧ lv_has ls 3 [(0, .ref (b 0)), (1, .int u.2), (2, .int (nI u.1))]) (ix gu) ((0, 0)) ⟨by omega, rfl, lv_sub hl [2, 1, 0] rfl⟩ (fun n ih u ls hI => ?_)
  obtain ⟨i, z⟩ := u
  obtain ⟨hi0, hi1, hl⟩ := hI
  have hi0 : i + n = ix gu := hi0
  have hi1 : z = sSet (sSores ki ea) i := hi1
  have hl : lv_has ls 3 [(0, .ref (b 0)), (1, .int z), (2, .int (nI i))] := hl
  have hix : ix (nI i) = i := ix_nI (by omega)
  refine lv_iload_n hx hb dX3_soreSet_4 rfl (lv_at hl 2 rfl) ?_
  refine lv_aload_n hx hb dX3_soreSet_5 rfl (lv_at hl 0 rfl) ?_
  refine va_get (ci := 1) (v := .int gu) (C := RX3) (T := TX3) (N := 13) hx hb hts inX3 hown hK hP 0 rfl rfl 5 (by decide) f34 (fun _ h9 => h9) rfl dX3_soreSet_6 ?_
  refine lv_icmp_ge (tgt := 42) hx hb dX3_soreSet_9 (by decide) (fun c_1 => ?_) (fun c_1 => ?_)
  · skip
    have c_1n := (cmp_le (a := ix gu) (b := i) hgu.1 rfl (by omega) (by omega)).mp c_1
    refine lv_iload_n hx hb dX3_soreSet_42 rfl (lv_at hl 1 rfl) ?_
    exact W.iret hx hb hr (fun t ht hW => ⟨_, rfl, (by rw [hi1, show i = ix gu by omega]), ht⟩) (fun _ h => absurd h List.not_mem_nil) dX3_soreSet_43
  · skip
    have c_1n := mt (cmp_le (a := ix gu) (b := i) hgu.1 rfl (by omega) (by omega)).mpr c_1
    refine lv_aload_n hx hb dX3_soreSet_12 rfl (lv_at hl 0 rfl) ?_
    refine va_get (ci := 1) (v := .ref (b 7)) (C := RX3) (T := TX3) (N := 13) hx hb hts inX3 hown hK hP 0 rfl rfl 8 (by decide) f43 (fun _ h9 => h9) rfl dX3_soreSet_13 ?_
    refine lv_iload_n hx hb dX3_soreSet_16 rfl (lv_at hl 2 rfl) ?_
    refine va_iald hx hb hK hP 7 0 rfl rfl (vp_in_nI (by omega) (by omega)) dX3_soreSet_17 ?_
    refine lv_aload_n hx hb dX3_soreSet_18 rfl (lv_at hl 0 rfl) ?_
    refine va_get (ci := 1) (v := .ref (b 5)) (C := RX3) (T := TX3) (N := 13) hx hb hts inX3 hown hK hP 0 rfl rfl 6 (by decide) f37 (fun _ h9 => h9) rfl dX3_soreSet_19 ?_
    refine lv_iload_n hx hb dX3_soreSet_22 rfl (lv_at hl 2 rfl) ?_
    refine va_iald hx hb hK hP 5 0 rfl rfl (vp_in_nI (by omega) (by omega)) dX3_soreSet_23 ?_
    refine callE (W.runS (As := [.int (ki (ix (nI i)))]) (rest := [.int (ea (ix (nI i)))]) ⟨hx, hb, hml, hown, hts⟩ (k_X1_soreBelow l (ki (ix (nI i)))) (va_cwS 1 hts gX3_soreSet_X1_soreBelow rfl rfl rfl (by decide +kernel) ⟨Nat.le_of_ble_eq_true rfl, Nat.le_of_ble_eq_true rfl⟩) ⟨PcP_fb, fun U _ _ => ⟨rfl, trivial⟩⟩ rfl rfl hl.1 rfl (lv_room (Nat.le_of_ble_eq_true rfl)) dX3_soreSet_24 ⟨Nat.zero_le _, Nat.zero_le _⟩) ?_
    refine lv_icmp_ge (tgt := 36) hx hb dX3_soreSet_27 (by decide) (fun c_2 => ?_) (fun c_2 => ?_)
    · skip
      have c_2 : ¬ sSores ki ea (ix (nI i)) := Int32.not_lt.mpr c_2
      refine lv_iinc (v := nI (i + 1)) (lv' := [(2, .int (nI (i + 1))), (0, .ref (b 0)), (1, .int z)]) hx hb dX3_soreSet_36 hl (k := 2) rfl (nI_1 _) (by decide) rfl (fun ls hl => ?_)
      refine lv_goto (tgt := 4) hx hb dX3_soreSet_39 (by decide) ?_
      exact ih (n - 1) (by omega) ((i + 1, z)) ls ⟨by omega, by rw [hi1]; exact (sSet_f hix c_2).symm, lv_sub hl [1, 2, 0] rfl⟩
    · skip
      have c_2 : sSores ki ea (ix (nI i)) := Int32.not_le.mp c_2
      refine lv_iload_n hx hb dX3_soreSet_30 rfl (lv_at hl 1 rfl) ?_
      refine lv_iconst (v := 1) hx hb dX3_soreSet_31 (by decide) ?_
      refine lv_iload_n hx hb dX3_soreSet_32 rfl (lv_at hl 2 rfl) ?_
      refine lv_ishl hx hb dX3_soreSet_33 ?_
      refine lv_ior hx hb dX3_soreSet_34 ?_
      refine lv_istore_n (lv' := [(1, .int (z ||| (1 <<< ((nI i) &&& 31)))), (0, .ref (b 0)), (2, .int (nI i))]) hx hb dX3_soreSet_35 rfl hl (by decide) rfl (fun ls hl => ?_)
      refine lv_iinc (v := nI (i + 1)) (lv' := [(2, .int (nI (i + 1))), (1, .int (z ||| (1 <<< ((nI i) &&& 31)))), (0, .ref (b 0))]) hx hb dX3_soreSet_36 hl (k := 2) rfl (nI_1 _) (by decide) rfl (fun ls hl => ?_)
      refine lv_goto (tgt := 4) hx hb dX3_soreSet_39 (by decide) ?_
      exact ih (n - 1) (by omega) ((i + 1, (z ||| (1 <<< ((nI i) &&& 31))))) ls ⟨by omega, by rw [hi1]; exact (sSet_t hix c_2).symm, lv_sub hl [2, 1, 0] rfl⟩

set_option maxRecDepth 100000 in
set_option maxHeartbeats 4000000 in
theorem k_X3_sum (l : Launch) (D : va_G) (cI cL cS : ClassId) (a k : Nat) (f : FI) (x1 : Int32) (hk : k < 1000) (h1 : vp_in x1 (k + 1)) : Met l yX3_sum wsX3_sum { frames := 0, cells := 0, slots := 0, locals := 0 } (PcR D vwCl (tyG cI cL cS) [.ref a, .int x1] (ar cI a k f)) (vp_Si (fun r => r = sSum f (ix x1))) 0 0 (fun _ => False) := by
  refine Met.ofW (cc := cX3_sum) (maxL := 4) (ret := (some .int)) (by decide) rfl ?_
  intro p e s m args below meth c s₁ B hml hv
  obtain ⟨rfl, hP, hK⟩ := hv
  have hx := B.exec
  have hb := B.bytes
  have hr := B.returns
  have hts := atoms_spec (ws := wsX3_sum) B.pre
  have hown : s.vm.findClass RX3 = some m.cls := findClass_of_methodNamed B.named
  have hlocks := B.notSynchronized
  have hl := lv_entry ([.ref a, .int x1]) (n := 4) (Nat.le_of_ble_eq_true rfl)
  rw [lg_entry_eq]
  generalize (lg_sl ([.ref a, .int x1]) ++ List.replicate (4 - (lg_sl ([.ref a, .int x1])).length) Slot.unset).toArray = ls at hl ⊢
  have hl : lv_has ls 4 [(0, .ref a), (1, .int x1)] := hl
  have e1 : x1 = nI (ix x1) := (nI_ix (by omega) h1).symm
  have b1 := ix_lt (by omega) h1
  refine lv_iconst (v := 0) hx hb dX3_sum_0 (by decide) ?_
  refine lv_istore_n (lv' := [(2, .int 0), (0, .ref a), (1, .int x1)]) hx hb dX3_sum_1 rfl hl (by decide) rfl (fun ls hl => ?_)
  refine lv_iconst (v := 0) hx hb dX3_sum_2 (by decide) ?_
  refine lv_istore_n (lv' := [(3, .int 0), (2, .int 0), (0, .ref a), (1, .int x1)]) hx hb dX3_sum_3 rfl hl (by decide) rfl (fun ls hl => ?_)
  refine lpR (fun n (u : Nat × Int32) ls => (u.1 + n = ix x1) ∧ (u.2 = sSum f u.1) ∧ lv_has ls 4 [(0, .ref a), (1, .int x1), (2, .int u.2), (3, .int (nI u.1))]) (ix x1) ((0, 0)) ⟨by omega, rfl, lv_sub hl [2, 3, 1, 0] rfl⟩ (fun n ih u ls hI => ?_)
  obtain ⟨i, z⟩ := u
  obtain ⟨hi0, hi1, hl⟩ := hI
  have hi0 : i + n = ix x1 := hi0
  have hi1 : z = sSum f i := hi1
  have hl : lv_has ls 4 [(0, .ref a), (1, .int x1), (2, .int z), (3, .int (nI i))] := hl
  have hix : ix (nI i) = i := ix_nI (by omega)
  refine lv_iload_n hx hb dX3_sum_4 rfl (lv_at hl 3 rfl) ?_
  refine lv_iload_n hx hb dX3_sum_5 rfl (lv_at hl 1 rfl) ?_
  refine lv_icmp_ge (tgt := 27) hx hb dX3_sum_6 (by decide) (fun c_1 => ?_) (fun c_1 => ?_)
  · skip
    have c_1n := (cmp_le (a := ix x1) (b := i) e1 rfl (by omega) (by omega)).mp c_1
    refine lv_iload_n hx hb dX3_sum_27 rfl (lv_at hl 2 rfl) ?_
    exact W.iret hx hb hr (fun t ht hW => ⟨_, rfl, (by rw [hi1, show i = ix x1 by omega]), ht⟩) (fun _ h => absurd h List.not_mem_nil) dX3_sum_28
  · skip
    have c_1n := mt (cmp_le (a := ix x1) (b := i) e1 rfl (by omega) (by omega)).mpr c_1
    refine lv_iload_n hx hb dX3_sum_9 rfl (lv_at hl 3 rfl) ?_
    refine lv_aload_n hx hb dX3_sum_10 rfl (lv_at hl 0 rfl) ?_
    refine va_alen (v := nI k) (ty := .int) hx hb hK hP 0 0 rfl rfl rfl dX3_sum_11 ?_
    refine lv_icmp_ge (tgt := 27) hx hb dX3_sum_12 (by decide) (fun c_2 => ?_) (fun c_2 => ?_)
    · skip
      have c_2n := (cmp_le (a := k) (b := i) rfl rfl (by omega) (by omega)).mp c_2
      refine lv_iload_n hx hb dX3_sum_27 rfl (lv_at hl 2 rfl) ?_
      exact W.iret hx hb hr (fun t ht hW => ⟨_, rfl, (by rw [hi1, show i = ix x1 by omega]), ht⟩) (fun _ h => absurd h List.not_mem_nil) dX3_sum_28
    · skip
      have c_2n := mt (cmp_le (a := k) (b := i) rfl rfl (by omega) (by omega)).mpr c_2
      refine lv_iload_n hx hb dX3_sum_15 rfl (lv_at hl 2 rfl) ?_
      refine lv_aload_n hx hb dX3_sum_16 rfl (lv_at hl 0 rfl) ?_
      refine lv_iload_n hx hb dX3_sum_17 rfl (lv_at hl 3 rfl) ?_
      refine va_iald hx hb hK hP 0 0 rfl rfl (vp_in_nI (by omega) (by omega)) dX3_sum_18 ?_
      refine lv_iadd hx hb dX3_sum_19 ?_
      refine lv_istore_n (lv' := [(2, .int (z + (f (ix (nI i))))), (0, .ref a), (1, .int x1), (3, .int (nI i))]) hx hb dX3_sum_20 rfl hl (by decide) rfl (fun ls hl => ?_)
      refine lv_iinc (v := nI (i + 1)) (lv' := [(3, .int (nI (i + 1))), (2, .int (z + (f (ix (nI i))))), (0, .ref a), (1, .int x1)]) hx hb dX3_sum_21 hl (k := 3) rfl (nI_1 _) (by decide) rfl (fun ls hl => ?_)
      refine lv_goto (tgt := 4) hx hb dX3_sum_24 (by decide) ?_
      exact ih (n - 1) (by omega) ((i + 1, (z + (f (ix (nI i)))))) ls ⟨by omega, by rw [hi1, hix]; rfl, lv_sub hl [2, 3, 1, 0] rfl⟩

set_option maxRecDepth 100000 in
set_option maxHeartbeats 4000000 in
theorem k_X3_easeOfAll (l : Launch) (D : va_G) (cI cL cS : ClassId) (b : Nat → Nat) (co gu : Int32) (kn fo sp wh ki pl ea to qu mo ne : FI) (hg9 : vp_in gu 9) : Met l yX3_easeOfAll wsX3_easeOfAll { frames := 1, cells := 0, slots := 0, locals := 23 } (PcR D vwCl (tyG cI cL cS) [.ref (b 0)] (tbw cI b co gu kn fo sp wh ki pl ea to qu mo ne)) (vp_Si (fun r => r = sSum ea (ix gu))) 0 0 (fun _ => False) := by
  refine Met.ofW (cc := cX3_easeOfAll) (maxL := 1) (ret := (some .int)) (by decide) rfl ?_
  intro p e s m args below meth c s₁ B hml hv
  obtain ⟨rfl, hP, hK⟩ := hv
  have hx := B.exec
  have hb := B.bytes
  have hr := B.returns
  have hts := atoms_spec (ws := wsX3_easeOfAll) B.pre
  have hown : s.vm.findClass RX3 = some m.cls := findClass_of_methodNamed B.named
  have hlocks := B.notSynchronized
  have hl := lv_entry ([.ref (b 0)]) (n := 1) (Nat.le_of_ble_eq_true rfl)
  rw [lg_entry_eq]
  generalize (lg_sl ([.ref (b 0)]) ++ List.replicate (1 - (lg_sl ([.ref (b 0)])).length) Slot.unset).toArray = ls at hl ⊢
  have hl : lv_has ls 1 [(0, .ref (b 0))] := hl
  have f43 := hts (.fieldLink RX3 43 "KnivesLaid$Table" "ease" "[I") (List.mem_of_getElem? (i := 1) rfl)
  have inX3 : ∀ w ∈ u_ws RX3 TX3 13, w ∈ wsX3_easeOfAll := in_at 7 _ _ rfl
  have f34 := hts (.fieldLink RX3 34 "KnivesLaid$Table" "guests" "I") (List.mem_of_getElem? (i := 2) rfl)
  refine lv_aload_n hx hb dX3_easeOfAll_0 rfl (lv_at hl 0 rfl) ?_
  refine va_get (ci := 1) (v := .ref (b 7)) (C := RX3) (T := TX3) (N := 13) hx hb hts inX3 hown hK hP 0 rfl rfl 8 (by decide) f43 (fun _ h9 => h9) rfl dX3_easeOfAll_1 ?_
  refine lv_aload_n hx hb dX3_easeOfAll_4 rfl (lv_at hl 0 rfl) ?_
  refine va_get (ci := 1) (v := .int gu) (C := RX3) (T := TX3) (N := 13) hx hb hts inX3 hown hK hP 0 rfl rfl 5 (by decide) f34 (fun _ h9 => h9) rfl dX3_easeOfAll_5 ?_
  refine callE (W.runS (As := [.ref (b 7), .int gu]) (rest := []) ⟨hx, hb, hml, hown, hts⟩ (k_X3_sum l D cI cL cS (b 7) 8 ea gu (by decide) hg9) (va_cwS 2 hts gX3_easeOfAll_X3_sum rfl rfl rfl (by decide +kernel) ⟨Nat.le_of_ble_eq_true rfl, Nat.le_of_ble_eq_true rfl⟩) ⟨PcR_fb, PcR_pre (va_seg hP 7 1 rfl) hK⟩ rfl rfl hl.1 rfl (lv_room (Nat.le_of_ble_eq_true rfl)) dX3_easeOfAll_8 ⟨Nat.zero_le _, Nat.zero_le _⟩) ?_
  exact W.iret hx hb hr (fun t ht hW => ⟨_, rfl, (by rfl), ht⟩) (fun _ h => absurd h List.not_mem_nil) dX3_easeOfAll_11

set_option maxRecDepth 100000 in
set_option maxHeartbeats 4000000 in
theorem k_X3_toldOfAll (l : Launch) (D : va_G) (cI cL cS : ClassId) (b : Nat → Nat) (co gu : Int32) (kn fo sp wh ki pl ea to qu mo ne : FI) (hg9 : vp_in gu 9) : Met l yX3_toldOfAll wsX3_toldOfAll { frames := 1, cells := 0, slots := 0, locals := 23 } (PcR D vwCl (tyG cI cL cS) [.ref (b 0)] (tbw cI b co gu kn fo sp wh ki pl ea to qu mo ne)) (vp_Si (fun r => r = sSum to (ix gu))) 0 0 (fun _ => False) := by
  refine Met.ofW (cc := cX3_toldOfAll) (maxL := 1) (ret := (some .int)) (by decide) rfl ?_
  intro p e s m args below meth c s₁ B hml hv
  obtain ⟨rfl, hP, hK⟩ := hv
  have hx := B.exec
  have hb := B.bytes
  have hr := B.returns
  have hts := atoms_spec (ws := wsX3_toldOfAll) B.pre
  have hown : s.vm.findClass RX3 = some m.cls := findClass_of_methodNamed B.named
  have hlocks := B.notSynchronized
  have hl := lv_entry ([.ref (b 0)]) (n := 1) (Nat.le_of_ble_eq_true rfl)
  rw [lg_entry_eq]
  generalize (lg_sl ([.ref (b 0)]) ++ List.replicate (1 - (lg_sl ([.ref (b 0)])).length) Slot.unset).toArray = ls at hl ⊢
  have hl : lv_has ls 1 [(0, .ref (b 0))] := hl
  have f46 := hts (.fieldLink RX3 46 "KnivesLaid$Table" "told" "[I") (List.mem_of_getElem? (i := 1) rfl)
  have inX3 : ∀ w ∈ u_ws RX3 TX3 13, w ∈ wsX3_toldOfAll := in_at 7 _ _ rfl
  have f34 := hts (.fieldLink RX3 34 "KnivesLaid$Table" "guests" "I") (List.mem_of_getElem? (i := 2) rfl)
  refine lv_aload_n hx hb dX3_toldOfAll_0 rfl (lv_at hl 0 rfl) ?_
  refine va_get (ci := 1) (v := .ref (b 8)) (C := RX3) (T := TX3) (N := 13) hx hb hts inX3 hown hK hP 0 rfl rfl 9 (by decide) f46 (fun _ h9 => h9) rfl dX3_toldOfAll_1 ?_
  refine lv_aload_n hx hb dX3_toldOfAll_4 rfl (lv_at hl 0 rfl) ?_
  refine va_get (ci := 1) (v := .int gu) (C := RX3) (T := TX3) (N := 13) hx hb hts inX3 hown hK hP 0 rfl rfl 5 (by decide) f34 (fun _ h9 => h9) rfl dX3_toldOfAll_5 ?_
  refine callE (W.runS (As := [.ref (b 8), .int gu]) (rest := []) ⟨hx, hb, hml, hown, hts⟩ (k_X3_sum l D cI cL cS (b 8) 8 to gu (by decide) hg9) (va_cwS 2 hts gX3_toldOfAll_X3_sum rfl rfl rfl (by decide +kernel) ⟨Nat.le_of_ble_eq_true rfl, Nat.le_of_ble_eq_true rfl⟩) ⟨PcR_fb, PcR_pre (va_seg hP 8 1 rfl) hK⟩ rfl rfl hl.1 rfl (lv_room (Nat.le_of_ble_eq_true rfl)) dX3_toldOfAll_8 ⟨Nat.zero_le _, Nat.zero_le _⟩) ?_
  exact W.iret hx hb hr (fun t ht hW => ⟨_, rfl, (by rfl), ht⟩) (fun _ h => absurd h List.not_mem_nil) dX3_toldOfAll_11

set_option maxRecDepth 100000 in
set_option maxHeartbeats 4000000 in
theorem k_X3_quarrelsOfAll (l : Launch) (D : va_G) (cI cL cS : ClassId) (b : Nat → Nat) (co gu : Int32) (kn fo sp wh ki pl ea to qu mo ne : FI) (hg9 : vp_in gu 9) : Met l yX3_quarrelsOfAll wsX3_quarrelsOfAll { frames := 1, cells := 0, slots := 0, locals := 23 } (PcR D vwCl (tyG cI cL cS) [.ref (b 0)] (tbw cI b co gu kn fo sp wh ki pl ea to qu mo ne)) (vp_Si (fun r => r = sSum qu (ix gu))) 0 0 (fun _ => False) := by
  refine Met.ofW (cc := cX3_quarrelsOfAll) (maxL := 1) (ret := (some .int)) (by decide) rfl ?_
  intro p e s m args below meth c s₁ B hml hv
  obtain ⟨rfl, hP, hK⟩ := hv
  have hx := B.exec
  have hb := B.bytes
  have hr := B.returns
  have hts := atoms_spec (ws := wsX3_quarrelsOfAll) B.pre
  have hown : s.vm.findClass RX3 = some m.cls := findClass_of_methodNamed B.named
  have hlocks := B.notSynchronized
  have hl := lv_entry ([.ref (b 0)]) (n := 1) (Nat.le_of_ble_eq_true rfl)
  rw [lg_entry_eq]
  generalize (lg_sl ([.ref (b 0)]) ++ List.replicate (1 - (lg_sl ([.ref (b 0)])).length) Slot.unset).toArray = ls at hl ⊢
  have hl : lv_has ls 1 [(0, .ref (b 0))] := hl
  have f49 := hts (.fieldLink RX3 49 "KnivesLaid$Table" "quarrelled" "[I") (List.mem_of_getElem? (i := 1) rfl)
  have inX3 : ∀ w ∈ u_ws RX3 TX3 13, w ∈ wsX3_quarrelsOfAll := in_at 7 _ _ rfl
  have f34 := hts (.fieldLink RX3 34 "KnivesLaid$Table" "guests" "I") (List.mem_of_getElem? (i := 2) rfl)
  refine lv_aload_n hx hb dX3_quarrelsOfAll_0 rfl (lv_at hl 0 rfl) ?_
  refine va_get (ci := 1) (v := .ref (b 9)) (C := RX3) (T := TX3) (N := 13) hx hb hts inX3 hown hK hP 0 rfl rfl 10 (by decide) f49 (fun _ h9 => h9) rfl dX3_quarrelsOfAll_1 ?_
  refine lv_aload_n hx hb dX3_quarrelsOfAll_4 rfl (lv_at hl 0 rfl) ?_
  refine va_get (ci := 1) (v := .int gu) (C := RX3) (T := TX3) (N := 13) hx hb hts inX3 hown hK hP 0 rfl rfl 5 (by decide) f34 (fun _ h9 => h9) rfl dX3_quarrelsOfAll_5 ?_
  refine callE (W.runS (As := [.ref (b 9), .int gu]) (rest := []) ⟨hx, hb, hml, hown, hts⟩ (k_X3_sum l D cI cL cS (b 9) 8 qu gu (by decide) hg9) (va_cwS 2 hts gX3_quarrelsOfAll_X3_sum rfl rfl rfl (by decide +kernel) ⟨Nat.le_of_ble_eq_true rfl, Nat.le_of_ble_eq_true rfl⟩) ⟨PcR_fb, PcR_pre (va_seg hP 9 1 rfl) hK⟩ rfl rfl hl.1 rfl (lv_room (Nat.le_of_ble_eq_true rfl)) dX3_quarrelsOfAll_8 ⟨Nat.zero_le _, Nat.zero_le _⟩) ?_
  exact W.iret hx hb hr (fun t ht hW => ⟨_, rfl, (by rfl), ht⟩) (fun _ h => absurd h List.not_mem_nil) dX3_quarrelsOfAll_11

set_option maxRecDepth 100000 in
set_option maxHeartbeats 4000000 in
theorem k_X3_hairsOfAll (l : Launch) (D : va_G) (cI cL cS : ClassId) (b : Nat → Nat) (co gu : Int32) (kn fo sp wh ki pl ea to qu mo ne : FI)  : Met l yX3_hairsOfAll wsX3_hairsOfAll { frames := 1, cells := 0, slots := 0, locals := 23 } (PcR D vwCl (tyG cI cL cS) [.ref (b 0)] (tbw cI b co gu kn fo sp wh ki pl ea to qu mo ne)) (vp_Si (fun r => r = sSum sp 10)) 0 0 (fun _ => False) := by
  refine Met.ofW (cc := cX3_hairsOfAll) (maxL := 1) (ret := (some .int)) (by decide) rfl ?_
  intro p e s m args below meth c s₁ B hml hv
  obtain ⟨rfl, hP, hK⟩ := hv
  have hx := B.exec
  have hb := B.bytes
  have hr := B.returns
  have hts := atoms_spec (ws := wsX3_hairsOfAll) B.pre
  have hown : s.vm.findClass RX3 = some m.cls := findClass_of_methodNamed B.named
  have hlocks := B.notSynchronized
  have hl := lv_entry ([.ref (b 0)]) (n := 1) (Nat.le_of_ble_eq_true rfl)
  rw [lg_entry_eq]
  generalize (lg_sl ([.ref (b 0)]) ++ List.replicate (1 - (lg_sl ([.ref (b 0)])).length) Slot.unset).toArray = ls at hl ⊢
  have hl : lv_has ls 1 [(0, .ref (b 0))] := hl
  have f22 := hts (.fieldLink RX3 22 "KnivesLaid$Table" "spoons" "[I") (List.mem_of_getElem? (i := 1) rfl)
  have inX3 : ∀ w ∈ u_ws RX3 TX3 13, w ∈ wsX3_hairsOfAll := in_at 6 _ _ rfl
  refine lv_aload_n hx hb dX3_hairsOfAll_0 rfl (lv_at hl 0 rfl) ?_
  refine va_get (ci := 1) (v := .ref (b 3)) (C := RX3) (T := TX3) (N := 13) hx hb hts inX3 hown hK hP 0 rfl rfl 3 (by decide) f22 (fun _ h9 => h9) rfl dX3_hairsOfAll_1 ?_
  refine lv_bipush (v := 10) hx hb dX3_hairsOfAll_4 (by decide) ?_
  refine callE (W.runS (As := [.ref (b 3), .int 10]) (rest := []) ⟨hx, hb, hml, hown, hts⟩ (k_X3_sum l D cI cL cS (b 3) 10 sp 10 (by decide) (vp_in_iff.mpr (by decide))) (va_cwS 2 hts gX3_hairsOfAll_X3_sum rfl rfl rfl (by decide +kernel) ⟨Nat.le_of_ble_eq_true rfl, Nat.le_of_ble_eq_true rfl⟩) ⟨PcR_fb, PcR_pre (va_seg hP 3 1 rfl) hK⟩ rfl rfl hl.1 rfl (lv_room (Nat.le_of_ble_eq_true rfl)) dX3_hairsOfAll_6 ⟨Nat.zero_le _, Nat.zero_le _⟩) ?_
  exact W.iret hx hb hr (fun t ht hW => ⟨_, rfl, (by rfl), ht⟩) (fun _ h => absurd h List.not_mem_nil) dX3_hairsOfAll_9
