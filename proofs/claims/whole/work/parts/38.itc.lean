set_option maxRecDepth 100000 in
set_option maxHeartbeats 4000000 in
theorem k_X4_isWord (l : Launch) (D : va_G) (cI cL cS : ClassId) (a q : Nat) (bt : FI) (ln tk sb en nm : Int32) (ad av : Nat → Nat) (fm : Option Nat) (i cu : Nat) (hi : i < 11) (hT : Tok bt (ix ln) cu tk sb en nm) : Met l yX4_isWord wsX4_isWord { frames := 4, cells := 0, slots := 0, locals := 85 } (PcQ ad av fm (fun _ => False) D vwCl (tyG cI cL cS) [.ref a, .ref (ad i)] (tpw cI a q bt ln tk sb en nm)) (vp_Si (fun r => r = bI (isW bt (ix ln) cu i))) 0 0 (fun _ => False) := by
  refine Met.ofW (cc := cX4_isWord) (maxL := 3) (ret := (some .boolean)) (by decide) rfl ?_
  intro p e s m args below meth c s₁ B hml hv
  obtain ⟨rfl, hv⟩ := hv
  obtain ⟨hP, hK, hZ⟩ := hv
  have hx := B.exec
  have hb := B.bytes
  have hr := B.returns
  have hts := atoms_spec (ws := wsX4_isWord) B.pre
  have hown : s.vm.findClass RX4 = some m.cls := findClass_of_methodNamed B.named
  have hlocks := B.notSynchronized
  have hl := lv_entry ([.ref a, .ref (ad i)]) (n := 3) (Nat.le_of_ble_eq_true rfl)
  rw [lg_entry_eq]
  generalize (lg_sl ([.ref a, .ref (ad i)]) ++ List.replicate (3 - (lg_sl ([.ref a, .ref (ad i)])).length) Slot.unset).toArray = ls at hl ⊢
  have hl : lv_has ls 3 [(0, .ref a), (1, .ref (ad i))] := hl
  have f22 := hts (.fieldLink RX4 22 "KnivesLaid$Tape" "token" "I") (List.mem_of_getElem? (i := 1) rfl)
  have inX4 : ∀ w ∈ u_ws RX4 TX4 6, w ∈ wsX4_isWord := in_at 54 _ _ rfl
  have f28 := hts (.fieldLink RX4 28 "KnivesLaid$Tape" "end" "I") (List.mem_of_getElem? (i := 2) rfl)
  have f25 := hts (.fieldLink RX4 25 "KnivesLaid$Tape" "start" "I") (List.mem_of_getElem? (i := 3) rfl)
  have f9 := hts (.fieldLink RX4 9 "KnivesLaid$Tape" "bytes" "[I") (List.mem_of_getElem? (i := 4) rfl)
  have h8 := wL_8 i hi
  have hst := hT.st
  refine lv_aload_n hx hb dX4_isWord_0 rfl (lv_at hl 0 rfl) ?_
  refine va_get (ci := 2) (v := .int tk) (C := RX4) (T := TX4) (N := 6) hx hb hts inX4 hown hK hP 0 rfl rfl 2 (by decide) f22 (fun _ h9 => h9) rfl dX4_isWord_1 ?_
  refine lv_iconst (v := 1) hx hb dX4_isWord_4 (by decide) ?_
  refine lv_icmp_ne (tgt := 24) hx hb dX4_isWord_5 (by decide) (fun c_1 => ?_) (fun c_1 => ?_)
  · skip
    refine lv_iconst (v := 0) hx hb dX4_isWord_24 (by decide) ?_
    exact W.zret (ty := .boolean) hx hb hr rfl (fun t ht hW => ⟨_, rfl, (by exact (bI_f (fun h => c_1 (hT.1.trans h.1))).symm), ht⟩) (fun _ h => absurd h List.not_mem_nil) dX4_isWord_25
  · skip
    refine lv_aload_n hx hb dX4_isWord_8 rfl (lv_at hl 0 rfl) ?_
    refine va_get (ci := 2) (v := .int en) (C := RX4) (T := TX4) (N := 6) hx hb hts inX4 hown hK hP 0 rfl rfl 4 (by decide) f28 (fun _ h9 => h9) rfl dX4_isWord_9 ?_
    refine lv_aload_n hx hb dX4_isWord_12 rfl (lv_at hl 0 rfl) ?_
    refine va_get (ci := 2) (v := .int sb) (C := RX4) (T := TX4) (N := 6) hx hb hts inX4 hown hK hP 0 rfl rfl 3 (by decide) f25 (fun _ h9 => h9) rfl dX4_isWord_13 ?_
    refine lv_isub hx hb dX4_isWord_16 ?_
    refine lv_aload_n hx hb dX4_isWord_17 rfl (lv_at hl 1 rfl) ?_
    refine callE (W.runV (As := []) (rest := [.int (en - sb)]) ⟨hx, hb, hml, hown, hts⟩ (k_J0_length_8abf5 l ad av fm i hi) (cwV 0 hts gX4_isWord_J0_length_8abf5 rfl rfl rfl (by decide +kernel) ⟨Nat.le_of_ble_eq_true rfl, Nat.le_of_ble_eq_true rfl⟩) ⟨PcJ_fb, vk_recv hZ.1 hi va_S.rf, PcJ_pre hZ va_S.rf⟩ rfl rfl hl.1 rfl (lv_room (Nat.le_of_ble_eq_true rfl)) dX4_isWord_18 ⟨Nat.zero_le _, Nat.zero_le _⟩) ?_
    refine lv_icmp_eq (tgt := 26) hx hb dX4_isWord_21 (by decide) (fun c_2 => ?_) (fun c_2 => ?_)
    · skip
      have hle := (Tok_len hT h8.1).mp c_2
      refine lv_iconst (v := 0) hx hb dX4_isWord_26 (by decide) ?_
      refine lv_istore_n (lv' := [(2, .int 0), (0, .ref a), (1, .ref (ad i))]) hx hb dX4_isWord_27 rfl hl (by decide) rfl (fun ls hl => ?_)
      refine lpR (fun n (u : Nat) ls => (u + n = wL i) ∧ (∀ k, k < u → bt (sT bt (ix ln) cu + k) = wB i k) ∧ lv_has ls 3 [(0, .ref a), (1, .ref (ad i)), (2, .int (nI u))]) (wL i) (0) ⟨by omega, fun k hk => absurd hk (Nat.not_lt_zero k), lv_sub hl [1, 2, 0] rfl⟩ (fun n ih u ls hI => ?_)
      obtain ⟨j, rfl⟩ : ∃ z, z = u := ⟨_, rfl⟩
      obtain ⟨hj0, hj1, hl⟩ := hI
      have hj0 : j + n = wL i := hj0
      have hj1 : ∀ k, k < j → bt (sT bt (ix ln) cu + k) = wB i k := hj1
      have hl : lv_has ls 3 [(0, .ref a), (1, .ref (ad i)), (2, .int (nI j))] := hl
      have hjx : ix (nI j) = j := ix_nI (by omega)
      refine lv_iload_n hx hb dX4_isWord_28 rfl (lv_at hl 2 rfl) ?_
      refine lv_aload_n hx hb dX4_isWord_29 rfl (lv_at hl 1 rfl) ?_
      refine callE (W.runV (As := []) (rest := [.int (nI j)]) ⟨hx, hb, hml, hown, hts⟩ (k_J0_length_8abf5 l ad av fm i hi) (cwV 0 hts gX4_isWord_J0_length_8abf5 rfl rfl rfl (by decide +kernel) ⟨Nat.le_of_ble_eq_true rfl, Nat.le_of_ble_eq_true rfl⟩) ⟨PcJ_fb, vk_recv hZ.1 hi va_S.rf, PcJ_pre hZ va_S.rf⟩ rfl rfl hl.1 rfl (lv_room (Nat.le_of_ble_eq_true rfl)) dX4_isWord_30 ⟨Nat.zero_le _, Nat.zero_le _⟩) ?_
      refine lv_icmp_ge (tgt := 63) hx hb dX4_isWord_33 (by decide) (fun c_3 => ?_) (fun c_3 => ?_)
      · skip
        have c_3n := (cmp_le (a := (wL i)) (b := j) rfl rfl (by omega) (by omega)).mp c_3
        refine lv_iconst (v := 1) hx hb dX4_isWord_63 (by decide) ?_
        exact W.zret (ty := .boolean) hx hb hr rfl (fun t ht hW => ⟨_, rfl, (by exact (bI_t ⟨hT.1.symm.trans c_1, hle, fun k hk => hj1 k (by omega)⟩).symm), ht⟩) (fun _ h => absurd h List.not_mem_nil) dX4_isWord_64
      · skip
        have c_3n := mt (cmp_le (a := (wL i)) (b := j) rfl rfl (by omega) (by omega)).mpr c_3
        refine lv_aload_n hx hb dX4_isWord_36 rfl (lv_at hl 0 rfl) ?_
        refine va_get (ci := 2) (v := .ref q) (C := RX4) (T := TX4) (N := 6) hx hb hts inX4 hown hK hP 0 rfl rfl 0 (by decide) f9 (fun _ h9 => h9) rfl dX4_isWord_37 ?_
        refine lv_aload_n hx hb dX4_isWord_40 rfl (lv_at hl 0 rfl) ?_
        refine va_get (ci := 2) (v := .int sb) (C := RX4) (T := TX4) (N := 6) hx hb hts inX4 hown hK hP 0 rfl rfl 3 (by decide) f25 (fun _ h9 => h9) rfl dX4_isWord_41 ?_
        refine lv_iload_n hx hb dX4_isWord_44 rfl (lv_at hl 2 rfl) ?_
        refine lv_iadd hx hb dX4_isWord_45 ?_
        refine va_iald hx hb hK hP 1 0 rfl rfl ((Tok_at hT h8.1 hle (by omega)).1) dX4_isWord_46 ?_
        refine lv_to (y := bt (sT bt (ix ln) cu + j)) (congrArg bt (Tok_at hT h8.1 hle (by omega)).2) ?_
        refine lv_aload_n hx hb dX4_isWord_47 rfl (lv_at hl 1 rfl) ?_
        refine lv_iload_n hx hb dX4_isWord_48 rfl (lv_at hl 2 rfl) ?_
        refine callE (W.runV (As := [.int (nI j)]) (rest := [.int (bt (sT bt (ix ln) cu + j))]) ⟨hx, hb, hml, hown, hts⟩ (k_J0_charAt_5068e l ad av fm i (nI j) hi (vp_in_nI (by omega) (by omega))) (cwV 1 hts gX4_isWord_J0_charAt_5068e rfl rfl rfl (by decide +kernel) ⟨Nat.le_of_ble_eq_true rfl, Nat.le_of_ble_eq_true rfl⟩) ⟨PcJ_fb, vk_recv hZ.1 hi va_S.rf, PcJ_pre hZ va_S.rf⟩ rfl rfl hl.1 rfl (lv_room (Nat.le_of_ble_eq_true rfl)) dX4_isWord_49 ⟨Nat.zero_le _, Nat.zero_le _⟩) ?_
        refine lv_to (y := wB i j) (by rw [hjx]) ?_
        refine lv_icmp_eq (tgt := 57) hx hb dX4_isWord_52 (by decide) (fun c_4 => ?_) (fun c_4 => ?_)
        · skip
          refine lv_iinc (v := nI (j + 1)) (lv' := [(2, .int (nI (j + 1))), (0, .ref a), (1, .ref (ad i))]) hx hb dX4_isWord_57 hl (k := 2) rfl (nI_1 _) (by decide) rfl (fun ls hl => ?_)
          refine lv_goto (tgt := 28) hx hb dX4_isWord_60 (by decide) ?_
          exact ih (n - 1) (by omega) (j + 1) ls ⟨by omega, fun k hk => by by_cases q : k = j; (· rw [q]; exact c_4); (· exact hj1 k (by omega)), lv_sub hl [1, 2, 0] rfl⟩
        · skip
          refine lv_iconst (v := 0) hx hb dX4_isWord_55 (by decide) ?_
          exact W.zret (ty := .boolean) hx hb hr rfl (fun t ht hW => ⟨_, rfl, (by exact (bI_f (fun h => c_4 (h.2.2 j (by omega)))).symm), ht⟩) (fun _ h => absurd h List.not_mem_nil) dX4_isWord_56
    · skip
      refine lv_iconst (v := 0) hx hb dX4_isWord_24 (by decide) ?_
      exact W.zret (ty := .boolean) hx hb hr rfl (fun t ht hW => ⟨_, rfl, (by exact (bI_f (fun h => c_2 ((Tok_len hT h8.1).mpr h.2.1))).symm), ht⟩) (fun _ h => absurd h List.not_mem_nil) dX4_isWord_25

set_option maxRecDepth 100000 in
set_option maxHeartbeats 4000000 in
theorem k_X4_isNumberBelow (l : Launch) (D : va_G) (cI cL cS : ClassId) (a q : Nat) (bt : FI) (ln tk sb en nm : Int32) (cu : Nat) (x0 : Int32) (hT : Tok bt (ix ln) cu tk sb en nm) : Met l yX4_isNumberBelow wsX4_isNumberBelow { frames := 0, cells := 0, slots := 0, locals := 0 } (PcR D vwCl (tyG cI cL cS) [.ref a, .int x0] (tpw cI a q bt ln tk sb en nm)) (vp_Si (fun r => r = bI (isN bt (ix ln) cu x0))) 0 0 (fun _ => False) := by
  refine Met.ofW (cc := cX4_isNumberBelow) (maxL := 2) (ret := (some .boolean)) (by decide) rfl ?_
  intro p e s m args below meth c s₁ B hml hv
  obtain ⟨rfl, hP, hK⟩ := hv
  have hx := B.exec
  have hb := B.bytes
  have hr := B.returns
  have hts := atoms_spec (ws := wsX4_isNumberBelow) B.pre
  have hown : s.vm.findClass RX4 = some m.cls := findClass_of_methodNamed B.named
  have hlocks := B.notSynchronized
  have hl := lv_entry ([.ref a, .int x0]) (n := 2) (Nat.le_of_ble_eq_true rfl)
  rw [lg_entry_eq]
  generalize (lg_sl ([.ref a, .int x0]) ++ List.replicate (2 - (lg_sl ([.ref a, .int x0])).length) Slot.unset).toArray = ls at hl ⊢
  have hl : lv_has ls 2 [(0, .ref a), (1, .int x0)] := hl
  have f22 := hts (.fieldLink RX4 22 "KnivesLaid$Tape" "token" "I") (List.mem_of_getElem? (i := 1) rfl)
  have inX4 : ∀ w ∈ u_ws RX4 TX4 6, w ∈ wsX4_isNumberBelow := in_at 3 _ _ rfl
  have f31 := hts (.fieldLink RX4 31 "KnivesLaid$Tape" "number" "I") (List.mem_of_getElem? (i := 2) rfl)
  refine lv_aload_n hx hb dX4_isNumberBelow_0 rfl (lv_at hl 0 rfl) ?_
  refine va_get (ci := 2) (v := .int tk) (C := RX4) (T := TX4) (N := 6) hx hb hts inX4 hown hK hP 0 rfl rfl 2 (by decide) f22 (fun _ h9 => h9) rfl dX4_isNumberBelow_1 ?_
  refine lv_iconst (v := 2) hx hb dX4_isNumberBelow_4 (by decide) ?_
  refine lv_icmp_ne (tgt := 20) hx hb dX4_isNumberBelow_5 (by decide) (fun c_1 => ?_) (fun c_1 => ?_)
  · skip
    refine lv_iconst (v := 0) hx hb dX4_isNumberBelow_20 (by decide) ?_
    exact W.zret (ty := .boolean) hx hb hr rfl (fun t ht hW => ⟨_, rfl, (by exact (bI_f (fun h => c_1 (hT.1.trans h.1))).symm), ht⟩) (fun _ h => absurd h List.not_mem_nil) dX4_isNumberBelow_21
  · skip
    refine lv_aload_n hx hb dX4_isNumberBelow_8 rfl (lv_at hl 0 rfl) ?_
    refine va_get (ci := 2) (v := .int nm) (C := RX4) (T := TX4) (N := 6) hx hb hts inX4 hown hK hP 0 rfl rfl 5 (by decide) f31 (fun _ h9 => h9) rfl dX4_isNumberBelow_9 ?_
    refine lv_iload_n hx hb dX4_isNumberBelow_12 rfl (lv_at hl 1 rfl) ?_
    refine lv_icmp_ge (tgt := 20) hx hb dX4_isNumberBelow_13 (by decide) (fun c_2 => ?_) (fun c_2 => ?_)
    · skip
      refine lv_iconst (v := 0) hx hb dX4_isNumberBelow_20 (by decide) ?_
      exact W.zret (ty := .boolean) hx hb hr rfl (fun t ht hW => ⟨_, rfl, (by exact (bI_f (fun h => Int32.not_le.mpr h.2 (hT.2.2.2.1 h.1 ▸ c_2))).symm), ht⟩) (fun _ h => absurd h List.not_mem_nil) dX4_isNumberBelow_21
    · skip
      refine lv_iconst (v := 1) hx hb dX4_isNumberBelow_16 (by decide) ?_
      refine lv_goto (tgt := 21) hx hb dX4_isNumberBelow_17 (by decide) ?_
      exact W.zret (ty := .boolean) hx hb hr rfl (fun t ht hW => ⟨_, rfl, (by exact (bI_t ⟨hT.1.symm.trans c_1, (hT.2.2.2.1 (hT.1.symm.trans c_1)) ▸ Int32.not_le.mp c_2⟩).symm), ht⟩) (fun _ h => absurd h List.not_mem_nil) dX4_isNumberBelow_21

set_option maxRecDepth 100000 in
set_option maxHeartbeats 4000000 in
theorem k_X0_nameOf (l : Launch) (ad av : Nat → Nat) (fm : Option Nat) (k : Nat) (hk : k < 6) : Met l yX0_nameOf wsX0_nameOf { frames := 0, cells := 0, slots := 0, locals := 0 } (PcJ ad av fm [.int (nI k)]) (vp_Sr (ad k)) 0 0 (fun _ => False) := by
  refine Met.ofW (cc := cX0_nameOf) (maxL := 1) (ret := (some (.object "java/lang/String"))) (by decide) rfl ?_
  intro p e s m args below meth c s₁ B hml hv
  obtain ⟨rfl, hv⟩ := hv
  have hZ : SX ad av fm (fun _ => False) s s.heap := hv
  have hx := B.exec
  have hb := B.bytes
  have hr := B.returns
  have hts := atoms_spec (ws := wsX0_nameOf) B.pre
  have hown : s.vm.findClass RX0 = some m.cls := findClass_of_methodNamed B.named
  have hlocks := B.notSynchronized
  have hl := lv_entry ([.int (nI k)]) (n := 1) (Nat.le_of_ble_eq_true rfl)
  rw [lg_entry_eq]
  generalize (lg_sl ([.int (nI k)]) ++ List.replicate (1 - (lg_sl ([.int (nI k)])).length) Slot.unset).toArray = ls at hl ⊢
  have hl : lv_has ls 1 [(0, .int (nI k))] := hl
  refine lv_iload_n hx hb dX0_nameOf_0 rfl (lv_at hl 0 rfl) ?_
  by_cases c_1 : (nI k) = 1
  · refine lv_tableIn (tgt := 36) hx hb dX0_nameOf_1 (by rw [c_1]; decide) (by rw [c_1]; decide) (by rw [c_1]; rfl) (by decide) ?_
    refine va_ldcS hx hb hown (hZ.2.2.2 1 (by decide)) dX0_nameOf_36 ?_
    exact W.aret (v := .ref (ad 1)) hx hb hr (Or.inl ⟨_, rfl⟩) (Or.inr ⟨_, rfl⟩) (fun t ht hW => ⟨by rw [show k = 1 by exact (nI_eq (by omega) (by omega)).mp c_1], ht⟩) (fun _ h => absurd h List.not_mem_nil) dX0_nameOf_38
  by_cases c_2 : (nI k) = 2
  · refine lv_tableIn (tgt := 39) hx hb dX0_nameOf_1 (by rw [c_2]; decide) (by rw [c_2]; decide) (by rw [c_2]; rfl) (by decide) ?_
    refine va_ldcS hx hb hown (hZ.2.2.2 2 (by decide)) dX0_nameOf_39 ?_
    exact W.aret (v := .ref (ad 2)) hx hb hr (Or.inl ⟨_, rfl⟩) (Or.inr ⟨_, rfl⟩) (fun t ht hW => ⟨by rw [show k = 2 by exact (nI_eq (by omega) (by omega)).mp c_2], ht⟩) (fun _ h => absurd h List.not_mem_nil) dX0_nameOf_41
  by_cases c_3 : (nI k) = 3
  · refine lv_tableIn (tgt := 42) hx hb dX0_nameOf_1 (by rw [c_3]; decide) (by rw [c_3]; decide) (by rw [c_3]; rfl) (by decide) ?_
    refine va_ldcS hx hb hown (hZ.2.2.2 3 (by decide)) dX0_nameOf_42 ?_
    exact W.aret (v := .ref (ad 3)) hx hb hr (Or.inl ⟨_, rfl⟩) (Or.inr ⟨_, rfl⟩) (fun t ht hW => ⟨by rw [show k = 3 by exact (nI_eq (by omega) (by omega)).mp c_3], ht⟩) (fun _ h => absurd h List.not_mem_nil) dX0_nameOf_44
  by_cases c_4 : (nI k) = 4
  · refine lv_tableIn (tgt := 45) hx hb dX0_nameOf_1 (by rw [c_4]; decide) (by rw [c_4]; decide) (by rw [c_4]; rfl) (by decide) ?_
    refine va_ldcS hx hb hown (hZ.2.2.2 4 (by decide)) dX0_nameOf_45 ?_
    exact W.aret (v := .ref (ad 4)) hx hb hr (Or.inl ⟨_, rfl⟩) (Or.inr ⟨_, rfl⟩) (fun t ht hW => ⟨by rw [show k = 4 by exact (nI_eq (by omega) (by omega)).mp c_4], ht⟩) (fun _ h => absurd h List.not_mem_nil) dX0_nameOf_47
  by_cases c_5 : (nI k) = 5
  · refine lv_tableIn (tgt := 48) hx hb dX0_nameOf_1 (by rw [c_5]; decide) (by rw [c_5]; decide) (by rw [c_5]; rfl) (by decide) ?_
    refine va_ldcS hx hb hown (hZ.2.2.2 5 (by decide)) dX0_nameOf_48 ?_
    exact W.aret (v := .ref (ad 5)) hx hb hr (Or.inl ⟨_, rfl⟩) (Or.inr ⟨_, rfl⟩) (fun t ht hW => ⟨by rw [show k = 5 by exact (nI_eq (by omega) (by omega)).mp c_5], ht⟩) (fun _ h => absurd h List.not_mem_nil) dX0_nameOf_50
  refine lv_tableOut (tgt := 51) hx hb dX0_nameOf_1 (by have := lv_neT c_1 (a := 1) rfl; have := lv_neT c_2 (a := 2) rfl; have := lv_neT c_3 (a := 3) rfl; have := lv_neT c_4 (a := 4) rfl; have := lv_neT c_5 (a := 5) rfl; omega) (by decide) ?_
  refine va_ldcS hx hb hown (hZ.2.2.2 0 (by decide)) dX0_nameOf_51 ?_
  exact W.aret (v := .ref (ad 0)) hx hb hr (Or.inl ⟨_, rfl⟩) (Or.inr ⟨_, rfl⟩) (fun t ht hW => ⟨by rw [show k = 0 by have z0 : ¬ k = 1 := fun q => c_1 ((nI_eq (a := k) (b := 1) (by omega) (by omega)).mpr q); have z1 : ¬ k = 2 := fun q => c_2 ((nI_eq (a := k) (b := 2) (by omega) (by omega)).mpr q); have z2 : ¬ k = 3 := fun q => c_3 ((nI_eq (a := k) (b := 3) (by omega) (by omega)).mpr q); have z3 : ¬ k = 4 := fun q => c_4 ((nI_eq (a := k) (b := 4) (by omega) (by omega)).mpr q); have z4 : ¬ k = 5 := fun q => c_5 ((nI_eq (a := k) (b := 5) (by omega) (by omega)).mpr q); omega], ht⟩) (fun _ h => absurd h List.not_mem_nil) dX0_nameOf_53

set_option maxRecDepth 100000 in
set_option maxHeartbeats 4000000 in
theorem k_X0_kindNamed (l : Launch) (D : va_G) (cI cL cS : ClassId) (b : Nat → Nat → Nat) (s1 : Sg) (w1 m1 n1 : FI) (s2 : Sg) (w2 m2 n2 : FI) (s3 : Sg) (w3 m3 n3 : FI) (ik : Int32) (bt : FI) (ln tk sb en nm : Int32) (bits size : FI) (num : Nat → FJ) (fnd : FI) (ad av : Nat → Nat) (fm : Option Nat) (cu : Nat) (hT : Tok bt (ix ln) cu tk sb en nm) : Met l yX0_kindNamed wsX0_kindNamed { frames := 5, cells := 0, slots := 0, locals := 107 } (PcQ ad av fm (fun _ => False) D vwCl (tyG cI cL cS) [.ref (b 4 0)] (kcw cI cL cS b s1 w1 m1 n1 s2 w2 m2 n2 s3 w3 m3 n3 ik bt ln tk sb en nm bits size num fnd)) (vp_Si (fun r => r = tKd bt (ix ln) cu)) 0 0 (fun _ => False) := by
  refine Met.ofW (cc := cX0_kindNamed) (maxL := 2) (ret := (some .int)) (by decide) rfl ?_
  intro p e s m args below meth c s₁ B hml hv
  obtain ⟨rfl, hv⟩ := hv
  obtain ⟨hP, hK, hZ⟩ := hv
  have hx := B.exec
  have hb := B.bytes
  have hr := B.returns
  have hts := atoms_spec (ws := wsX0_kindNamed) B.pre
  have hown : s.vm.findClass RX0 = some m.cls := findClass_of_methodNamed B.named
  have hlocks := B.notSynchronized
  have hl := lv_entry ([.ref (b 4 0)]) (n := 2) (Nat.le_of_ble_eq_true rfl)
  rw [lg_entry_eq]
  generalize (lg_sl ([.ref (b 4 0)]) ++ List.replicate (2 - (lg_sl ([.ref (b 4 0)])).length) Slot.unset).toArray = ls at hl ⊢
  have hl : lv_has ls 2 [(0, .ref (b 4 0))] := hl
  refine lv_iconst (v := 0) hx hb dX0_kindNamed_0 (by decide) ?_
  refine lv_istore_n (lv' := [(1, .int 0), (0, .ref (b 4 0))]) hx hb dX0_kindNamed_1 rfl hl (by decide) rfl (fun ls hl => ?_)
  refine lpR (fun n (u : Nat) ls => (u + n = 6) ∧ (tKd bt (ix ln) cu = tKf bt (ix ln) cu n u) ∧ lv_has ls 2 [(0, .ref (b 4 0)), (1, .int (nI u))]) (6) (0) ⟨rfl, rfl, lv_sub hl [1, 0] rfl⟩ (fun n ih u ls hI => ?_)
  obtain ⟨k, rfl⟩ : ∃ z, z = u := ⟨_, rfl⟩
  obtain ⟨hk0, hk1, hl⟩ := hI
  have hk0 : k + n = 6 := hk0
  have hk1 : tKd bt (ix ln) cu = tKf bt (ix ln) cu n k := hk1
  have hl : lv_has ls 2 [(0, .ref (b 4 0)), (1, .int (nI k))] := hl
  refine lv_iload_n hx hb dX0_kindNamed_2 rfl (lv_at hl 1 rfl) ?_
  refine lv_bipush (v := 6) hx hb dX0_kindNamed_3 (by decide) ?_
  refine lv_icmp_ge (tgt := 27) hx hb dX0_kindNamed_5 (by decide) (fun c_1 => ?_) (fun c_1 => ?_)
  · skip
    have c_1n := (cmp_le (a := 6) (b := k) rfl rfl (by omega) (by omega)).mp c_1
    refine lv_iconst (v := (-1)) hx hb dX0_kindNamed_27 (by decide) ?_
    exact W.iret hx hb hr (fun t ht hW => ⟨_, rfl, (by rw [hk1, show n = 0 by omega]; rfl), ht⟩) (fun _ h => absurd h List.not_mem_nil) dX0_kindNamed_28
  · skip
    have c_1n := mt (cmp_le (a := 6) (b := k) rfl rfl (by omega) (by omega)).mpr c_1
    refine lv_aload_n hx hb dX0_kindNamed_8 rfl (lv_at hl 0 rfl) ?_
    refine lv_iload_n hx hb dX0_kindNamed_9 rfl (lv_at hl 1 rfl) ?_
    refine callEr (W.runS (As := [.int (nI k)]) (rest := [.ref (b 4 0)]) ⟨hx, hb, hml, hown, hts⟩ (k_X0_nameOf l ad av fm k (by omega)) (va_cwS 1 hts gX0_kindNamed_X0_nameOf rfl rfl rfl (by decide +kernel) ⟨Nat.le_of_ble_eq_true rfl, Nat.le_of_ble_eq_true rfl⟩) ⟨PcJ_fb, PcJ_pre hZ va_S.rf⟩ rfl rfl hl.1 rfl (lv_room (Nat.le_of_ble_eq_true rfl)) dX0_kindNamed_10 ⟨Nat.zero_le _, Nat.zero_le _⟩) ?_
    refine callE (W.runV (As := [.ref (ad k)]) (rest := []) ⟨hx, hb, hml, hown, hts⟩ (k_X4_isWord l D cI cL cS (b 4 0) (b 4 1) bt ln tk sb en nm ad av fm k cu (by omega) hT) (cwV 1 hts gX0_kindNamed_X4_isWord rfl rfl rfl (by decide +kernel) ⟨Nat.le_of_ble_eq_true rfl, Nat.le_of_ble_eq_true rfl⟩) ⟨PcQ_fb, va_recv hK hP (ci := 2) (q0 := 37) rfl rfl, PcQ_pre (va_seg hP 37 2 rfl) hK hZ va_S.rf (fun _ h => h.elim)⟩ rfl rfl hl.1 rfl (lv_room (Nat.le_of_ble_eq_true rfl)) dX0_kindNamed_13 ⟨Nat.zero_le _, Nat.zero_le _⟩) ?_
    refine lv_if_eq (tgt := 21) hx hb dX0_kindNamed_16 (by decide) (fun c_2 => ?_) (fun c_2 => ?_)
    · skip
      have c_2b := bI_0 c_2
      refine lv_iinc (v := nI (k + 1)) (lv' := [(1, .int (nI (k + 1))), (0, .ref (b 4 0))]) hx hb dX0_kindNamed_21 hl (k := 1) rfl (nI_1 _) (by decide) rfl (fun ls hl => ?_)
      refine lv_goto (tgt := 2) hx hb dX0_kindNamed_24 (by decide) ?_
      exact ih (n - 1) (by omega) (k + 1) ls ⟨by omega, by rw [hk1]; obtain ⟨q, rfl⟩ : ∃ q, n = q + 1 := ⟨n - 1, by omega⟩; exact iF_f c_2b, lv_sub hl [1, 0] rfl⟩
    · skip
      have c_2b := bI_n c_2
      refine lv_iload_n hx hb dX0_kindNamed_19 rfl (lv_at hl 1 rfl) ?_
      exact W.iret hx hb hr (fun t ht hW => ⟨_, rfl, (by rw [hk1]; obtain ⟨q, rfl⟩ : ∃ q, n = q + 1 := ⟨n - 1, by omega⟩; exact (iF_t c_2b).symm), ht⟩) (fun _ h => absurd h List.not_mem_nil) dX0_kindNamed_20

set_option maxRecDepth 100000 in
set_option maxHeartbeats 4000000 in
theorem k_X0_tellPerhaps (l : Launch) (D : va_G) (cI cL cS : ClassId) (b : Nat → Nat → Nat) (s1 : Sg) (w1 m1 n1 : FI) (s2 : Sg) (w2 m2 n2 : FI) (s3 : Sg) (w3 m3 n3 : FI) (ik : Int32) (bt : FI) (ln tk sb en nm : Int32) (bits size : FI) (num : Nat → FJ) (fnd : FI) (ad av : Nat → Nat) (fm : Option Nat) (cu : Nat) (i : Nat) (dj : va_D (fun _ => True) (djk b)) (hi : i < 11) (ol : vp_in ln 121) (hT : Tok bt (ix ln) cu tk sb en nm) : Met l yX0_tellPerhaps wsX0_tellPerhaps { frames := 5, cells := 0, slots := 0, locals := 107 } (PcQ ad av fm (Aof (kcw cI cL cS b s1 w1 m1 n1 s2 w2 m2 n2 s3 w3 m3 n3 ik bt ln tk sb en nm bits size num fnd)) D vwCl (tyG cI cL cS) [.ref (b 4 0), .ref (ad i)] (kcw cI cL cS b s1 w1 m1 n1 s2 w2 m2 n2 s3 w3 m3 n3 ik bt ln tk sb en nm bits size num fnd)) (va_Qi (fun (r : Int32) (u : Int32 × Int32 × Int32 × Int32) => r = bI (isW bt (ix ln) cu i) ∧ Tok bt (ix ln) (tAf bt (ix ln) cu i) u.1 u.2.1 u.2.2.1 u.2.2.2) (fun u t => va_P D vwCl (kcw cI cL cS b s1 w1 m1 n1 s2 w2 m2 n2 s3 w3 m3 n3 ik bt ln u.1 u.2.1 u.2.2.1 u.2.2.2 bits size num fnd) t.heap) (Aof (kcw cI cL cS b s1 w1 m1 n1 s2 w2 m2 n2 s3 w3 m3 n3 ik bt ln tk sb en nm bits size num fnd))) 0 0 (Aof (kcw cI cL cS b s1 w1 m1 n1 s2 w2 m2 n2 s3 w3 m3 n3 ik bt ln tk sb en nm bits size num fnd)) := by
  refine Met.ofW (cc := cX0_tellPerhaps) (maxL := 2) (ret := (some .int)) (by decide) rfl ?_
  intro p e s m args below meth c s₁ B hml hv
  obtain ⟨rfl, hv⟩ := hv
  obtain ⟨hP, hK, hZ⟩ := hv
  have hx := B.exec
  have hb := B.bytes
  have hr := B.returns
  have hts := atoms_spec (ws := wsX0_tellPerhaps) B.pre
  have hown : s.vm.findClass RX0 = some m.cls := findClass_of_methodNamed B.named
  have hlocks := B.notSynchronized
  obtain ⟨A, hAe⟩ : ∃ A, A = Aof (kcw cI cL cS b s1 w1 m1 n1 s2 w2 m2 n2 s3 w3 m3 n3 ik bt ln tk sb en nm bits size num fnd) := ⟨_, rfl⟩
  rw [← hAe]
  have hD : ∀ ws' : va_W, ws'.map Prod.fst = (kcw cI cL cS b s1 w1 m1 n1 s2 w2 m2 n2 s3 w3 m3 n3 ik bt ln tk sb en nm bits size num fnd).map Prod.fst → va_D A ws' := fun ws' e => by rw [hAe]; exact va_D_adr (va_D_self (va_D_adr dj rfl)) e
  have hS : va_S A s.heap s.heap [] := va_S.rf
  have hP : va_P D vwCl (kcw cI cL cS b s1 w1 m1 n1 s2 w2 m2 n2 s3 w3 m3 n3 ik bt ln tk sb en nm bits size num fnd) s.heap := hP
  have hl := lv_entry ([.ref (b 4 0), .ref (ad i)]) (n := 2) (Nat.le_of_ble_eq_true rfl)
  rw [lg_entry_eq]
  generalize (lg_sl ([.ref (b 4 0), .ref (ad i)]) ++ List.replicate (2 - (lg_sl ([.ref (b 4 0), .ref (ad i)])).length) Slot.unset).toArray = ls at hl ⊢
  have hl : lv_has ls 2 [(0, .ref (b 4 0)), (1, .ref (ad i))] := hl
  skip
  have hZ : SX ad av fm A s s.heap := by rw [hAe]; exact hZ
  refine lv_aload_n hx hb dX0_tellPerhaps_0 rfl (lv_at hl 0 rfl) ?_
  refine lv_aload_n hx hb dX0_tellPerhaps_1 rfl (lv_at hl 1 rfl) ?_
  refine callE (W.runV (As := [.ref (ad i)]) (rest := []) ⟨hx, hb, hml, hown, hts⟩ (k_X4_isWord l D cI cL cS (b 4 0) (b 4 1) bt ln tk sb en nm ad av fm i cu hi hT) (cwV 1 hts gX0_tellPerhaps_X4_isWord rfl rfl rfl (by decide +kernel) ⟨Nat.le_of_ble_eq_true rfl, Nat.le_of_ble_eq_true rfl⟩) ⟨PcQ_fb, va_recv hK hP (ci := 2) (q0 := 37) rfl rfl, PcQ_pre (va_seg hP 37 2 rfl) hK hZ hS (fun _ h => h.elim)⟩ rfl rfl hl.1 rfl (lv_room (Nat.le_of_ble_eq_true rfl)) dX0_tellPerhaps_2 ⟨Nat.zero_le _, Nat.zero_le _⟩) ?_
  refine lv_if_ne (tgt := 10) hx hb dX0_tellPerhaps_5 (by decide) (fun c_1 => ?_) (fun c_1 => ?_)
  · skip
    have c_1b := bI_n c_1
    refine lv_aload_n hx hb dX0_tellPerhaps_10 rfl (lv_at hl 0 rfl) ?_
    refine callMv (va_runV (As := []) (rest := []) ⟨hx, hb, hml, hown, hts⟩ (k_X4_next l D cI cL cS (b 4 0) (b 4 1) bt ln tk sb en nm (va_DT (va_segD (hD (kcw cI cL cS b s1 w1 m1 n1 s2 w2 m2 n2 s3 w3 m3 n3 ik bt ln tk sb en nm bits size num fnd) rfl) 37 2 rfl) rfl) (eN bt (ix ln) cu) ol hT.2.2.1 hT.st.2.1) (cwV 0 hts gX0_tellPerhaps_X4_next rfl rfl rfl (by decide +kernel) ⟨Nat.le_of_ble_eq_true rfl, Nat.le_of_ble_eq_true rfl⟩) ⟨PcR_fb, va_recv hK hP (ci := 2) (q0 := 37) rfl rfl, PcR_pre (va_seg hP 37 2 rfl) hK⟩ rfl rfl hl.1 rfl (lv_room (Nat.le_of_ble_eq_true rfl)) dX0_tellPerhaps_11 ⟨Nat.zero_le _, Nat.zero_le _⟩) hP (hD _ rfl) hS 37 2 rfl (fun u_2 H locs hu_2 hP hS => ?_)
    obtain ⟨tk_4, sb_5, en_6, nm_7⟩ := u_2
    have hu_2 : Tok bt (ix ln) (eN bt (ix ln) cu) tk_4 sb_5 en_6 nm_7 := hu_2
    have hT := hu_2
    have hP : va_P D vwCl (kcw cI cL cS b s1 w1 m1 n1 s2 w2 m2 n2 s3 w3 m3 n3 ik bt ln tk_4 sb_5 en_6 nm_7 bits size num fnd) H := hP
    refine lv_iconst (v := 1) hx hb dX0_tellPerhaps_14 (by decide) ?_
    exact W.iret hx hb hr (fun t ht hW => ⟨⟨_, (tk_4, sb_5, en_6, nm_7), rfl, (by exact ⟨(bI_t c_1b).symm, (tAf_t c_1b).symm ▸ hT⟩), by dsimp only; rw [ht]; exact hP⟩, hS.F ht⟩) hS.2.2 dX0_tellPerhaps_15
  · skip
    have c_1b := bI_0 c_1
    refine lv_iconst (v := 0) hx hb dX0_tellPerhaps_8 (by decide) ?_
    exact W.iret hx hb hr (fun t ht hW => ⟨⟨_, (tk, sb, en, nm), rfl, (by exact ⟨(bI_f c_1b).symm, (tAf_f c_1b).symm ▸ hT⟩), by dsimp only; rw [ht]; exact hP⟩, hS.F ht⟩) hS.2.2 dX0_tellPerhaps_9

set_option maxRecDepth 100000 in
set_option maxHeartbeats 4000000 in
theorem k_X0_tellGuest (l : Launch) (D : va_G) (cI cL cS : ClassId) (b : Nat → Nat → Nat) (s1 : Sg) (w1 m1 n1 : FI) (s2 : Sg) (w2 m2 n2 : FI) (s3 : Sg) (w3 m3 n3 : FI) (ik : Int32) (bt : FI) (ln tk sb en nm : Int32) (bits size : FI) (num : Nat → FJ) (fnd : FI) (ad av : Nat → Nat) (fm : Option Nat) (cu : Nat) (x0 : Int32) (dj : va_D (fun _ => True) (djk b)) (hk : vp_in x0 6) (h8 : vp_in (sGu s2) 8) (o2 : okS s2 w2) (ol : vp_in ln 121) (hT : Tok bt (ix ln) cu tk sb en nm) : Met l yX0_tellGuest wsX0_tellGuest { frames := 2, cells := 0, slots := 0, locals := 44 } (PcQ ad av fm (Aof (kcw cI cL cS b s1 w1 m1 n1 s2 w2 m2 n2 s3 w3 m3 n3 ik bt ln tk sb en nm bits size num fnd)) D vwCl (tyG cI cL cS) [.ref (b 4 0), .ref (b 2 0), .int x0] (kcw cI cL cS b s1 w1 m1 n1 s2 w2 m2 n2 s3 w3 m3 n3 ik bt ln tk sb en nm bits size num fnd)) (va_Qi (fun (r : Int32) (u : Sg × FI × Int32 × Int32 × Int32 × Int32) => TI (tGst bt (ix ln) s2 x0 (eN bt (ix ln) cu)) bt (ix ln) r u.1 u.2.1 u.2.2.1 u.2.2.2.1 u.2.2.2.2.1 u.2.2.2.2.2) (fun u t => va_P D vwCl (kcw cI cL cS b s1 w1 m1 n1 u.1 u.2.1 m2 n2 s3 w3 m3 n3 ik bt ln u.2.2.1 u.2.2.2.1 u.2.2.2.2.1 u.2.2.2.2.2 bits size num fnd) t.heap) (Aof (kcw cI cL cS b s1 w1 m1 n1 s2 w2 m2 n2 s3 w3 m3 n3 ik bt ln tk sb en nm bits size num fnd))) 0 0 (Aof (kcw cI cL cS b s1 w1 m1 n1 s2 w2 m2 n2 s3 w3 m3 n3 ik bt ln tk sb en nm bits size num fnd)) := by
  refine Met.ofW (cc := cX0_tellGuest) (maxL := 3) (ret := (some .boolean)) (by decide) rfl ?_
  intro p e s m args below meth c s₁ B hml hv
  obtain ⟨rfl, hv⟩ := hv
  obtain ⟨hP, hK, hZ⟩ := hv
  have hx := B.exec
  have hb := B.bytes
  have hr := B.returns
  have hts := atoms_spec (ws := wsX0_tellGuest) B.pre
  have hown : s.vm.findClass RX0 = some m.cls := findClass_of_methodNamed B.named
  have hlocks := B.notSynchronized
  obtain ⟨A, hAe⟩ : ∃ A, A = Aof (kcw cI cL cS b s1 w1 m1 n1 s2 w2 m2 n2 s3 w3 m3 n3 ik bt ln tk sb en nm bits size num fnd) := ⟨_, rfl⟩
  rw [← hAe]
  have hD : ∀ ws' : va_W, ws'.map Prod.fst = (kcw cI cL cS b s1 w1 m1 n1 s2 w2 m2 n2 s3 w3 m3 n3 ik bt ln tk sb en nm bits size num fnd).map Prod.fst → va_D A ws' := fun ws' e => by rw [hAe]; exact va_D_adr (va_D_self (va_D_adr dj rfl)) e
  have hS : va_S A s.heap s.heap [] := va_S.rf
  have hP : va_P D vwCl (kcw cI cL cS b s1 w1 m1 n1 s2 w2 m2 n2 s3 w3 m3 n3 ik bt ln tk sb en nm bits size num fnd) s.heap := hP
  have hl := lv_entry ([.ref (b 4 0), .ref (b 2 0), .int x0]) (n := 3) (Nat.le_of_ble_eq_true rfl)
  rw [lg_entry_eq]
  generalize (lg_sl ([.ref (b 4 0), .ref (b 2 0), .int x0]) ++ List.replicate (3 - (lg_sl ([.ref (b 4 0), .ref (b 2 0), .int x0])).length) Slot.unset).toArray = ls at hl ⊢
  have hl : lv_has ls 3 [(0, .ref (b 4 0)), (1, .ref (b 2 0)), (2, .int x0)] := hl
  have f77 := hts (.fieldLink RX0 77 "KnivesLaid$Table" "who" "[I") (List.mem_of_getElem? (i := 1) rfl)
  have inX3 : ∀ w ∈ u_ws RX3 TX3 13, w ∈ wsX0_tellGuest := in_at 37 _ _ rfl
  have f81 := hts (.fieldLink RX0 81 "KnivesLaid$Tape" "number" "I") (List.mem_of_getElem? (i := 2) rfl)
  have inX4 : ∀ w ∈ u_ws RX4 TX4 6, w ∈ wsX0_tellGuest := in_at 50 _ _ rfl
  skip
  have hZ : SX ad av fm A s s.heap := by rw [hAe]; exact hZ
  refine lv_aload_n hx hb dX0_tellGuest_0 rfl (lv_at hl 0 rfl) ?_
  refine callMv (va_runV (As := []) (rest := []) ⟨hx, hb, hml, hown, hts⟩ (k_X4_next l D cI cL cS (b 4 0) (b 4 1) bt ln tk sb en nm (va_DT (va_segD (hD (kcw cI cL cS b s1 w1 m1 n1 s2 w2 m2 n2 s3 w3 m3 n3 ik bt ln tk sb en nm bits size num fnd) rfl) 37 2 rfl) rfl) (eN bt (ix ln) cu) ol hT.2.2.1 hT.st.2.1) (cwV 0 hts gX0_tellGuest_X4_next rfl rfl rfl (by decide +kernel) ⟨Nat.le_of_ble_eq_true rfl, Nat.le_of_ble_eq_true rfl⟩) ⟨PcR_fb, va_recv hK hP (ci := 2) (q0 := 37) rfl rfl, PcR_pre (va_seg hP 37 2 rfl) hK⟩ rfl rfl hl.1 rfl (lv_room (Nat.le_of_ble_eq_true rfl)) dX0_tellGuest_1 ⟨Nat.zero_le _, Nat.zero_le _⟩) hP (hD _ rfl) hS 37 2 rfl (fun u_1 H locs hu_1 hP hS => ?_)
  obtain ⟨tk_3, sb_4, en_5, nm_6⟩ := u_1
  have hu_1 : Tok bt (ix ln) (eN bt (ix ln) cu) tk_3 sb_4 en_5 nm_6 := hu_1
  have hT := hu_1
  have hP : va_P D vwCl (kcw cI cL cS b s1 w1 m1 n1 s2 w2 m2 n2 s3 w3 m3 n3 ik bt ln tk_3 sb_4 en_5 nm_6 bits size num fnd) H := hP
  refine lv_aload_n hx hb dX0_tellGuest_4 rfl (lv_at hl 0 rfl) ?_
  refine lv_bipush (v := 10) hx hb dX0_tellGuest_5 (by decide) ?_
  refine callE (W.runV (As := [.int 10]) (rest := []) ⟨hx, hb, hml, hown, hts⟩ (k_X4_isNumberBelow l D cI cL cS (b 4 0) (b 4 1) bt ln tk_3 sb_4 en_5 nm_6 (eN bt (ix ln) cu) 10 hT) (cwV 1 hts gX0_tellGuest_X4_isNumberBelow rfl rfl rfl (by decide +kernel) ⟨Nat.le_of_ble_eq_true rfl, Nat.le_of_ble_eq_true rfl⟩) ⟨PcR_fb, va_recv hK hP (ci := 2) (q0 := 37) rfl rfl, PcR_pre (va_seg hP 37 2 rfl) hK⟩ rfl rfl hl.1 rfl (lv_room (Nat.le_of_ble_eq_true rfl)) dX0_tellGuest_7 ⟨Nat.zero_le _, Nat.zero_le _⟩) ?_
  refine lv_if_eq (tgt := 26) hx hb dX0_tellGuest_10 (by decide) (fun c_7 => ?_) (fun c_7 => ?_)
  · skip
    have c_7b := bI_0 c_7
    refine lv_iconst (v := 0) hx hb dX0_tellGuest_26 (by decide) ?_
    exact W.zret (ty := .boolean) hx hb hr rfl (fun t ht hW => ⟨⟨_, (s2, w2, tk_3, sb_4, en_5, nm_6), rfl, (by exact TI_f (fun h => c_7b h.1) ⟨rfl, rfl, hT, o2, Or.inl rfl⟩), by dsimp only; rw [ht]; exact hP⟩, hS.F ht⟩) hS.2.2 dX0_tellGuest_27
  · skip
    have c_7b := bI_n c_7
    have hN := c_7b
    have hp := isN_10 hN
    have enm := hT.2.2.2.1 (hN).1
    subst enm
    refine lv_aload_n hx hb dX0_tellGuest_13 rfl (lv_at hl 1 rfl) ?_
    refine va_get (ci := 1) (v := .ref (b 2 4)) (C := RX3) (T := TX3) (N := 13) hx hb hts inX3 hown hK hP 13 rfl rfl 4 (by decide) f77 (fun _ h9 => h9) rfl dX0_tellGuest_14 ?_
    refine lv_aload_n hx hb dX0_tellGuest_17 rfl (lv_at hl 0 rfl) ?_
    refine va_get (ci := 2) (v := .int (nI (nV bt (ix ln) (eN bt (ix ln) cu)))) (C := RX4) (T := TX4) (N := 6) hx hb hts inX4 hown hK hP 37 rfl rfl 5 (by decide) f81 (fun _ h9 => h9) rfl dX0_tellGuest_18 ?_
    refine va_iald hx hb hK hP 17 0 rfl rfl hp dX0_tellGuest_21 ?_
    refine lv_iconst (v := (-1)) hx hb dX0_tellGuest_22 (by decide) ?_
    refine lv_icmp_eq (tgt := 28) hx hb dX0_tellGuest_23 (by decide) (fun c_8 => ?_) (fun c_8 => ?_)
    · skip
      have hw : sWho s2 (nI (nV bt (ix ln) (eN bt (ix ln) cu))) = -1 := (o2.1.wh hp).symm.trans c_8
      refine lv_aload_n hx hb dX0_tellGuest_28 rfl (lv_at hl 1 rfl) ?_
      refine lv_iload_n hx hb dX0_tellGuest_29 rfl (lv_at hl 2 rfl) ?_
      refine lv_aload_n hx hb dX0_tellGuest_30 rfl (lv_at hl 0 rfl) ?_
      refine va_get (ci := 2) (v := .int (nI (nV bt (ix ln) (eN bt (ix ln) cu)))) (C := RX4) (T := TX4) (N := 6) hx hb hts inX4 hown hK hP 37 rfl rfl 5 (by decide) f81 (fun _ h9 => h9) rfl dX0_tellGuest_31 ?_
      refine callMi (va_runV (As := [.int x0, .int (nI (nV bt (ix ln) (eN bt (ix ln) cu)))]) (rest := []) ⟨hx, hb, hml, hown, hts⟩ (k_X3_welcome l D cI cL cS (b 2) (sCo s2) (sGu s2) (sKn s2) (sFo s2) (sSp s2) w2 (sKi s2) (sPl s2) (sEa s2) (sTo s2) (sQu s2) m2 n2 x0 (nI (nV bt (ix ln) (eN bt (ix ln) cu))) (va_DT (va_segD (hD _ rfl) 13 12 rfl) rfl) h8 hp) (cwV 2 hts gX0_tellGuest_X3_welcome rfl rfl rfl (by decide +kernel) ⟨Nat.le_of_ble_eq_true rfl, Nat.le_of_ble_eq_true rfl⟩) ⟨PcR_fb, va_recv hK hP (ci := 1) (q0 := 13) rfl rfl, PcR_pre (va_seg hP 13 12 rfl) hK⟩ rfl rfl hl.1 rfl (lv_room (Nat.le_of_ble_eq_true rfl)) dX0_tellGuest_34 ⟨Nat.zero_le _, Nat.zero_le _⟩) hP (hD _ rfl) hS 13 12 rfl (fun r_10 u_9 H locs hu_9 hP hS => ?_)
      obtain ⟨hu_9r, hu_9⟩ := hu_9
      subst hu_9r
      have hP : va_P D vwCl (kcw cI cL cS b s1 w1 m1 n1 (uQu (uTo (uEa (uPl (uKi (uGu s2 ((sGu s2) + 1)) (upd (sKi s2) (ix (sGu s2)) x0)) (upd (sPl s2) (ix (sGu s2)) (nI (nV bt (ix ln) (eN bt (ix ln) cu))))) (upd (sEa s2) (ix (sGu s2)) 0)) (upd (sTo s2) (ix (sGu s2)) 0)) (upd (sQu s2) (ix (sGu s2)) 0)) (upd w2 (ix (nI (nV bt (ix ln) (eN bt (ix ln) cu)))) (sGu s2)) m2 n2 s3 w3 m3 n3 ik bt ln tk_3 sb_4 en_5 (nI (nV bt (ix ln) (eN bt (ix ln) cu))) bits size num fnd) H := hP
      refine lv_pop hx hb dX0_tellGuest_37 rfl ?_
      refine lv_aload_n hx hb dX0_tellGuest_38 rfl (lv_at hl 0 rfl) ?_
      refine callMv (va_runV (As := []) (rest := []) ⟨hx, hb, hml, hown, hts⟩ (k_X4_next l D cI cL cS (b 4 0) (b 4 1) bt ln tk_3 sb_4 en_5 (nI (nV bt (ix ln) (eN bt (ix ln) cu))) (va_DT (va_segD (hD (kcw cI cL cS b s1 w1 m1 n1 (uQu (uTo (uEa (uPl (uKi (uGu s2 ((sGu s2) + 1)) (upd (sKi s2) (ix (sGu s2)) x0)) (upd (sPl s2) (ix (sGu s2)) (nI (nV bt (ix ln) (eN bt (ix ln) cu))))) (upd (sEa s2) (ix (sGu s2)) 0)) (upd (sTo s2) (ix (sGu s2)) 0)) (upd (sQu s2) (ix (sGu s2)) 0)) (upd w2 (ix (nI (nV bt (ix ln) (eN bt (ix ln) cu)))) (sGu s2)) m2 n2 s3 w3 m3 n3 ik bt ln tk_3 sb_4 en_5 (nI (nV bt (ix ln) (eN bt (ix ln) cu))) bits size num fnd) rfl) 37 2 rfl) rfl) (eN bt (ix ln) (eN bt (ix ln) cu)) ol hT.2.2.1 hT.st.2.1) (cwV 0 hts gX0_tellGuest_X4_next rfl rfl rfl (by decide +kernel) ⟨Nat.le_of_ble_eq_true rfl, Nat.le_of_ble_eq_true rfl⟩) ⟨PcR_fb, va_recv hK hP (ci := 2) (q0 := 37) rfl rfl, PcR_pre (va_seg hP 37 2 rfl) hK⟩ rfl rfl hl.1 rfl (lv_room (Nat.le_of_ble_eq_true rfl)) dX0_tellGuest_39 ⟨Nat.zero_le _, Nat.zero_le _⟩) hP (hD _ rfl) hS 37 2 rfl (fun u_11 H locs hu_11 hP hS => ?_)
      obtain ⟨tk_13, sb_14, en_15, nm_16⟩ := u_11
      have hu_11 : Tok bt (ix ln) (eN bt (ix ln) (eN bt (ix ln) cu)) tk_13 sb_14 en_15 nm_16 := hu_11
      have hT := hu_11
      have hP : va_P D vwCl (kcw cI cL cS b s1 w1 m1 n1 (uQu (uTo (uEa (uPl (uKi (uGu s2 ((sGu s2) + 1)) (upd (sKi s2) (ix (sGu s2)) x0)) (upd (sPl s2) (ix (sGu s2)) (nI (nV bt (ix ln) (eN bt (ix ln) cu))))) (upd (sEa s2) (ix (sGu s2)) 0)) (upd (sTo s2) (ix (sGu s2)) 0)) (upd (sQu s2) (ix (sGu s2)) 0)) (upd w2 (ix (nI (nV bt (ix ln) (eN bt (ix ln) cu)))) (sGu s2)) m2 n2 s3 w3 m3 n3 ik bt ln tk_13 sb_14 en_15 nm_16 bits size num fnd) H := hP
      refine lv_iconst (v := 1) hx hb dX0_tellGuest_42 (by decide) ?_
      exact W.zret (ty := .boolean) hx hb hr rfl (fun t ht hW => ⟨⟨_, ((uQu (uTo (uEa (uPl (uKi (uGu s2 ((sGu s2) + 1)) (upd (sKi s2) (ix (sGu s2)) x0)) (upd (sPl s2) (ix (sGu s2)) (nI (nV bt (ix ln) (eN bt (ix ln) cu))))) (upd (sEa s2) (ix (sGu s2)) 0)) (upd (sTo s2) (ix (sGu s2)) 0)) (upd (sQu s2) (ix (sGu s2)) 0)), upd w2 (ix (nI (nV bt (ix ln) (eN bt (ix ln) cu)))) (sGu s2), tk_13, sb_14, en_15, nm_16), rfl, (by exact TI_t ⟨hN, hw⟩ ⟨rfl, rfl, hT, ok_wel o2 h8 hk hp hw, Or.inr rfl⟩), by dsimp only; rw [ht]; exact hP⟩, hS.F ht⟩) hS.2.2 dX0_tellGuest_43
    · skip
      refine lv_iconst (v := 0) hx hb dX0_tellGuest_26 (by decide) ?_
      exact W.zret (ty := .boolean) hx hb hr rfl (fun t ht hW => ⟨⟨_, (s2, w2, tk_3, sb_4, en_5, (nI (nV bt (ix ln) (eN bt (ix ln) cu)))), rfl, (by exact TI_f (fun h => c_8 ((o2.1.wh hp).trans h.2)) ⟨rfl, rfl, hT, o2, Or.inl rfl⟩), by dsimp only; rw [ht]; exact hP⟩, hS.F ht⟩) hS.2.2 dX0_tellGuest_27
