set_option maxRecDepth 100000 in
set_option maxHeartbeats 4000000 in
theorem k_X4_rewind (l : Launch) (D : va_G) (cI cL cS : ClassId) (a q : Nat) (bt : FI) (ln tk sb en nm : Int32) (dj : va_D (fun _ => True) [(a, .inr (0, [])), (q, .inr (0, []))])  : Met l yX4_rewind wsX4_rewind { frames := 0, cells := 0, slots := 0, locals := 0 } (PcR D vwCl (tyG cI cL cS) [.ref a] (tpw cI a q bt ln tk sb en nm)) (va_Qv (fun (u : Unit) => True) (fun u t => va_P D vwCl (tpw cI a q bt ln 0 0 0 0) t.heap) (Aof (tpw cI a q bt ln tk sb en nm))) 0 0 (Aof (tpw cI a q bt ln tk sb en nm)) := by
  refine Met.ofW (cc := cX4_rewind) (maxL := 1) (ret := none) (by decide) rfl ?_
  intro p e s m args below meth c s₁ B hml hv
  obtain ⟨rfl, hP, hK⟩ := hv
  have hx := B.exec
  have hb := B.bytes
  have hr := B.returns
  have hts := atoms_spec (ws := wsX4_rewind) B.pre
  have hown : s.vm.findClass RX4 = some m.cls := findClass_of_methodNamed B.named
  have hlocks := B.notSynchronized
  obtain ⟨A, hAe⟩ : ∃ A, A = Aof (tpw cI a q bt ln tk sb en nm) := ⟨_, rfl⟩
  rw [← hAe]
  have hD : ∀ ws' : va_W, ws'.map Prod.fst = (tpw cI a q bt ln tk sb en nm).map Prod.fst → va_D A ws' := fun ws' e => by rw [hAe]; exact va_D_adr (va_D_self (va_D_adr dj rfl)) e
  have hS : va_S A s.heap s.heap [] := va_S.rf
  have hP : va_P D vwCl (tpw cI a q bt ln tk sb en nm) s.heap := hP
  have hl := lv_entry ([.ref a]) (n := 1) (Nat.le_of_ble_eq_true rfl)
  rw [lg_entry_eq]
  generalize (lg_sl ([.ref a]) ++ List.replicate (1 - (lg_sl ([.ref a])).length) Slot.unset).toArray = ls at hl ⊢
  have hl : lv_has ls 1 [(0, .ref a)] := hl
  have f22 := hts (.fieldLink RX4 22 "KnivesLaid$Tape" "token" "I") (List.mem_of_getElem? (i := 1) rfl)
  have inX4 : ∀ w ∈ u_ws RX4 TX4 6, w ∈ wsX4_rewind := in_at 5 _ _ rfl
  have f25 := hts (.fieldLink RX4 25 "KnivesLaid$Tape" "start" "I") (List.mem_of_getElem? (i := 2) rfl)
  have f28 := hts (.fieldLink RX4 28 "KnivesLaid$Tape" "end" "I") (List.mem_of_getElem? (i := 3) rfl)
  have f31 := hts (.fieldLink RX4 31 "KnivesLaid$Tape" "number" "I") (List.mem_of_getElem? (i := 4) rfl)
  skip
  refine lv_aload_n hx hb dX4_rewind_0 rfl (lv_at hl 0 rfl) ?_
  refine lv_iconst (v := 0) hx hb dX4_rewind_1 (by decide) ?_
  refine va_put (ci := 3) (v := .int 0) (ty := .int) (C := RX4) (T := TX4) (N := 6) hx hb hts inX4 tyX4 tyX4_ok nmX4 hown hK hP (hD _ rfl) hS 0 rfl rfl 2 (by decide) f22 (fun _ h9 => h9) rfl rfl rfl rfl (Nat.le_of_ble_eq_true rfl) dX4_rewind_2 (fun H locs hP _ hS => ?_)
  have hP : va_P D vwCl (tpw cI a q bt ln 0 sb en nm) H := hP
  refine lv_aload_n hx hb dX4_rewind_5 rfl (lv_at hl 0 rfl) ?_
  refine lv_iconst (v := 0) hx hb dX4_rewind_6 (by decide) ?_
  refine va_put (ci := 3) (v := .int 0) (ty := .int) (C := RX4) (T := TX4) (N := 6) hx hb hts inX4 tyX4 tyX4_ok nmX4 hown hK hP (hD _ rfl) hS 0 rfl rfl 3 (by decide) f25 (fun _ h9 => h9) rfl rfl rfl rfl (Nat.le_of_ble_eq_true rfl) dX4_rewind_7 (fun H locs hP _ hS => ?_)
  have hP : va_P D vwCl (tpw cI a q bt ln 0 0 en nm) H := hP
  refine lv_aload_n hx hb dX4_rewind_10 rfl (lv_at hl 0 rfl) ?_
  refine lv_iconst (v := 0) hx hb dX4_rewind_11 (by decide) ?_
  refine va_put (ci := 3) (v := .int 0) (ty := .int) (C := RX4) (T := TX4) (N := 6) hx hb hts inX4 tyX4 tyX4_ok nmX4 hown hK hP (hD _ rfl) hS 0 rfl rfl 4 (by decide) f28 (fun _ h9 => h9) rfl rfl rfl rfl (Nat.le_of_ble_eq_true rfl) dX4_rewind_12 (fun H locs hP _ hS => ?_)
  have hP : va_P D vwCl (tpw cI a q bt ln 0 0 0 nm) H := hP
  refine lv_aload_n hx hb dX4_rewind_15 rfl (lv_at hl 0 rfl) ?_
  refine lv_iconst (v := 0) hx hb dX4_rewind_16 (by decide) ?_
  refine va_put (ci := 3) (v := .int 0) (ty := .int) (C := RX4) (T := TX4) (N := 6) hx hb hts inX4 tyX4 tyX4_ok nmX4 hown hK hP (hD _ rfl) hS 0 rfl rfl 5 (by decide) f31 (fun _ h9 => h9) rfl rfl rfl rfl (Nat.le_of_ble_eq_true rfl) dX4_rewind_17 (fun H locs hP _ hS => ?_)
  have hP : va_P D vwCl (tpw cI a q bt ln 0 0 0 0) H := hP
  exact W.vret hx hb hr (fun t ht hW => ⟨⟨(), rfl, (by trivial), by dsimp only; rw [ht]; exact hP⟩, hS.F ht⟩) hS.2.2 dX4_rewind_20

set_option maxRecDepth 100000 in
set_option maxHeartbeats 4000000 in
theorem k_X4_nextWord (l : Launch) (D : va_G) (cI cL cS : ClassId) (a q : Nat) (bt : FI) (ln tk sb en nm : Int32) (dj : va_D (fun _ => True) [(a, .inr (0, [])), (q, .inr (0, []))]) (ol : vp_in ln 121) (he : vp_in en 121) (hle : ix en ≤ ix ln) : Met l yX4_nextWord wsX4_nextWord { frames := 1, cells := 0, slots := 0, locals := 20 } (PcR D vwCl (tyG cI cL cS) [.ref a] (tpw cI a q bt ln tk sb en nm)) (va_Qv (fun (u : Unit) => True) (fun u t => va_P D vwCl (tpw cI a q bt ln 1 sb (nI (wE bt (ix ln) (ix en))) nm) t.heap) (Aof (tpw cI a q bt ln tk sb en nm))) 0 0 (Aof (tpw cI a q bt ln tk sb en nm)) := by
  refine Met.ofW (cc := cX4_nextWord) (maxL := 1) (ret := none) (by decide) rfl ?_
  intro p e s m args below meth c s₁ B hml hv
  obtain ⟨rfl, hP, hK⟩ := hv
  have hx := B.exec
  have hb := B.bytes
  have hr := B.returns
  have hts := atoms_spec (ws := wsX4_nextWord) B.pre
  have hown : s.vm.findClass RX4 = some m.cls := findClass_of_methodNamed B.named
  have hlocks := B.notSynchronized
  obtain ⟨A, hAe⟩ : ∃ A, A = Aof (tpw cI a q bt ln tk sb en nm) := ⟨_, rfl⟩
  rw [← hAe]
  have hD : ∀ ws' : va_W, ws'.map Prod.fst = (tpw cI a q bt ln tk sb en nm).map Prod.fst → va_D A ws' := fun ws' e => by rw [hAe]; exact va_D_adr (va_D_self (va_D_adr dj rfl)) e
  have hS : va_S A s.heap s.heap [] := va_S.rf
  have hP : va_P D vwCl (tpw cI a q bt ln tk sb en nm) s.heap := hP
  have hl := lv_entry ([.ref a]) (n := 1) (Nat.le_of_ble_eq_true rfl)
  rw [lg_entry_eq]
  generalize (lg_sl ([.ref a]) ++ List.replicate (1 - (lg_sl ([.ref a])).length) Slot.unset).toArray = ls at hl ⊢
  have hl : lv_has ls 1 [(0, .ref a)] := hl
  have f22 := hts (.fieldLink RX4 22 "KnivesLaid$Tape" "token" "I") (List.mem_of_getElem? (i := 1) rfl)
  have inX4 : ∀ w ∈ u_ws RX4 TX4 6, w ∈ wsX4_nextWord := in_at 9 _ _ rfl
  have f28 := hts (.fieldLink RX4 28 "KnivesLaid$Tape" "end" "I") (List.mem_of_getElem? (i := 2) rfl)
  have f15 := hts (.fieldLink RX4 15 "KnivesLaid$Tape" "length" "I") (List.mem_of_getElem? (i := 3) rfl)
  have f9 := hts (.fieldLink RX4 9 "KnivesLaid$Tape" "bytes" "[I") (List.mem_of_getElem? (i := 4) rfl)
  skip
  have hln := ln_of ol
  have hl120 := hln.2
  have hlnn := hln.1
  have hen := ln_of he
  refine lv_aload_n hx hb dX4_nextWord_0 rfl (lv_at hl 0 rfl) ?_
  refine lv_iconst (v := 1) hx hb dX4_nextWord_1 (by decide) ?_
  refine va_put (ci := 3) (v := .int 1) (ty := .int) (C := RX4) (T := TX4) (N := 6) hx hb hts inX4 tyX4 tyX4_ok nmX4 hown hK hP (hD _ rfl) hS 0 rfl rfl 2 (by decide) f22 (fun _ h9 => h9) rfl rfl rfl rfl (Nat.le_of_ble_eq_true rfl) dX4_nextWord_2 (fun H locs hP _ hS => ?_)
  have hP : va_P D vwCl (tpw cI a q bt ln 1 sb en nm) H := hP
  have hP : va_P D vwCl (tpw cI a q bt ln 1 sb (nI (ix en)) nm) H := by rw [← hen.1]; exact hP
  refine lpW (fun n (u : Nat) H locs ls => (u + n = 121) ∧ (u ≤ ix ln) ∧ (wE bt (ix ln) (ix en) = wE bt (ix ln) u) ∧ va_P D vwCl (tpw cI a q bt ln 1 sb (nI u) nm) H ∧ va_S A s.heap H locs ∧ lv_has ls 1 [(0, .ref a)]) (121 - ix en) ((ix en)) ⟨by omega, hle, rfl, hP, hS, lv_sub hl [0] rfl⟩ (fun n ih u H locs ls hI => ?_)
  obtain ⟨i, rfl⟩ : ∃ z, z = u := ⟨_, rfl⟩
  obtain ⟨hi0, hi1, hi2, hP, hS, hl⟩ := hI
  have hi0 : i + n = 121 := hi0
  have hi1 : i ≤ ix ln := hi1
  have hi2 : wE bt (ix ln) (ix en) = wE bt (ix ln) i := hi2
  have hl : lv_has ls 1 [(0, .ref a)] := hl
  have hP : va_P D vwCl (tpw cI a q bt ln 1 sb (nI i) nm) H := hP
  have hix : ix (nI i) = i := ix_nI (by omega)
  refine lv_aload_n hx hb dX4_nextWord_5 rfl (lv_at hl 0 rfl) ?_
  refine va_get (ci := 3) (v := .int (nI i)) (C := RX4) (T := TX4) (N := 6) hx hb hts inX4 hown hK hP 0 rfl rfl 4 (by decide) f28 (fun _ h9 => h9) rfl dX4_nextWord_6 ?_
  refine lv_aload_n hx hb dX4_nextWord_9 rfl (lv_at hl 0 rfl) ?_
  refine va_get (ci := 3) (v := .int ln) (C := RX4) (T := TX4) (N := 6) hx hb hts inX4 hown hK hP 0 rfl rfl 1 (by decide) f15 (fun _ h9 => h9) rfl dX4_nextWord_10 ?_
  refine lv_icmp_ge (tgt := 44) hx hb dX4_nextWord_13 (by decide) (fun c_1 => ?_) (fun c_1 => ?_)
  · skip
    have c_1n := (cmp_le (a := (ix ln)) (b := i) hlnn rfl (by omega) (by omega)).mp c_1
    exact W.vret hx hb hr (fun t ht hW => ⟨⟨(), rfl, (by trivial), by dsimp only; rw [ht]; exact (by rw [show wE bt (ix ln) (ix en) = i from hi2.trans (rn_n (fun q => Nat.not_lt.mpr c_1n q.1))]; exact hP)⟩, hS.F ht⟩) hS.2.2 dX4_nextWord_44
  · skip
    have c_1n := mt (cmp_le (a := (ix ln)) (b := i) hlnn rfl (by omega) (by omega)).mpr c_1
    refine lv_aload_n hx hb dX4_nextWord_16 rfl (lv_at hl 0 rfl) ?_
    refine va_get (ci := 3) (v := .ref q) (C := RX4) (T := TX4) (N := 6) hx hb hts inX4 hown hK hP 0 rfl rfl 0 (by decide) f9 (fun _ h9 => h9) rfl dX4_nextWord_17 ?_
    refine lv_aload_n hx hb dX4_nextWord_20 rfl (lv_at hl 0 rfl) ?_
    refine va_get (ci := 3) (v := .int (nI i)) (C := RX4) (T := TX4) (N := 6) hx hb hts inX4 hown hK hP 0 rfl rfl 4 (by decide) f28 (fun _ h9 => h9) rfl dX4_nextWord_21 ?_
    refine va_iald hx hb hK hP 1 0 rfl rfl (vp_in_nI (by omega) (by decide)) dX4_nextWord_24 ?_
    refine callE (W.runS (As := [.int (bt (ix (nI i)))]) (rest := []) ⟨hx, hb, hml, hown, hts⟩ (k_X4_isLetter l (bt (ix (nI i)))) (va_cwS 1 hts gX4_nextWord_X4_isLetter rfl rfl rfl (by decide +kernel) ⟨Nat.le_of_ble_eq_true rfl, Nat.le_of_ble_eq_true rfl⟩) ⟨PcP_fb, fun U _ _ => ⟨rfl, trivial⟩⟩ rfl rfl hl.1 rfl (lv_room (Nat.le_of_ble_eq_true rfl)) dX4_nextWord_25 ⟨Nat.zero_le _, Nat.zero_le _⟩) ?_
    refine lv_if_eq (tgt := 44) hx hb dX4_nextWord_28 (by decide) (fun c_2 => ?_) (fun c_2 => ?_)
    · skip
      have c_2b := bI_0 c_2
      exact W.vret hx hb hr (fun t ht hW => ⟨⟨(), rfl, (by trivial), by dsimp only; rw [ht]; exact (by rw [show wE bt (ix ln) (ix en) = i from hi2.trans (rn_n (fun q => c_2b (hix.symm ▸ q.2)))]; exact hP)⟩, hS.F ht⟩) hS.2.2 dX4_nextWord_44
    · skip
      have c_2b := bI_n c_2
      refine lv_aload_n hx hb dX4_nextWord_31 rfl (lv_at hl 0 rfl) ?_
      refine lv_dup hx hb dX4_nextWord_32 rfl ?_
      refine va_get (ci := 3) (v := .int (nI i)) (C := RX4) (T := TX4) (N := 6) hx hb hts inX4 hown hK hP 0 rfl rfl 4 (by decide) f28 (fun _ h9 => h9) rfl dX4_nextWord_33 ?_
      refine lv_iconst (v := 1) hx hb dX4_nextWord_36 (by decide) ?_
      refine lv_iadd hx hb dX4_nextWord_37 ?_
      refine va_put (ci := 3) (v := .int ((nI i) + 1)) (ty := .int) (C := RX4) (T := TX4) (N := 6) hx hb hts inX4 tyX4 tyX4_ok nmX4 hown hK hP (hD _ rfl) hS 0 rfl rfl 4 (by decide) f28 (fun _ h9 => h9) rfl rfl rfl rfl (Nat.le_of_ble_eq_true rfl) dX4_nextWord_38 (fun H locs hP _ hS => ?_)
      have hP : va_P D vwCl (tpw cI a q bt ln 1 sb ((nI i) + 1) nm) H := hP
      refine lv_goto (tgt := 5) hx hb dX4_nextWord_41 (by decide) ?_
      have hP : va_P D vwCl (tpw cI a q bt ln 1 sb (nI (i + 1)) nm) H := by rw [← nI_1]; exact hP
      exact ih (n - 1) (by omega) (i + 1) H locs ls ⟨by omega, by omega, by rw [hi2]; exact rn_y (by omega) (hix ▸ c_2b), hP, hS, lv_sub hl [0] rfl⟩

set_option maxRecDepth 100000 in
set_option maxHeartbeats 4000000 in
theorem k_X4_nextNumber (l : Launch) (D : va_G) (cI cL cS : ClassId) (a q : Nat) (bt : FI) (ln tk sb en nm : Int32) (dj : va_D (fun _ => True) [(a, .inr (0, [])), (q, .inr (0, []))]) (ol : vp_in ln 121) (he : vp_in en 121) (hle : ix en ≤ ix ln) : Met l yX4_nextNumber wsX4_nextNumber { frames := 1, cells := 0, slots := 0, locals := 24 } (PcR D vwCl (tyG cI cL cS) [.ref a] (tpw cI a q bt ln tk sb en nm)) (va_Qv (fun (u : Unit) => True) (fun u t => va_P D vwCl (tpw cI a q bt ln 2 sb (nI (dE bt (ix ln) (ix en))) (nI (nVs bt (dE bt (ix ln) (ix en) - ix en) (ix en) 0))) t.heap) (Aof (tpw cI a q bt ln tk sb en nm))) 0 0 (Aof (tpw cI a q bt ln tk sb en nm)) := by
  refine Met.ofW (cc := cX4_nextNumber) (maxL := 1) (ret := none) (by decide) rfl ?_
  intro p e s m args below meth c s₁ B hml hv
  obtain ⟨rfl, hP, hK⟩ := hv
  have hx := B.exec
  have hb := B.bytes
  have hr := B.returns
  have hts := atoms_spec (ws := wsX4_nextNumber) B.pre
  have hown : s.vm.findClass RX4 = some m.cls := findClass_of_methodNamed B.named
  have hlocks := B.notSynchronized
  obtain ⟨A, hAe⟩ : ∃ A, A = Aof (tpw cI a q bt ln tk sb en nm) := ⟨_, rfl⟩
  rw [← hAe]
  have hD : ∀ ws' : va_W, ws'.map Prod.fst = (tpw cI a q bt ln tk sb en nm).map Prod.fst → va_D A ws' := fun ws' e => by rw [hAe]; exact va_D_adr (va_D_self (va_D_adr dj rfl)) e
  have hS : va_S A s.heap s.heap [] := va_S.rf
  have hP : va_P D vwCl (tpw cI a q bt ln tk sb en nm) s.heap := hP
  have hl := lv_entry ([.ref a]) (n := 1) (Nat.le_of_ble_eq_true rfl)
  rw [lg_entry_eq]
  generalize (lg_sl ([.ref a]) ++ List.replicate (1 - (lg_sl ([.ref a])).length) Slot.unset).toArray = ls at hl ⊢
  have hl : lv_has ls 1 [(0, .ref a)] := hl
  have f22 := hts (.fieldLink RX4 22 "KnivesLaid$Tape" "token" "I") (List.mem_of_getElem? (i := 1) rfl)
  have inX4 : ∀ w ∈ u_ws RX4 TX4 6, w ∈ wsX4_nextNumber := in_at 14 _ _ rfl
  have f31 := hts (.fieldLink RX4 31 "KnivesLaid$Tape" "number" "I") (List.mem_of_getElem? (i := 2) rfl)
  have f28 := hts (.fieldLink RX4 28 "KnivesLaid$Tape" "end" "I") (List.mem_of_getElem? (i := 3) rfl)
  have f15 := hts (.fieldLink RX4 15 "KnivesLaid$Tape" "length" "I") (List.mem_of_getElem? (i := 4) rfl)
  have f9 := hts (.fieldLink RX4 9 "KnivesLaid$Tape" "bytes" "[I") (List.mem_of_getElem? (i := 5) rfl)
  have ml47 := hts (.methodLink RX4 47 Lib.Math.min.name) (List.mem_of_getElem? (i := 6) rfl)
  have stmin := hts (.static Lib.Math.min.name) (List.mem_of_getElem? (i := 7) rfl)
  have iMath := hts (.initialized "java/lang/Math") (List.mem_of_getElem? (i := 8) rfl)
  have comin := hts (.code Lib.Math.min.name Lib.Math.min.code 2 (some .int)) (List.mem_of_getElem? (i := 9) rfl)
  skip
  have hln := ln_of ol
  have hl120 := hln.2
  have hlnn := hln.1
  have hen := ln_of he
  refine lv_aload_n hx hb dX4_nextNumber_0 rfl (lv_at hl 0 rfl) ?_
  refine lv_iconst (v := 2) hx hb dX4_nextNumber_1 (by decide) ?_
  refine va_put (ci := 3) (v := .int 2) (ty := .int) (C := RX4) (T := TX4) (N := 6) hx hb hts inX4 tyX4 tyX4_ok nmX4 hown hK hP (hD _ rfl) hS 0 rfl rfl 2 (by decide) f22 (fun _ h9 => h9) rfl rfl rfl rfl (Nat.le_of_ble_eq_true rfl) dX4_nextNumber_2 (fun H locs hP _ hS => ?_)
  have hP : va_P D vwCl (tpw cI a q bt ln 2 sb en nm) H := hP
  refine lv_aload_n hx hb dX4_nextNumber_5 rfl (lv_at hl 0 rfl) ?_
  refine lv_iconst (v := 0) hx hb dX4_nextNumber_6 (by decide) ?_
  refine va_put (ci := 3) (v := .int 0) (ty := .int) (C := RX4) (T := TX4) (N := 6) hx hb hts inX4 tyX4 tyX4_ok nmX4 hown hK hP (hD _ rfl) hS 0 rfl rfl 5 (by decide) f31 (fun _ h9 => h9) rfl rfl rfl rfl (Nat.le_of_ble_eq_true rfl) dX4_nextNumber_7 (fun H locs hP _ hS => ?_)
  have hP : va_P D vwCl (tpw cI a q bt ln 2 sb en 0) H := hP
  have hP : va_P D vwCl (tpw cI a q bt ln 2 sb (nI (ix en)) (nI 0)) H := by rw [← hen.1]; exact hP
  refine lpW (fun n (u : Nat × Nat) H locs ls => (u.1 + n = 121) ∧ (u.1 ≤ ix ln) ∧ (u.2 ≤ 1000) ∧ (dE bt (ix ln) (ix en) = dE bt (ix ln) u.1) ∧ (nVs bt (dE bt (ix ln) (ix en) - ix en) (ix en) 0 = nVs bt (dE bt (ix ln) u.1 - u.1) u.1 u.2) ∧ va_P D vwCl (tpw cI a q bt ln 2 sb (nI u.1) (nI u.2)) H ∧ va_S A s.heap H locs ∧ lv_has ls 1 [(0, .ref a)]) (121 - ix en) (((ix en), 0)) ⟨by omega, hle, by omega, rfl, rfl, hP, hS, lv_sub hl [0] rfl⟩ (fun n ih u H locs ls hI => ?_)
  obtain ⟨i, v⟩ := u
  obtain ⟨hi0, hi1, hi2, hi3, hi4, hP, hS, hl⟩ := hI
  have hi0 : i + n = 121 := hi0
  have hi1 : i ≤ ix ln := hi1
  have hi2 : v ≤ 1000 := hi2
  have hi3 : dE bt (ix ln) (ix en) = dE bt (ix ln) i := hi3
  have hi4 : nVs bt (dE bt (ix ln) (ix en) - ix en) (ix en) 0 = nVs bt (dE bt (ix ln) i - i) i v := hi4
  have hl : lv_has ls 1 [(0, .ref a)] := hl
  have hP : va_P D vwCl (tpw cI a q bt ln 2 sb (nI i) (nI v)) H := hP
  have hix : ix (nI i) = i := ix_nI (by omega)
  refine lv_aload_n hx hb dX4_nextNumber_10 rfl (lv_at hl 0 rfl) ?_
  refine va_get (ci := 3) (v := .int (nI i)) (C := RX4) (T := TX4) (N := 6) hx hb hts inX4 hown hK hP 0 rfl rfl 4 (by decide) f28 (fun _ h9 => h9) rfl dX4_nextNumber_11 ?_
  refine lv_aload_n hx hb dX4_nextNumber_14 rfl (lv_at hl 0 rfl) ?_
  refine va_get (ci := 3) (v := .int ln) (C := RX4) (T := TX4) (N := 6) hx hb hts inX4 hown hK hP 0 rfl rfl 1 (by decide) f15 (fun _ h9 => h9) rfl dX4_nextNumber_15 ?_
  refine lv_icmp_ge (tgt := 79) hx hb dX4_nextNumber_18 (by decide) (fun c_1 => ?_) (fun c_1 => ?_)
  · skip
    have c_1n := (cmp_le (a := (ix ln)) (b := i) hlnn rfl (by omega) (by omega)).mp c_1
    exact W.vret hx hb hr (fun t ht hW => ⟨⟨(), rfl, (by trivial), by dsimp only; rw [ht]; exact (by rw [show nVs bt (dE bt (ix ln) (ix en) - ix en) (ix en) 0 = v from hi4.trans (nVs_e (fun q => Nat.not_lt.mpr c_1n q.1)), show dE bt (ix ln) (ix en) = i from hi3.trans (rn_n (fun q => Nat.not_lt.mpr c_1n q.1))]; exact hP)⟩, hS.F ht⟩) hS.2.2 dX4_nextNumber_79
  · skip
    have c_1n := mt (cmp_le (a := (ix ln)) (b := i) hlnn rfl (by omega) (by omega)).mpr c_1
    refine lv_aload_n hx hb dX4_nextNumber_21 rfl (lv_at hl 0 rfl) ?_
    refine va_get (ci := 3) (v := .ref q) (C := RX4) (T := TX4) (N := 6) hx hb hts inX4 hown hK hP 0 rfl rfl 0 (by decide) f9 (fun _ h9 => h9) rfl dX4_nextNumber_22 ?_
    refine lv_aload_n hx hb dX4_nextNumber_25 rfl (lv_at hl 0 rfl) ?_
    refine va_get (ci := 3) (v := .int (nI i)) (C := RX4) (T := TX4) (N := 6) hx hb hts inX4 hown hK hP 0 rfl rfl 4 (by decide) f28 (fun _ h9 => h9) rfl dX4_nextNumber_26 ?_
    refine va_iald hx hb hK hP 1 0 rfl rfl (vp_in_nI (by omega) (by decide)) dX4_nextNumber_29 ?_
    refine callE (W.runS (As := [.int (bt (ix (nI i)))]) (rest := []) ⟨hx, hb, hml, hown, hts⟩ (k_X4_isDigit l (bt (ix (nI i)))) (va_cwS 1 hts gX4_nextNumber_X4_isDigit rfl rfl rfl (by decide +kernel) ⟨Nat.le_of_ble_eq_true rfl, Nat.le_of_ble_eq_true rfl⟩) ⟨PcP_fb, fun U _ _ => ⟨rfl, trivial⟩⟩ rfl rfl hl.1 rfl (lv_room (Nat.le_of_ble_eq_true rfl)) dX4_nextNumber_30 ⟨Nat.zero_le _, Nat.zero_le _⟩) ?_
    refine lv_if_eq (tgt := 79) hx hb dX4_nextNumber_33 (by decide) (fun c_2 => ?_) (fun c_2 => ?_)
    · skip
      have c_2b := bI_0 c_2
      exact W.vret hx hb hr (fun t ht hW => ⟨⟨(), rfl, (by trivial), by dsimp only; rw [ht]; exact (by rw [show nVs bt (dE bt (ix ln) (ix en) - ix en) (ix en) 0 = v from hi4.trans (nVs_e (fun q => c_2b (hix.symm ▸ q.2))), show dE bt (ix ln) (ix en) = i from hi3.trans (rn_n (fun q => c_2b (hix.symm ▸ q.2)))]; exact hP)⟩, hS.F ht⟩) hS.2.2 dX4_nextNumber_79
    · skip
      have c_2b := bI_n c_2
      refine lv_aload_n hx hb dX4_nextNumber_36 rfl (lv_at hl 0 rfl) ?_
      refine lv_sipush (v := 1000) hx hb dX4_nextNumber_37 (by decide) ?_
      refine lv_bipush (v := 10) hx hb dX4_nextNumber_40 (by decide) ?_
      refine lv_aload_n hx hb dX4_nextNumber_42 rfl (lv_at hl 0 rfl) ?_
      refine va_get (ci := 3) (v := .int (nI v)) (C := RX4) (T := TX4) (N := 6) hx hb hts inX4 hown hK hP 0 rfl rfl 5 (by decide) f31 (fun _ h9 => h9) rfl dX4_nextNumber_43 ?_
      refine lv_imul hx hb dX4_nextNumber_46 ?_
      refine lv_aload_n hx hb dX4_nextNumber_47 rfl (lv_at hl 0 rfl) ?_
      refine va_get (ci := 3) (v := .ref q) (C := RX4) (T := TX4) (N := 6) hx hb hts inX4 hown hK hP 0 rfl rfl 0 (by decide) f9 (fun _ h9 => h9) rfl dX4_nextNumber_48 ?_
      refine lv_aload_n hx hb dX4_nextNumber_51 rfl (lv_at hl 0 rfl) ?_
      refine va_get (ci := 3) (v := .int (nI i)) (C := RX4) (T := TX4) (N := 6) hx hb hts inX4 hown hK hP 0 rfl rfl 4 (by decide) f28 (fun _ h9 => h9) rfl dX4_nextNumber_52 ?_
      refine va_iald hx hb hK hP 1 0 rfl rfl (vp_in_nI (by omega) (by decide)) dX4_nextNumber_55 ?_
      refine lv_iadd hx hb dX4_nextNumber_56 ?_
      refine lv_bipush (v := 48) hx hb dX4_nextNumber_57 (by decide) ?_
      refine lv_isub hx hb dX4_nextNumber_59 ?_
      refine va_mmin hx hb (by rw [hml]; exact hl.1.symm) hown ml47 stmin iMath comin (Nat.le_of_ble_eq_true rfl) (Nat.le_of_ble_eq_true rfl) (Nat.zero_le _) (Nat.zero_le _) dX4_nextNumber_60 ?_
      refine va_put (ci := 3) (v := .int (if (((10 * (nI v)) + (bt (ix (nI i)))) - 48) < 1000 then (((10 * (nI v)) + (bt (ix (nI i)))) - 48) else 1000)) (ty := .int) (C := RX4) (T := TX4) (N := 6) hx hb hts inX4 tyX4 tyX4_ok nmX4 hown hK hP (hD _ rfl) hS 0 rfl rfl 5 (by decide) f31 (fun _ h9 => h9) rfl rfl rfl rfl (Nat.le_of_ble_eq_true rfl) dX4_nextNumber_63 (fun H locs hP _ hS => ?_)
      have hP : va_P D vwCl (tpw cI a q bt ln 2 sb (nI i) (if (((10 * (nI v)) + (bt (ix (nI i)))) - 48) < 1000 then (((10 * (nI v)) + (bt (ix (nI i)))) - 48) else 1000)) H := hP
      refine lv_aload_n hx hb dX4_nextNumber_66 rfl (lv_at hl 0 rfl) ?_
      refine lv_dup hx hb dX4_nextNumber_67 rfl ?_
      refine va_get (ci := 3) (v := .int (nI i)) (C := RX4) (T := TX4) (N := 6) hx hb hts inX4 hown hK hP 0 rfl rfl 4 (by decide) f28 (fun _ h9 => h9) rfl dX4_nextNumber_68 ?_
      refine lv_iconst (v := 1) hx hb dX4_nextNumber_71 (by decide) ?_
      refine lv_iadd hx hb dX4_nextNumber_72 ?_
      refine va_put (ci := 3) (v := .int ((nI i) + 1)) (ty := .int) (C := RX4) (T := TX4) (N := 6) hx hb hts inX4 tyX4 tyX4_ok nmX4 hown hK hP (hD _ rfl) hS 0 rfl rfl 4 (by decide) f28 (fun _ h9 => h9) rfl rfl rfl rfl (Nat.le_of_ble_eq_true rfl) dX4_nextNumber_73 (fun H locs hP _ hS => ?_)
      have hP : va_P D vwCl (tpw cI a q bt ln 2 sb ((nI i) + 1) (if (((10 * (nI v)) + (bt (ix (nI i)))) - 48) < 1000 then (((10 * (nI v)) + (bt (ix (nI i)))) - 48) else 1000)) H := hP
      refine lv_goto (tgt := 10) hx hb dX4_nextNumber_76 (by decide) ?_
      have hdg : isDg (bt i) := hix ▸ c_2b
      have hP : va_P D vwCl (tpw cI a q bt ln 2 sb (nI (i + 1)) (nI (min 1000 (10 * v + (ix (bt i) - 48))))) H := by rw [← nI_1, ← dg_min hi2 hdg, ← hix]; simp only [hix] at hP ⊢; exact hP
      exact ih (n - 1) (by omega) ((i + 1, min 1000 (10 * v + (ix (bt i) - 48)))) H locs ls ⟨by omega, by omega, by omega, by rw [hi3]; exact rn_y (by omega) hdg, by rw [hi4]; exact nVs_s (by omega) hdg, hP, hS, lv_sub hl [0] rfl⟩

set_option maxRecDepth 100000 in
set_option maxHeartbeats 4000000 in
theorem k_X4_next (l : Launch) (D : va_G) (cI cL cS : ClassId) (a q : Nat) (bt : FI) (ln tk sb en nm : Int32) (dj : va_D (fun _ => True) [(a, .inr (0, [])), (q, .inr (0, []))]) (cu : Nat) (ol : vp_in ln 121) (he : en = nI cu) (hc : cu ≤ ix ln) : Met l yX4_next wsX4_next { frames := 2, cells := 0, slots := 0, locals := 44 } (PcR D vwCl (tyG cI cL cS) [.ref a] (tpw cI a q bt ln tk sb en nm)) (va_Qv (fun (u : Int32 × Int32 × Int32 × Int32) => Tok bt (ix ln) cu u.1 u.2.1 u.2.2.1 u.2.2.2) (fun u t => va_P D vwCl (tpw cI a q bt ln u.1 u.2.1 u.2.2.1 u.2.2.2) t.heap) (Aof (tpw cI a q bt ln tk sb en nm))) 0 0 (Aof (tpw cI a q bt ln tk sb en nm)) := by
  refine Met.ofW (cc := cX4_next) (maxL := 1) (ret := none) (by decide) rfl ?_
  intro p e s m args below meth c s₁ B hml hv
  obtain ⟨rfl, hP, hK⟩ := hv
  have hx := B.exec
  have hb := B.bytes
  have hr := B.returns
  have hts := atoms_spec (ws := wsX4_next) B.pre
  have hown : s.vm.findClass RX4 = some m.cls := findClass_of_methodNamed B.named
  have hlocks := B.notSynchronized
  obtain ⟨A, hAe⟩ : ∃ A, A = Aof (tpw cI a q bt ln tk sb en nm) := ⟨_, rfl⟩
  rw [← hAe]
  have hD : ∀ ws' : va_W, ws'.map Prod.fst = (tpw cI a q bt ln tk sb en nm).map Prod.fst → va_D A ws' := fun ws' e => by rw [hAe]; exact va_D_adr (va_D_self (va_D_adr dj rfl)) e
  have hS : va_S A s.heap s.heap [] := va_S.rf
  have hP : va_P D vwCl (tpw cI a q bt ln tk sb en nm) s.heap := hP
  have hl := lv_entry ([.ref a]) (n := 1) (Nat.le_of_ble_eq_true rfl)
  rw [lg_entry_eq]
  generalize (lg_sl ([.ref a]) ++ List.replicate (1 - (lg_sl ([.ref a])).length) Slot.unset).toArray = ls at hl ⊢
  have hl : lv_has ls 1 [(0, .ref a)] := hl
  have f28 := hts (.fieldLink RX4 28 "KnivesLaid$Tape" "end" "I") (List.mem_of_getElem? (i := 1) rfl)
  have inX4 : ∀ w ∈ u_ws RX4 TX4 6, w ∈ wsX4_next := in_at 26 _ _ rfl
  have f25 := hts (.fieldLink RX4 25 "KnivesLaid$Tape" "start" "I") (List.mem_of_getElem? (i := 2) rfl)
  have f15 := hts (.fieldLink RX4 15 "KnivesLaid$Tape" "length" "I") (List.mem_of_getElem? (i := 3) rfl)
  have f22 := hts (.fieldLink RX4 22 "KnivesLaid$Tape" "token" "I") (List.mem_of_getElem? (i := 5) rfl)
  have f9 := hts (.fieldLink RX4 9 "KnivesLaid$Tape" "bytes" "[I") (List.mem_of_getElem? (i := 4) rfl)
  skip
  have hln := ln_of ol
  have hl120 := hln.2
  have hlnn := hln.1
  refine lv_aload_n hx hb dX4_next_0 rfl (lv_at hl 0 rfl) ?_
  refine lv_aload_n hx hb dX4_next_1 rfl (lv_at hl 0 rfl) ?_
  refine va_get (ci := 3) (v := .int en) (C := RX4) (T := TX4) (N := 6) hx hb hts inX4 hown hK hP 0 rfl rfl 4 (by decide) f28 (fun _ h9 => h9) rfl dX4_next_2 ?_
  refine va_put (ci := 3) (v := .int en) (ty := .int) (C := RX4) (T := TX4) (N := 6) hx hb hts inX4 tyX4 tyX4_ok nmX4 hown hK hP (hD _ rfl) hS 0 rfl rfl 3 (by decide) f25 (fun _ h9 => h9) rfl rfl rfl rfl (Nat.le_of_ble_eq_true rfl) dX4_next_5 (fun H locs hP _ hS => ?_)
  have hP : va_P D vwCl (tpw cI a q bt ln tk en en nm) H := hP
  have hP : va_P D vwCl (tpw cI a q bt ln tk (nI cu) en nm) H := by rw [← he]; exact hP
  refine lpW (fun n (u : Nat) H locs ls => (u + n = 121) ∧ (u ≤ ix ln) ∧ (sT bt (ix ln) cu = sT bt (ix ln) u) ∧ va_P D vwCl (tpw cI a q bt ln tk (nI u) en nm) H ∧ va_S A s.heap H locs ∧ lv_has ls 1 [(0, .ref a)]) (121 - cu) (cu) ⟨by omega, hc, rfl, hP, hS, lv_sub hl [0] rfl⟩ (fun n ih u H locs ls hI => ?_)
  obtain ⟨i, rfl⟩ : ∃ z, z = u := ⟨_, rfl⟩
  obtain ⟨hi0, hi1, hi2, hP, hS, hl⟩ := hI
  have hi0 : i + n = 121 := hi0
  have hi1 : i ≤ ix ln := hi1
  have hi2 : sT bt (ix ln) cu = sT bt (ix ln) i := hi2
  have hl : lv_has ls 1 [(0, .ref a)] := hl
  have hP : va_P D vwCl (tpw cI a q bt ln tk (nI i) en nm) H := hP
  have hix : ix (nI i) = i := ix_nI (by omega)
  refine lv_aload_n hx hb dX4_next_8 rfl (lv_at hl 0 rfl) ?_
  refine va_get (ci := 3) (v := .int (nI i)) (C := RX4) (T := TX4) (N := 6) hx hb hts inX4 hown hK hP 0 rfl rfl 3 (by decide) f25 (fun _ h9 => h9) rfl dX4_next_9 ?_
  refine lv_aload_n hx hb dX4_next_12 rfl (lv_at hl 0 rfl) ?_
  refine va_get (ci := 3) (v := .int ln) (C := RX4) (T := TX4) (N := 6) hx hb hts inX4 hown hK hP 0 rfl rfl 1 (by decide) f15 (fun _ h9 => h9) rfl dX4_next_13 ?_
  refine lv_icmp_ge (tgt := 46) hx hb dX4_next_16 (by decide) (fun c_1 => ?_) (fun c_1 => ?_)
  · skip
    have c_1n := (cmp_le (a := (ix ln)) (b := i) hlnn rfl (by omega) (by omega)).mp c_1
    refine lv_aload_n hx hb dX4_next_46 rfl (lv_at hl 0 rfl) ?_
    refine lv_aload_n hx hb dX4_next_47 rfl (lv_at hl 0 rfl) ?_
    refine va_get (ci := 3) (v := .int (nI i)) (C := RX4) (T := TX4) (N := 6) hx hb hts inX4 hown hK hP 0 rfl rfl 3 (by decide) f25 (fun _ h9 => h9) rfl dX4_next_48 ?_
    refine va_put (ci := 3) (v := .int (nI i)) (ty := .int) (C := RX4) (T := TX4) (N := 6) hx hb hts inX4 tyX4 tyX4_ok nmX4 hown hK hP (hD _ rfl) hS 0 rfl rfl 4 (by decide) f28 (fun _ h9 => h9) rfl rfl rfl rfl (Nat.le_of_ble_eq_true rfl) dX4_next_51 (fun H locs hP _ hS => ?_)
    have hP : va_P D vwCl (tpw cI a q bt ln tk (nI i) (nI i) nm) H := hP
    refine lv_aload_n hx hb dX4_next_54 rfl (lv_at hl 0 rfl) ?_
    refine va_get (ci := 3) (v := .int (nI i)) (C := RX4) (T := TX4) (N := 6) hx hb hts inX4 hown hK hP 0 rfl rfl 3 (by decide) f25 (fun _ h9 => h9) rfl dX4_next_55 ?_
    refine lv_aload_n hx hb dX4_next_58 rfl (lv_at hl 0 rfl) ?_
    refine va_get (ci := 3) (v := .int ln) (C := RX4) (T := TX4) (N := 6) hx hb hts inX4 hown hK hP 0 rfl rfl 1 (by decide) f15 (fun _ h9 => h9) rfl dX4_next_59 ?_
    refine lv_icmp_lt (tgt := 73) hx hb dX4_next_62 (by decide) (fun c_2 => ?_) (fun c_2 => ?_)
    · skip
      have c_2n := (cmp_lt (a := i) (b := (ix ln)) rfl hlnn (by omega) (by omega)).mp c_2
      exact absurd (by omega : i < ix ln) (by omega)
    · skip
      have c_2n := mt (cmp_lt (a := i) (b := (ix ln)) rfl hlnn (by omega) (by omega)).mpr c_2
      refine lv_aload_n hx hb dX4_next_65 rfl (lv_at hl 0 rfl) ?_
      refine lv_iconst (v := 0) hx hb dX4_next_66 (by decide) ?_
      refine va_put (ci := 3) (v := .int 0) (ty := .int) (C := RX4) (T := TX4) (N := 6) hx hb hts inX4 tyX4 tyX4_ok nmX4 hown hK hP (hD _ rfl) hS 0 rfl rfl 2 (by decide) f22 (fun _ h9 => h9) rfl rfl rfl rfl (Nat.le_of_ble_eq_true rfl) dX4_next_67 (fun H locs hP _ hS => ?_)
      have hP : va_P D vwCl (tpw cI a q bt ln 0 (nI i) (nI i) nm) H := hP
      refine lv_goto (tgt := 150) hx hb dX4_next_70 (by decide) ?_
      exact W.vret hx hb hr (fun t ht hW => ⟨⟨(0, nI i, nI i, nm), rfl, (by exact tok_end hc hl120 hi2 (by omega)), by dsimp only; rw [ht]; exact hP⟩, hS.F ht⟩) hS.2.2 dX4_next_150
  · skip
    have c_1n := mt (cmp_le (a := (ix ln)) (b := i) hlnn rfl (by omega) (by omega)).mpr c_1
    refine lv_aload_n hx hb dX4_next_19 rfl (lv_at hl 0 rfl) ?_
    refine va_get (ci := 3) (v := .ref q) (C := RX4) (T := TX4) (N := 6) hx hb hts inX4 hown hK hP 0 rfl rfl 0 (by decide) f9 (fun _ h9 => h9) rfl dX4_next_20 ?_
    refine lv_aload_n hx hb dX4_next_23 rfl (lv_at hl 0 rfl) ?_
    refine va_get (ci := 3) (v := .int (nI i)) (C := RX4) (T := TX4) (N := 6) hx hb hts inX4 hown hK hP 0 rfl rfl 3 (by decide) f25 (fun _ h9 => h9) rfl dX4_next_24 ?_
    refine va_iald hx hb hK hP 1 0 rfl rfl (vp_in_nI (by omega) (by decide)) dX4_next_27 ?_
    refine lv_to (y := bt i) (congrArg bt hix) ?_
    refine lv_bipush (v := 32) hx hb dX4_next_28 (by decide) ?_
    refine lv_icmp_ne (tgt := 46) hx hb dX4_next_30 (by decide) (fun c_3 => ?_) (fun c_3 => ?_)
    · skip
      refine lv_aload_n hx hb dX4_next_46 rfl (lv_at hl 0 rfl) ?_
      refine lv_aload_n hx hb dX4_next_47 rfl (lv_at hl 0 rfl) ?_
      refine va_get (ci := 3) (v := .int (nI i)) (C := RX4) (T := TX4) (N := 6) hx hb hts inX4 hown hK hP 0 rfl rfl 3 (by decide) f25 (fun _ h9 => h9) rfl dX4_next_48 ?_
      refine va_put (ci := 3) (v := .int (nI i)) (ty := .int) (C := RX4) (T := TX4) (N := 6) hx hb hts inX4 tyX4 tyX4_ok nmX4 hown hK hP (hD _ rfl) hS 0 rfl rfl 4 (by decide) f28 (fun _ h9 => h9) rfl rfl rfl rfl (Nat.le_of_ble_eq_true rfl) dX4_next_51 (fun H locs hP _ hS => ?_)
      have hP : va_P D vwCl (tpw cI a q bt ln tk (nI i) (nI i) nm) H := hP
      refine lv_aload_n hx hb dX4_next_54 rfl (lv_at hl 0 rfl) ?_
      refine va_get (ci := 3) (v := .int (nI i)) (C := RX4) (T := TX4) (N := 6) hx hb hts inX4 hown hK hP 0 rfl rfl 3 (by decide) f25 (fun _ h9 => h9) rfl dX4_next_55 ?_
      refine lv_aload_n hx hb dX4_next_58 rfl (lv_at hl 0 rfl) ?_
      refine va_get (ci := 3) (v := .int ln) (C := RX4) (T := TX4) (N := 6) hx hb hts inX4 hown hK hP 0 rfl rfl 1 (by decide) f15 (fun _ h9 => h9) rfl dX4_next_59 ?_
      refine lv_icmp_lt (tgt := 73) hx hb dX4_next_62 (by decide) (fun c_4 => ?_) (fun c_4 => ?_)
      · skip
        have c_4n := (cmp_lt (a := i) (b := (ix ln)) rfl hlnn (by omega) (by omega)).mp c_4
        refine lv_aload_n hx hb dX4_next_73 rfl (lv_at hl 0 rfl) ?_
        refine va_get (ci := 3) (v := .ref q) (C := RX4) (T := TX4) (N := 6) hx hb hts inX4 hown hK hP 0 rfl rfl 0 (by decide) f9 (fun _ h9 => h9) rfl dX4_next_74 ?_
        refine lv_aload_n hx hb dX4_next_77 rfl (lv_at hl 0 rfl) ?_
        refine va_get (ci := 3) (v := .int (nI i)) (C := RX4) (T := TX4) (N := 6) hx hb hts inX4 hown hK hP 0 rfl rfl 3 (by decide) f25 (fun _ h9 => h9) rfl dX4_next_78 ?_
        refine va_iald hx hb hK hP 1 0 rfl rfl (vp_in_nI (by omega) (by decide)) dX4_next_81 ?_
        refine lv_to (y := bt i) (congrArg bt hix) ?_
        refine callE (W.runS (As := [.int (bt i)]) (rest := []) ⟨hx, hb, hml, hown, hts⟩ (k_X4_isLetter l (bt i)) (va_cwS 1 hts gX4_next_X4_isLetter rfl rfl rfl (by decide +kernel) ⟨Nat.le_of_ble_eq_true rfl, Nat.le_of_ble_eq_true rfl⟩) ⟨PcP_fb, fun U _ _ => ⟨rfl, trivial⟩⟩ rfl rfl hl.1 rfl (lv_room (Nat.le_of_ble_eq_true rfl)) dX4_next_82 ⟨Nat.zero_le _, Nat.zero_le _⟩) ?_
        refine lv_if_eq (tgt := 95) hx hb dX4_next_85 (by decide) (fun c_5 => ?_) (fun c_5 => ?_)
        · skip
          have c_5b := bI_0 c_5
          refine lv_aload_n hx hb dX4_next_95 rfl (lv_at hl 0 rfl) ?_
          refine va_get (ci := 3) (v := .ref q) (C := RX4) (T := TX4) (N := 6) hx hb hts inX4 hown hK hP 0 rfl rfl 0 (by decide) f9 (fun _ h9 => h9) rfl dX4_next_96 ?_
          refine lv_aload_n hx hb dX4_next_99 rfl (lv_at hl 0 rfl) ?_
          refine va_get (ci := 3) (v := .int (nI i)) (C := RX4) (T := TX4) (N := 6) hx hb hts inX4 hown hK hP 0 rfl rfl 3 (by decide) f25 (fun _ h9 => h9) rfl dX4_next_100 ?_
          refine va_iald hx hb hK hP 1 0 rfl rfl (vp_in_nI (by omega) (by decide)) dX4_next_103 ?_
          refine lv_to (y := bt i) (congrArg bt hix) ?_
          refine callE (W.runS (As := [.int (bt i)]) (rest := []) ⟨hx, hb, hml, hown, hts⟩ (k_X4_isDigit l (bt i)) (va_cwS 1 hts gX4_next_X4_isDigit rfl rfl rfl (by decide +kernel) ⟨Nat.le_of_ble_eq_true rfl, Nat.le_of_ble_eq_true rfl⟩) ⟨PcP_fb, fun U _ _ => ⟨rfl, trivial⟩⟩ rfl rfl hl.1 rfl (lv_room (Nat.le_of_ble_eq_true rfl)) dX4_next_104 ⟨Nat.zero_le _, Nat.zero_le _⟩) ?_
          refine lv_if_eq (tgt := 117) hx hb dX4_next_107 (by decide) (fun c_6 => ?_) (fun c_6 => ?_)
          · skip
            have c_6b := bI_0 c_6
            refine lv_aload_n hx hb dX4_next_117 rfl (lv_at hl 0 rfl) ?_
            refine lv_aload_n hx hb dX4_next_118 rfl (lv_at hl 0 rfl) ?_
            refine va_get (ci := 3) (v := .ref q) (C := RX4) (T := TX4) (N := 6) hx hb hts inX4 hown hK hP 0 rfl rfl 0 (by decide) f9 (fun _ h9 => h9) rfl dX4_next_119 ?_
            refine lv_aload_n hx hb dX4_next_122 rfl (lv_at hl 0 rfl) ?_
            refine va_get (ci := 3) (v := .int (nI i)) (C := RX4) (T := TX4) (N := 6) hx hb hts inX4 hown hK hP 0 rfl rfl 3 (by decide) f25 (fun _ h9 => h9) rfl dX4_next_123 ?_
            refine va_iald hx hb hK hP 1 0 rfl rfl (vp_in_nI (by omega) (by decide)) dX4_next_126 ?_
            refine lv_to (y := bt i) (congrArg bt hix) ?_
            refine lv_bipush (v := 59) hx hb dX4_next_127 (by decide) ?_
            refine jn (fun v_7 : Int32 => v_7 = (if (bt i) = 59 then 3 else 4 : Int32)) (fun v_7 => F0 m 137 ls [.int v_7, .ref a]) (fun Jv_7 => ?_) (fun v_7 ev_7 => ?_)
            · skip
              refine lv_icmp_ne (tgt := 136) hx hb dX4_next_129 (by decide) (fun c_8 => ?_) (fun c_8 => ?_)
              · skip
                refine lv_iconst (v := 4) hx hb dX4_next_136 (by decide) ?_
                exact Jv_7 _ (by rw [if_neg c_8])
              · skip
                refine lv_iconst (v := 3) hx hb dX4_next_132 (by decide) ?_
                refine lv_goto (tgt := 137) hx hb dX4_next_133 (by decide) ?_
                exact Jv_7 _ (by rw [if_pos c_8])
            refine va_put (ci := 3) (v := .int v_7) (ty := .int) (C := RX4) (T := TX4) (N := 6) hx hb hts inX4 tyX4 tyX4_ok nmX4 hown hK hP (hD _ rfl) hS 0 rfl rfl 2 (by decide) f22 (fun _ h9 => h9) rfl rfl rfl rfl (Nat.le_of_ble_eq_true rfl) dX4_next_137 (fun H locs hP _ hS => ?_)
            have hP : va_P D vwCl (tpw cI a q bt ln v_7 (nI i) (nI i) nm) H := hP
            refine lv_aload_n hx hb dX4_next_140 rfl (lv_at hl 0 rfl) ?_
            refine lv_aload_n hx hb dX4_next_141 rfl (lv_at hl 0 rfl) ?_
            refine va_get (ci := 3) (v := .int (nI i)) (C := RX4) (T := TX4) (N := 6) hx hb hts inX4 hown hK hP 0 rfl rfl 3 (by decide) f25 (fun _ h9 => h9) rfl dX4_next_142 ?_
            refine lv_iconst (v := 1) hx hb dX4_next_145 (by decide) ?_
            refine lv_iadd hx hb dX4_next_146 ?_
            refine va_put (ci := 3) (v := .int ((nI i) + 1)) (ty := .int) (C := RX4) (T := TX4) (N := 6) hx hb hts inX4 tyX4 tyX4_ok nmX4 hown hK hP (hD _ rfl) hS 0 rfl rfl 4 (by decide) f28 (fun _ h9 => h9) rfl rfl rfl rfl (Nat.le_of_ble_eq_true rfl) dX4_next_147 (fun H locs hP _ hS => ?_)
            have hP : va_P D vwCl (tpw cI a q bt ln v_7 (nI i) ((nI i) + 1) nm) H := hP
            exact W.vret hx hb hr (fun t ht hW => ⟨⟨(v_7, nI i, ((nI i) + 1), nm), rfl, (by exact tok_s hc hl120 hi2 c_3 (by omega) c_5b c_6b (ev_7.trans (if_iF _ _ _))), by dsimp only; rw [ht]; exact hP⟩, hS.F ht⟩) hS.2.2 dX4_next_150
          · skip
            have c_6b := bI_n c_6
            refine lv_aload_n hx hb dX4_next_110 rfl (lv_at hl 0 rfl) ?_
            refine callMv (va_runV (As := []) (rest := []) ⟨hx, hb, hml, hown, hts⟩ (k_X4_nextNumber l D cI cL cS a q bt ln tk (nI i) (nI i) nm (va_DT (hD (tpw cI a q bt ln tk (nI i) (nI i) nm) rfl) rfl) ol (vp_in_nI (by omega) (by decide)) (by rw [hix]; omega)) (cwV 0 hts gX4_next_X4_nextNumber rfl rfl rfl (by decide +kernel) ⟨Nat.le_of_ble_eq_true rfl, Nat.le_of_ble_eq_true rfl⟩) ⟨PcR_fb, va_recv hK hP (ci := 3) (q0 := 0) rfl rfl, PcR_pre hP hK⟩ rfl rfl hl.1 rfl (lv_room (Nat.le_of_ble_eq_true rfl)) dX4_next_111 ⟨Nat.zero_le _, Nat.zero_le _⟩) hP (hD _ rfl) hS 0 2 rfl (fun u_9 H locs hu_9 hP hS => ?_)
            have hP : va_P D vwCl (tpw cI a q bt ln 2 (nI i) (nI (dE bt (ix ln) (ix (nI i)))) (nI (nVs bt (dE bt (ix ln) (ix (nI i)) - ix (nI i)) (ix (nI i)) 0))) H := hP
            refine lv_goto (tgt := 150) hx hb dX4_next_114 (by decide) ?_
            exact W.vret hx hb hr (fun t ht hW => ⟨⟨(2, nI i, nI (dE bt (ix ln) (ix (nI i))), nI (nVs bt (dE bt (ix ln) (ix (nI i)) - ix (nI i)) (ix (nI i)) 0)), rfl, (by exact tok_d hc hl120 hi2 c_3 (by omega) c_5b c_6b), by dsimp only; rw [ht]; exact hP⟩, hS.F ht⟩) hS.2.2 dX4_next_150
        · skip
          have c_5b := bI_n c_5
          refine lv_aload_n hx hb dX4_next_88 rfl (lv_at hl 0 rfl) ?_
          refine callMv (va_runV (As := []) (rest := []) ⟨hx, hb, hml, hown, hts⟩ (k_X4_nextWord l D cI cL cS a q bt ln tk (nI i) (nI i) nm (va_DT (hD (tpw cI a q bt ln tk (nI i) (nI i) nm) rfl) rfl) ol (vp_in_nI (by omega) (by decide)) (by rw [hix]; omega)) (cwV 0 hts gX4_next_X4_nextWord rfl rfl rfl (by decide +kernel) ⟨Nat.le_of_ble_eq_true rfl, Nat.le_of_ble_eq_true rfl⟩) ⟨PcR_fb, va_recv hK hP (ci := 3) (q0 := 0) rfl rfl, PcR_pre hP hK⟩ rfl rfl hl.1 rfl (lv_room (Nat.le_of_ble_eq_true rfl)) dX4_next_89 ⟨Nat.zero_le _, Nat.zero_le _⟩) hP (hD _ rfl) hS 0 2 rfl (fun u_11 H locs hu_11 hP hS => ?_)
          have hP : va_P D vwCl (tpw cI a q bt ln 1 (nI i) (nI (wE bt (ix ln) (ix (nI i)))) nm) H := hP
          refine lv_goto (tgt := 150) hx hb dX4_next_92 (by decide) ?_
          exact W.vret hx hb hr (fun t ht hW => ⟨⟨(1, nI i, nI (wE bt (ix ln) (ix (nI i))), nm), rfl, (by exact tok_w hc hl120 hi2 c_3 (by omega) c_5b), by dsimp only; rw [ht]; exact hP⟩, hS.F ht⟩) hS.2.2 dX4_next_150
      · skip
        have c_4n := mt (cmp_lt (a := i) (b := (ix ln)) rfl hlnn (by omega) (by omega)).mpr c_4
        exact absurd (by omega : ix ln ≤ i) (by omega)
    · skip
      refine lv_aload_n hx hb dX4_next_33 rfl (lv_at hl 0 rfl) ?_
      refine lv_dup hx hb dX4_next_34 rfl ?_
      refine va_get (ci := 3) (v := .int (nI i)) (C := RX4) (T := TX4) (N := 6) hx hb hts inX4 hown hK hP 0 rfl rfl 3 (by decide) f25 (fun _ h9 => h9) rfl dX4_next_35 ?_
      refine lv_iconst (v := 1) hx hb dX4_next_38 (by decide) ?_
      refine lv_iadd hx hb dX4_next_39 ?_
      refine va_put (ci := 3) (v := .int ((nI i) + 1)) (ty := .int) (C := RX4) (T := TX4) (N := 6) hx hb hts inX4 tyX4 tyX4_ok nmX4 hown hK hP (hD _ rfl) hS 0 rfl rfl 3 (by decide) f25 (fun _ h9 => h9) rfl rfl rfl rfl (Nat.le_of_ble_eq_true rfl) dX4_next_40 (fun H locs hP _ hS => ?_)
      have hP : va_P D vwCl (tpw cI a q bt ln tk ((nI i) + 1) en nm) H := hP
      refine lv_goto (tgt := 8) hx hb dX4_next_43 (by decide) ?_
      have hP : va_P D vwCl (tpw cI a q bt ln tk (nI (i + 1)) en nm) H := by rw [← nI_1]; exact hP
      exact ih (n - 1) (by omega) (i + 1) H locs ls ⟨by omega, by omega, by rw [hi2]; exact sT_y (by omega) c_3, hP, hS, lv_sub hl [0] rfl⟩
