set_option maxRecDepth 100000 in
set_option maxHeartbeats 4000000 in
theorem k_X4_rewind (l : Launch) (D : va_G) (cI cL cS : ClassId) (a q : Nat) (bt : FI) (ln tk sb en nm : Int32) (dj : va_D (fun _ => True) [(a, .inr (0, [])), (q, .inr (0, []))])  : Met l yX4_rewind wsX4_rewind { frames := 0, cells := 0, slots := 0, locals := 0 } (PcR D vwCl (tyG cI cL cS) [.ref a] (tpw cI a q bt ln tk sb en nm)) (va_Qv (fun (u : Unit) => True) (fun u t => va_P D vwCl (tpw cI a q bt ln 0 0 0 0) t.heap) (Aof (tpw cI a q bt ln tk sb en nm))) 0 0 (Aof (tpw cI a q bt ln tk sb en nm)) := by
  refine Met.ofW (cc := cX4_rewind) (maxL := 1) (ret := none) (by decide) rfl ?_
  intro p e s m args below meth c s₁ B hml hv
  obtain ⟨rfl, hP, hK⟩ := hv
  have hx := B.exec
  have hb := B.bytes
  have hr := B.returns
  have hts := atoms_spec (ws := wsX4_rewind) B.pre
  have hown : s.vm.findClass RX4 = some m.cls := findClass_of_methodNamed B.named
  have hlocks := B.notSynchronized
  obtain ⟨A, hAe⟩ : ∃ A, A = Aof (tpw cI a q bt ln tk sb en nm) := ⟨_, rfl⟩
  rw [← hAe]
  have hD : ∀ ws' : va_W, ws'.map Prod.fst = (tpw cI a q bt ln tk sb en nm).map Prod.fst → va_D A ws' := fun ws' e => by rw [hAe]; exact va_D_adr (va_D_self (va_D_adr dj rfl)) e
  have hS : va_S A s.heap s.heap [] := va_S.rf
  have hP : va_P D vwCl (tpw cI a q bt ln tk sb en nm) s.heap := hP
  have hl := lv_entry ([.ref a]) (n := 1) (Nat.le_of_ble_eq_true rfl)
  rw [lg_entry_eq]
  generalize (lg_sl ([.ref a]) ++ List.replicate (1 - (lg_sl ([.ref a])).length) Slot.unset).toArray = ls at hl ⊢
  have hl : lv_has ls 1 [(0, .ref a)] := hl
  have f22 := hts (.fieldLink RX4 22 "KnivesLaid$Tape" "token" "I") (List.mem_of_getElem? (i := 1) rfl)
  have inX4 : ∀ w ∈ u_ws RX4 TX4 6, w ∈ wsX4_rewind := in_at 5 _ _ rfl
  have f25 := hts (.fieldLink RX4 25 "KnivesLaid$Tape" "start" "I") (List.mem_of_getElem? (i := 2) rfl)
  have f28 := hts (.fieldLink RX4 28 "KnivesLaid$Tape" "end" "I") (List.mem_of_getElem? (i := 3) rfl)
  have f31 := hts (.fieldLink RX4 31 "KnivesLaid$Tape" "number" "I") (List.mem_of_getElem? (i := 4) rfl)
  skip
  refine lv_aload_n hx hb dX4_rewind_0 rfl (lv_at hl 0 rfl) ?_
  refine lv_iconst (v := 0) hx hb dX4_rewind_1 (by decide) ?_
  refine va_put (ci := 2) (v := .int 0) (ty := .int) (C := RX4) (T := TX4) (N := 6) hx hb hts inX4 tyX4 tyX4_ok nmX4 hown hK hP (hD _ rfl) hS 0 rfl rfl 2 (by decide) f22 (fun _ h9 => h9) rfl rfl rfl rfl (Nat.le_of_ble_eq_true rfl) dX4_rewind_2 (fun H locs hP _ hS => ?_)
  have hP : va_P D vwCl (tpw cI a q bt ln 0 sb en nm) H := hP
  refine lv_aload_n hx hb dX4_rewind_5 rfl (lv_at hl 0 rfl) ?_
  refine lv_iconst (v := 0) hx hb dX4_rewind_6 (by decide) ?_
  refine va_put (ci := 2) (v := .int 0) (ty := .int) (C := RX4) (T := TX4) (N := 6) hx hb hts inX4 tyX4 tyX4_ok nmX4 hown hK hP (hD _ rfl) hS 0 rfl rfl 3 (by decide) f25 (fun _ h9 => h9) rfl rfl rfl rfl (Nat.le_of_ble_eq_true rfl) dX4_rewind_7 (fun H locs hP _ hS => ?_)
  have hP : va_P D vwCl (tpw cI a q bt ln 0 0 en nm) H := hP
  refine lv_aload_n hx hb dX4_rewind_10 rfl (lv_at hl 0 rfl) ?_
  refine lv_iconst (v := 0) hx hb dX4_rewind_11 (by decide) ?_
  refine va_put (ci := 2) (v := .int 0) (ty := .int) (C := RX4) (T := TX4) (N := 6) hx hb hts inX4 tyX4 tyX4_ok nmX4 hown hK hP (hD _ rfl) hS 0 rfl rfl 4 (by decide) f28 (fun _ h9 => h9) rfl rfl rfl rfl (Nat.le_of_ble_eq_true rfl) dX4_rewind_12 (fun H locs hP _ hS => ?_)
  have hP : va_P D vwCl (tpw cI a q bt ln 0 0 0 nm) H := hP
  refine lv_aload_n hx hb dX4_rewind_15 rfl (lv_at hl 0 rfl) ?_
  refine lv_iconst (v := 0) hx hb dX4_rewind_16 (by decide) ?_
  refine va_put (ci := 2) (v := .int 0) (ty := .int) (C := RX4) (T := TX4) (N := 6) hx hb hts inX4 tyX4 tyX4_ok nmX4 hown hK hP (hD _ rfl) hS 0 rfl rfl 5 (by decide) f31 (fun _ h9 => h9) rfl rfl rfl rfl (Nat.le_of_ble_eq_true rfl) dX4_rewind_17 (fun H locs hP _ hS => ?_)
  have hP : va_P D vwCl (tpw cI a q bt ln 0 0 0 0) H := hP
  exact W.vret hx hb hr (fun t ht hW => ⟨⟨(), rfl, (by trivial), by dsimp only; rw [ht]; exact hP⟩, hS.F ht⟩) hS.2.2 dX4_rewind_20

set_option maxRecDepth 100000 in
set_option maxHeartbeats 4000000 in
theorem k_X4_tokenWith (l : Launch) (x0 : Int32) : Met l yX4_tokenWith wsX4_tokenWith { frames := 0, cells := 0, slots := 0, locals := 0 } (PcP [.int x0]) (vp_Si (fun r => r = tkO x0)) 0 0 (fun _ => False) := by
  refine Met.ofW (cc := cX4_tokenWith) (maxL := 1) (ret := (some .int)) (by decide) rfl ?_
  intro p e s m args below meth c s₁ B hml hv
  obtain ⟨rfl, -⟩ := hv
  have hx := B.exec
  have hb := B.bytes
  have hr := B.returns
  have hts := atoms_spec (ws := wsX4_tokenWith) B.pre
  have hown : s.vm.findClass RX4 = some m.cls := findClass_of_methodNamed B.named
  have hlocks := B.notSynchronized
  have hl := lv_entry ([.int x0]) (n := 1) (Nat.le_of_ble_eq_true rfl)
  rw [lg_entry_eq]
  generalize (lg_sl ([.int x0]) ++ List.replicate (1 - (lg_sl ([.int x0])).length) Slot.unset).toArray = ls at hl ⊢
  have hl : lv_has ls 1 [(0, .int x0)] := hl
  refine lv_iload_n hx hb dX4_tokenWith_0 rfl (lv_at hl 0 rfl) ?_
  refine lv_bipush (v := 97) hx hb dX4_tokenWith_1 (by decide) ?_
  refine lv_icmp_lt (tgt := 14) hx hb dX4_tokenWith_3 (by decide) (fun c_1 => ?_) (fun c_1 => ?_)
  · skip
    refine lv_iload_n hx hb dX4_tokenWith_14 rfl (lv_at hl 0 rfl) ?_
    refine lv_bipush (v := 48) hx hb dX4_tokenWith_15 (by decide) ?_
    refine lv_icmp_lt (tgt := 28) hx hb dX4_tokenWith_17 (by decide) (fun c_2 => ?_) (fun c_2 => ?_)
    · skip
      refine lv_iload_n hx hb dX4_tokenWith_28 rfl (lv_at hl 0 rfl) ?_
      refine lv_bipush (v := 59) hx hb dX4_tokenWith_29 (by decide) ?_
      refine lv_icmp_ne (tgt := 38) hx hb dX4_tokenWith_31 (by decide) (fun c_3 => ?_) (fun c_3 => ?_)
      · skip
        refine lv_iconst (v := 4) hx hb dX4_tokenWith_38 (by decide) ?_
        exact W.iret hx hb hr (fun t ht hW => ⟨_, rfl, (by exact ((iF_f (fun h => h.1 c_1)).trans ((iF_f (fun h => h.1 c_2)).trans (iF_f c_3))).symm), ht⟩) (fun _ h => absurd h List.not_mem_nil) dX4_tokenWith_39
      · skip
        refine lv_iconst (v := 3) hx hb dX4_tokenWith_34 (by decide) ?_
        refine lv_goto (tgt := 39) hx hb dX4_tokenWith_35 (by decide) ?_
        exact W.iret hx hb hr (fun t ht hW => ⟨_, rfl, (by exact ((iF_f (fun h => h.1 c_1)).trans ((iF_f (fun h => h.1 c_2)).trans (iF_t c_3))).symm), ht⟩) (fun _ h => absurd h List.not_mem_nil) dX4_tokenWith_39
    · skip
      refine lv_iload_n hx hb dX4_tokenWith_20 rfl (lv_at hl 0 rfl) ?_
      refine lv_bipush (v := 57) hx hb dX4_tokenWith_21 (by decide) ?_
      refine lv_icmp_gt (tgt := 28) hx hb dX4_tokenWith_23 (by decide) (fun c_4 => ?_) (fun c_4 => ?_)
      · skip
        refine lv_iload_n hx hb dX4_tokenWith_28 rfl (lv_at hl 0 rfl) ?_
        refine lv_bipush (v := 59) hx hb dX4_tokenWith_29 (by decide) ?_
        refine lv_icmp_ne (tgt := 38) hx hb dX4_tokenWith_31 (by decide) (fun c_5 => ?_) (fun c_5 => ?_)
        · skip
          refine lv_iconst (v := 4) hx hb dX4_tokenWith_38 (by decide) ?_
          exact W.iret hx hb hr (fun t ht hW => ⟨_, rfl, (by exact ((iF_f (fun h => h.1 c_1)).trans ((iF_f (fun h => h.2 c_4)).trans (iF_f c_5))).symm), ht⟩) (fun _ h => absurd h List.not_mem_nil) dX4_tokenWith_39
        · skip
          refine lv_iconst (v := 3) hx hb dX4_tokenWith_34 (by decide) ?_
          refine lv_goto (tgt := 39) hx hb dX4_tokenWith_35 (by decide) ?_
          exact W.iret hx hb hr (fun t ht hW => ⟨_, rfl, (by exact ((iF_f (fun h => h.1 c_1)).trans ((iF_f (fun h => h.2 c_4)).trans (iF_t c_5))).symm), ht⟩) (fun _ h => absurd h List.not_mem_nil) dX4_tokenWith_39
      · skip
        refine lv_iconst (v := 2) hx hb dX4_tokenWith_26 (by decide) ?_
        exact W.iret hx hb hr (fun t ht hW => ⟨_, rfl, (by exact ((iF_f (fun h => h.1 c_1)).trans (iF_t ⟨c_2, c_4⟩)).symm), ht⟩) (fun _ h => absurd h List.not_mem_nil) dX4_tokenWith_27
  · skip
    refine lv_iload_n hx hb dX4_tokenWith_6 rfl (lv_at hl 0 rfl) ?_
    refine lv_bipush (v := 122) hx hb dX4_tokenWith_7 (by decide) ?_
    refine lv_icmp_gt (tgt := 14) hx hb dX4_tokenWith_9 (by decide) (fun c_6 => ?_) (fun c_6 => ?_)
    · skip
      refine lv_iload_n hx hb dX4_tokenWith_14 rfl (lv_at hl 0 rfl) ?_
      refine lv_bipush (v := 48) hx hb dX4_tokenWith_15 (by decide) ?_
      refine lv_icmp_lt (tgt := 28) hx hb dX4_tokenWith_17 (by decide) (fun c_7 => ?_) (fun c_7 => ?_)
      · skip
        refine lv_iload_n hx hb dX4_tokenWith_28 rfl (lv_at hl 0 rfl) ?_
        refine lv_bipush (v := 59) hx hb dX4_tokenWith_29 (by decide) ?_
        refine lv_icmp_ne (tgt := 38) hx hb dX4_tokenWith_31 (by decide) (fun c_8 => ?_) (fun c_8 => ?_)
        · skip
          refine lv_iconst (v := 4) hx hb dX4_tokenWith_38 (by decide) ?_
          exact W.iret hx hb hr (fun t ht hW => ⟨_, rfl, (by exact ((iF_f (fun h => h.2 c_6)).trans ((iF_f (fun h => h.1 c_7)).trans (iF_f c_8))).symm), ht⟩) (fun _ h => absurd h List.not_mem_nil) dX4_tokenWith_39
        · skip
          refine lv_iconst (v := 3) hx hb dX4_tokenWith_34 (by decide) ?_
          refine lv_goto (tgt := 39) hx hb dX4_tokenWith_35 (by decide) ?_
          exact W.iret hx hb hr (fun t ht hW => ⟨_, rfl, (by exact ((iF_f (fun h => h.2 c_6)).trans ((iF_f (fun h => h.1 c_7)).trans (iF_t c_8))).symm), ht⟩) (fun _ h => absurd h List.not_mem_nil) dX4_tokenWith_39
      · skip
        refine lv_iload_n hx hb dX4_tokenWith_20 rfl (lv_at hl 0 rfl) ?_
        refine lv_bipush (v := 57) hx hb dX4_tokenWith_21 (by decide) ?_
        refine lv_icmp_gt (tgt := 28) hx hb dX4_tokenWith_23 (by decide) (fun c_9 => ?_) (fun c_9 => ?_)
        · skip
          refine lv_iload_n hx hb dX4_tokenWith_28 rfl (lv_at hl 0 rfl) ?_
          refine lv_bipush (v := 59) hx hb dX4_tokenWith_29 (by decide) ?_
          refine lv_icmp_ne (tgt := 38) hx hb dX4_tokenWith_31 (by decide) (fun c_10 => ?_) (fun c_10 => ?_)
          · skip
            refine lv_iconst (v := 4) hx hb dX4_tokenWith_38 (by decide) ?_
            exact W.iret hx hb hr (fun t ht hW => ⟨_, rfl, (by exact ((iF_f (fun h => h.2 c_6)).trans ((iF_f (fun h => h.2 c_9)).trans (iF_f c_10))).symm), ht⟩) (fun _ h => absurd h List.not_mem_nil) dX4_tokenWith_39
          · skip
            refine lv_iconst (v := 3) hx hb dX4_tokenWith_34 (by decide) ?_
            refine lv_goto (tgt := 39) hx hb dX4_tokenWith_35 (by decide) ?_
            exact W.iret hx hb hr (fun t ht hW => ⟨_, rfl, (by exact ((iF_f (fun h => h.2 c_6)).trans ((iF_f (fun h => h.2 c_9)).trans (iF_t c_10))).symm), ht⟩) (fun _ h => absurd h List.not_mem_nil) dX4_tokenWith_39
        · skip
          refine lv_iconst (v := 2) hx hb dX4_tokenWith_26 (by decide) ?_
          exact W.iret hx hb hr (fun t ht hW => ⟨_, rfl, (by exact ((iF_f (fun h => h.2 c_6)).trans (iF_t ⟨c_7, c_9⟩)).symm), ht⟩) (fun _ h => absurd h List.not_mem_nil) dX4_tokenWith_27
    · skip
      refine lv_iconst (v := 1) hx hb dX4_tokenWith_12 (by decide) ?_
      exact W.iret hx hb hr (fun t ht hW => ⟨_, rfl, (by exact (iF_t ⟨c_1, c_6⟩).symm), ht⟩) (fun _ h => absurd h List.not_mem_nil) dX4_tokenWith_13

set_option maxRecDepth 100000 in
set_option maxHeartbeats 4000000 in
theorem k_X4_next (l : Launch) (D : va_G) (cI cL cS : ClassId) (a q : Nat) (bt : FI) (ln tk sb en nm : Int32) (dj : va_D (fun _ => True) [(a, .inr (0, [])), (q, .inr (0, []))]) (cu : Nat) (ol : vp_in ln 121) (he : en = nI cu) (hc : cu ≤ ix ln) : Met l yX4_next wsX4_next { frames := 1, cells := 0, slots := 0, locals := 24 } (PcR D vwCl (tyG cI cL cS) [.ref a] (tpw cI a q bt ln tk sb en nm)) (va_Qv (fun (u : Int32 × Int32 × Int32 × Int32) => Tok bt (ix ln) cu u.1 u.2.1 u.2.2.1 u.2.2.2) (fun u t => va_P D vwCl (tpw cI a q bt ln u.1 u.2.1 u.2.2.1 u.2.2.2) t.heap) (Aof (tpw cI a q bt ln tk sb en nm))) 0 0 (Aof (tpw cI a q bt ln tk sb en nm)) := by
  refine Met.ofW (cc := cX4_next) (maxL := 1) (ret := none) (by decide) rfl ?_
  intro p e s m args below meth c s₁ B hml hv
  obtain ⟨rfl, hP, hK⟩ := hv
  have hx := B.exec
  have hb := B.bytes
  have hr := B.returns
  have hts := atoms_spec (ws := wsX4_next) B.pre
  have hown : s.vm.findClass RX4 = some m.cls := findClass_of_methodNamed B.named
  have hlocks := B.notSynchronized
  obtain ⟨A, hAe⟩ : ∃ A, A = Aof (tpw cI a q bt ln tk sb en nm) := ⟨_, rfl⟩
  rw [← hAe]
  have hD : ∀ ws' : va_W, ws'.map Prod.fst = (tpw cI a q bt ln tk sb en nm).map Prod.fst → va_D A ws' := fun ws' e => by rw [hAe]; exact va_D_adr (va_D_self (va_D_adr dj rfl)) e
  have hS : va_S A s.heap s.heap [] := va_S.rf
  have hP : va_P D vwCl (tpw cI a q bt ln tk sb en nm) s.heap := hP
  have hl := lv_entry ([.ref a]) (n := 1) (Nat.le_of_ble_eq_true rfl)
  rw [lg_entry_eq]
  generalize (lg_sl ([.ref a]) ++ List.replicate (1 - (lg_sl ([.ref a])).length) Slot.unset).toArray = ls at hl ⊢
  have hl : lv_has ls 1 [(0, .ref a)] := hl
  have f28 := hts (.fieldLink RX4 28 "KnivesLaid$Tape" "end" "I") (List.mem_of_getElem? (i := 1) rfl)
  have inX4 : ∀ w ∈ u_ws RX4 TX4 6, w ∈ wsX4_next := in_at 15 _ _ rfl
  have f25 := hts (.fieldLink RX4 25 "KnivesLaid$Tape" "start" "I") (List.mem_of_getElem? (i := 2) rfl)
  have f15 := hts (.fieldLink RX4 15 "KnivesLaid$Tape" "length" "I") (List.mem_of_getElem? (i := 3) rfl)
  have f31 := hts (.fieldLink RX4 31 "KnivesLaid$Tape" "number" "I") (List.mem_of_getElem? (i := 5) rfl)
  have f9 := hts (.fieldLink RX4 9 "KnivesLaid$Tape" "bytes" "[I") (List.mem_of_getElem? (i := 4) rfl)
  have f22 := hts (.fieldLink RX4 22 "KnivesLaid$Tape" "token" "I") (List.mem_of_getElem? (i := 6) rfl)
  have ml38 := hts (.methodLink RX4 38 Lib.Math.min.name) (List.mem_of_getElem? (i := 7) rfl)
  have stmin := hts (.static Lib.Math.min.name) (List.mem_of_getElem? (i := 8) rfl)
  have iMath := hts (.initialized "java/lang/Math") (List.mem_of_getElem? (i := 9) rfl)
  have comin := hts (.code Lib.Math.min.name Lib.Math.min.code 2 (some .int)) (List.mem_of_getElem? (i := 10) rfl)
  skip
  have hln := ln_of ol
  have hl120 := hln.2
  have hlnn := hln.1
  refine lv_aload_n hx hb dX4_next_0 rfl (lv_at hl 0 rfl) ?_
  refine lv_aload_n hx hb dX4_next_1 rfl (lv_at hl 0 rfl) ?_
  refine va_get (ci := 2) (v := .int en) (C := RX4) (T := TX4) (N := 6) hx hb hts inX4 hown hK hP 0 rfl rfl 4 (by decide) f28 (fun _ h9 => h9) rfl dX4_next_2 ?_
  refine va_put (ci := 2) (v := .int en) (ty := .int) (C := RX4) (T := TX4) (N := 6) hx hb hts inX4 tyX4 tyX4_ok nmX4 hown hK hP (hD _ rfl) hS 0 rfl rfl 3 (by decide) f25 (fun _ h9 => h9) rfl rfl rfl rfl (Nat.le_of_ble_eq_true rfl) dX4_next_5 (fun H locs hP _ hS => ?_)
  have hP : va_P D vwCl (tpw cI a q bt ln tk en en nm) H := hP
  have hP : va_P D vwCl (tpw cI a q bt ln tk (nI cu) en nm) H := by rw [← he]; exact hP
  refine lpW (fun n (u : Nat) H locs ls => (u + n = 121) ∧ (u ≤ ix ln) ∧ (sT bt (ix ln) cu = sT bt (ix ln) u) ∧ va_P D vwCl (tpw cI a q bt ln tk (nI u) en nm) H ∧ va_S A s.heap H locs ∧ lv_has ls 1 [(0, .ref a)]) (121 - cu) (cu) ⟨by omega, hc, rfl, hP, hS, lv_sub hl [0] rfl⟩ (fun n ih u H locs ls hI => ?_)
  obtain ⟨i, rfl⟩ : ∃ z, z = u := ⟨_, rfl⟩
  obtain ⟨hi0, hi1, hi2, hP, hS, hl⟩ := hI
  have hi0 : i + n = 121 := hi0
  have hi1 : i ≤ ix ln := hi1
  have hi2 : sT bt (ix ln) cu = sT bt (ix ln) i := hi2
  have hl : lv_has ls 1 [(0, .ref a)] := hl
  have hP : va_P D vwCl (tpw cI a q bt ln tk (nI i) en nm) H := hP
  have hix : ix (nI i) = i := ix_nI (by omega)
  refine lv_aload_n hx hb dX4_next_8 rfl (lv_at hl 0 rfl) ?_
  refine va_get (ci := 2) (v := .int (nI i)) (C := RX4) (T := TX4) (N := 6) hx hb hts inX4 hown hK hP 0 rfl rfl 3 (by decide) f25 (fun _ h9 => h9) rfl dX4_next_9 ?_
  refine lv_aload_n hx hb dX4_next_12 rfl (lv_at hl 0 rfl) ?_
  refine va_get (ci := 2) (v := .int ln) (C := RX4) (T := TX4) (N := 6) hx hb hts inX4 hown hK hP 0 rfl rfl 1 (by decide) f15 (fun _ h9 => h9) rfl dX4_next_13 ?_
  refine lv_icmp_ge (tgt := 46) hx hb dX4_next_16 (by decide) (fun c_1 => ?_) (fun c_1 => ?_)
  · skip
    have c_1n := (cmp_le (a := (ix ln)) (b := i) hlnn rfl (by omega) (by omega)).mp c_1
    have hst : sT bt (ix ln) cu = i := hi2.trans (sT_n (fun q => Nat.not_lt.mpr c_1n q.1))
    refine lv_aload_n hx hb dX4_next_46 rfl (lv_at hl 0 rfl) ?_
    refine lv_aload_n hx hb dX4_next_47 rfl (lv_at hl 0 rfl) ?_
    refine va_get (ci := 2) (v := .int (nI i)) (C := RX4) (T := TX4) (N := 6) hx hb hts inX4 hown hK hP 0 rfl rfl 3 (by decide) f25 (fun _ h9 => h9) rfl dX4_next_48 ?_
    refine va_put (ci := 2) (v := .int (nI i)) (ty := .int) (C := RX4) (T := TX4) (N := 6) hx hb hts inX4 tyX4 tyX4_ok nmX4 hown hK hP (hD _ rfl) hS 0 rfl rfl 4 (by decide) f28 (fun _ h9 => h9) rfl rfl rfl rfl (Nat.le_of_ble_eq_true rfl) dX4_next_51 (fun H locs hP _ hS => ?_)
    have hP : va_P D vwCl (tpw cI a q bt ln tk (nI i) (nI i) nm) H := hP
    refine lv_aload_n hx hb dX4_next_54 rfl (lv_at hl 0 rfl) ?_
    refine lv_iconst (v := 0) hx hb dX4_next_55 (by decide) ?_
    refine va_put (ci := 2) (v := .int 0) (ty := .int) (C := RX4) (T := TX4) (N := 6) hx hb hts inX4 tyX4 tyX4_ok nmX4 hown hK hP (hD _ rfl) hS 0 rfl rfl 5 (by decide) f31 (fun _ h9 => h9) rfl rfl rfl rfl (Nat.le_of_ble_eq_true rfl) dX4_next_56 (fun H locs hP _ hS => ?_)
    have hP : va_P D vwCl (tpw cI a q bt ln tk (nI i) (nI i) 0) H := hP
    refine lv_aload_n hx hb dX4_next_59 rfl (lv_at hl 0 rfl) ?_
    refine lv_aload_n hx hb dX4_next_60 rfl (lv_at hl 0 rfl) ?_
    refine va_get (ci := 2) (v := .int (nI i)) (C := RX4) (T := TX4) (N := 6) hx hb hts inX4 hown hK hP 0 rfl rfl 3 (by decide) f25 (fun _ h9 => h9) rfl dX4_next_61 ?_
    refine lv_aload_n hx hb dX4_next_64 rfl (lv_at hl 0 rfl) ?_
    refine va_get (ci := 2) (v := .int ln) (C := RX4) (T := TX4) (N := 6) hx hb hts inX4 hown hK hP 0 rfl rfl 1 (by decide) f15 (fun _ h9 => h9) rfl dX4_next_65 ?_
    refine jn (fun v_2 : Int32 => v_2 = (if ln ≤ (nI i) then 0 else (tkO (bt i)) : Int32)) (fun v_2 => F0 m 87 ls [.int v_2, .ref a]) (fun Jv_2 => ?_) (fun v_2 ev_2 => ?_)
    · skip
      refine lv_icmp_ge (tgt := 86) hx hb dX4_next_68 (by decide) (fun c_3 => ?_) (fun c_3 => ?_)
      · skip
        have c_3n := (cmp_le (a := (ix ln)) (b := i) hlnn rfl (by omega) (by omega)).mp c_3
        refine lv_iconst (v := 0) hx hb dX4_next_86 (by decide) ?_
        exact Jv_2 _ (by rw [if_pos c_3])
      · skip
        have c_3n := mt (cmp_le (a := (ix ln)) (b := i) hlnn rfl (by omega) (by omega)).mpr c_3
        refine lv_aload_n hx hb dX4_next_71 rfl (lv_at hl 0 rfl) ?_
        refine va_get (ci := 2) (v := .ref q) (C := RX4) (T := TX4) (N := 6) hx hb hts inX4 hown hK hP 0 rfl rfl 0 (by decide) f9 (fun _ h9 => h9) rfl dX4_next_72 ?_
        refine lv_aload_n hx hb dX4_next_75 rfl (lv_at hl 0 rfl) ?_
        refine va_get (ci := 2) (v := .int (nI i)) (C := RX4) (T := TX4) (N := 6) hx hb hts inX4 hown hK hP 0 rfl rfl 3 (by decide) f25 (fun _ h9 => h9) rfl dX4_next_76 ?_
        refine va_iald hx hb hK hP 1 0 rfl rfl (vp_in_nI (by omega) (by decide)) dX4_next_79 ?_
        refine lv_to (y := bt i) (congrArg bt hix) ?_
        refine callE (W.runS (As := [.int (bt i)]) (rest := [.ref a]) ⟨hx, hb, hml, hown, hts⟩ (k_X4_tokenWith l (bt i)) (va_cwS 1 hts gX4_next_X4_tokenWith rfl rfl rfl (by decide +kernel) ⟨Nat.le_of_ble_eq_true rfl, Nat.le_of_ble_eq_true rfl⟩) ⟨PcP_fb, fun U _ _ => ⟨rfl, trivial⟩⟩ rfl rfl hl.1 rfl (lv_room (Nat.le_of_ble_eq_true rfl)) dX4_next_80 ⟨Nat.zero_le _, Nat.zero_le _⟩) ?_
        refine lv_goto (tgt := 87) hx hb dX4_next_83 (by decide) ?_
        exact Jv_2 _ (by rw [if_neg c_3])
    obtain ⟨tt, rfl⟩ : ∃ z, z = v_2 := ⟨_, rfl⟩
    have htt : tt = tKs bt (ix ln) i := ev_2.trans (tK_v hlnn hl120 (by omega))
    refine va_put (ci := 2) (v := .int tt) (ty := .int) (C := RX4) (T := TX4) (N := 6) hx hb hts inX4 tyX4 tyX4_ok nmX4 hown hK hP (hD _ rfl) hS 0 rfl rfl 2 (by decide) f22 (fun _ h9 => h9) rfl rfl rfl rfl (Nat.le_of_ble_eq_true rfl) dX4_next_87 (fun H locs hP _ hS => ?_)
    have hP : va_P D vwCl (tpw cI a q bt ln tt (nI i) (nI i) 0) H := hP
    refine lv_aload_n hx hb dX4_next_90 rfl (lv_at hl 0 rfl) ?_
    refine va_get (ci := 2) (v := .int tt) (C := RX4) (T := TX4) (N := 6) hx hb hts inX4 hown hK hP 0 rfl rfl 2 (by decide) f22 (fun _ h9 => h9) rfl dX4_next_91 ?_
    refine lv_iconst (v := 3) hx hb dX4_next_94 (by decide) ?_
    refine lv_icmp_eq (tgt := 106) hx hb dX4_next_95 (by decide) (fun c_4 => ?_) (fun c_4 => ?_)
    · skip
      have hsg : tt = 3 ∨ tt = 4 := Or.inl c_4
      refine lv_aload_n hx hb dX4_next_106 rfl (lv_at hl 0 rfl) ?_
      refine lv_aload_n hx hb dX4_next_107 rfl (lv_at hl 0 rfl) ?_
      refine va_get (ci := 2) (v := .int (nI i)) (C := RX4) (T := TX4) (N := 6) hx hb hts inX4 hown hK hP 0 rfl rfl 3 (by decide) f25 (fun _ h9 => h9) rfl dX4_next_108 ?_
      refine lv_iconst (v := 1) hx hb dX4_next_111 (by decide) ?_
      refine lv_iadd hx hb dX4_next_112 ?_
      refine va_put (ci := 2) (v := .int ((nI i) + 1)) (ty := .int) (C := RX4) (T := TX4) (N := 6) hx hb hts inX4 tyX4 tyX4_ok nmX4 hown hK hP (hD _ rfl) hS 0 rfl rfl 4 (by decide) f28 (fun _ h9 => h9) rfl rfl rfl rfl (Nat.le_of_ble_eq_true rfl) dX4_next_113 (fun H locs hP _ hS => ?_)
      have hP : va_P D vwCl (tpw cI a q bt ln tt (nI i) ((nI i) + 1) 0) H := hP
      refine lv_aload_n hx hb dX4_next_116 rfl (lv_at hl 0 rfl) ?_
      refine va_get (ci := 2) (v := .int tt) (C := RX4) (T := TX4) (N := 6) hx hb hts inX4 hown hK hP 0 rfl rfl 2 (by decide) f22 (fun _ h9 => h9) rfl dX4_next_117 ?_
      refine lv_iconst (v := 1) hx hb dX4_next_120 (by decide) ?_
      refine lv_icmp_eq (tgt := 132) hx hb dX4_next_121 (by decide) (fun c_5 => ?_) (fun c_5 => ?_)
      · skip
        exact absurd c_5 (sg_12 hsg).1
      · skip
        have ht1 := c_5
        refine lv_aload_n hx hb dX4_next_124 rfl (lv_at hl 0 rfl) ?_
        refine va_get (ci := 2) (v := .int tt) (C := RX4) (T := TX4) (N := 6) hx hb hts inX4 hown hK hP 0 rfl rfl 2 (by decide) f22 (fun _ h9 => h9) rfl dX4_next_125 ?_
        refine lv_iconst (v := 2) hx hb dX4_next_128 (by decide) ?_
        refine lv_icmp_ne (tgt := 213) hx hb dX4_next_129 (by decide) (fun c_6 => ?_) (fun c_6 => ?_)
        · skip
          exact W.vret hx hb hr (fun t ht hW => ⟨⟨(tt, nI i, ((nI i) + 1), 0), rfl, (by exact tok_sg hc hl120 hst htt hsg), by dsimp only; rw [ht]; exact hP⟩, hS.F ht⟩) hS.2.2 dX4_next_213
        · skip
          exact absurd c_6 (sg_12 hsg).2
    · skip
      have hn3 := c_4
      refine lv_aload_n hx hb dX4_next_98 rfl (lv_at hl 0 rfl) ?_
      refine va_get (ci := 2) (v := .int tt) (C := RX4) (T := TX4) (N := 6) hx hb hts inX4 hown hK hP 0 rfl rfl 2 (by decide) f22 (fun _ h9 => h9) rfl dX4_next_99 ?_
      refine lv_iconst (v := 4) hx hb dX4_next_102 (by decide) ?_
      refine lv_icmp_ne (tgt := 116) hx hb dX4_next_103 (by decide) (fun c_7 => ?_) (fun c_7 => ?_)
      · skip
        have hn4 := c_7
        have hP : va_P D vwCl (tpw cI a q bt ln tt (nI i) (nI i) (nI 0)) H := by exact hP
        refine lpW (fun n (u : Nat × Nat) H locs ls => (u.1 + n = 121) ∧ (i ≤ u.1 ∧ u.1 ≤ ix ln) ∧ (u.2 ≤ 1000) ∧ (eT bt (ix ln) tt i = eT bt (ix ln) tt u.1) ∧ (tt = 2 → nVs bt (dE bt (ix ln) i - i) i 0 = nVs bt (dE bt (ix ln) u.1 - u.1) u.1 u.2) ∧ va_P D vwCl (tpw cI a q bt ln tt (nI i) (nI u.1) (nI u.2)) H ∧ va_S A s.heap H locs ∧ lv_has ls 1 [(0, .ref a)]) (121 - i) ((i, 0)) ⟨by show i + (121 - i) = 121; omega, ⟨Nat.le_refl i, hi1⟩, Nat.zero_le 1000, rfl, fun _ => rfl, hP, hS, lv_sub hl [0] rfl⟩ (fun n ih u H locs ls hI => ?_)
        obtain ⟨j, w⟩ := u
        obtain ⟨hj0, hj1, hj2, hj3, hj4, hP, hS, hl⟩ := hI
        have hj0 : j + n = 121 := hj0
        have hj1 : i ≤ j ∧ j ≤ ix ln := hj1
        have hj2 : w ≤ 1000 := hj2
        have hj3 : eT bt (ix ln) tt i = eT bt (ix ln) tt j := hj3
        have hj4 : tt = 2 → nVs bt (dE bt (ix ln) i - i) i 0 = nVs bt (dE bt (ix ln) j - j) j w := hj4
        have hl : lv_has ls 1 [(0, .ref a)] := hl
        have hP : va_P D vwCl (tpw cI a q bt ln tt (nI i) (nI j) (nI w)) H := hP
        have hjx : ix (nI j) = j := ix_nI (by omega)
        refine lv_aload_n hx hb dX4_next_116 rfl (lv_at hl 0 rfl) ?_
        refine va_get (ci := 2) (v := .int tt) (C := RX4) (T := TX4) (N := 6) hx hb hts inX4 hown hK hP 0 rfl rfl 2 (by decide) f22 (fun _ h9 => h9) rfl dX4_next_117 ?_
        refine lv_iconst (v := 1) hx hb dX4_next_120 (by decide) ?_
        refine lv_icmp_eq (tgt := 132) hx hb dX4_next_121 (by decide) (fun c_8 => ?_) (fun c_8 => ?_)
        · skip
          have ht1 := c_8
          refine lv_aload_n hx hb dX4_next_132 rfl (lv_at hl 0 rfl) ?_
          refine va_get (ci := 2) (v := .int (nI j)) (C := RX4) (T := TX4) (N := 6) hx hb hts inX4 hown hK hP 0 rfl rfl 4 (by decide) f28 (fun _ h9 => h9) rfl dX4_next_133 ?_
          refine lv_aload_n hx hb dX4_next_136 rfl (lv_at hl 0 rfl) ?_
          refine va_get (ci := 2) (v := .int ln) (C := RX4) (T := TX4) (N := 6) hx hb hts inX4 hown hK hP 0 rfl rfl 1 (by decide) f15 (fun _ h9 => h9) rfl dX4_next_137 ?_
          refine lv_icmp_ge (tgt := 213) hx hb dX4_next_140 (by decide) (fun c_9 => ?_) (fun c_9 => ?_)
          · skip
            have c_9n := (cmp_le (a := (ix ln)) (b := j) hlnn rfl (by omega) (by omega)).mp c_9
            exact W.vret hx hb hr (fun t ht hW => ⟨⟨(tt, nI i, nI j, nI w), rfl, (by exact tok_of hc hl120 hst htt hn3 hn4 (hj3.trans (eT_n (fun q => Nat.not_lt.mpr c_9n q.2.1))) (fun q => (hj4 q).trans (nVs_e (fun z => Nat.not_lt.mpr c_9n z.1)))), by dsimp only; rw [ht]; exact hP⟩, hS.F ht⟩) hS.2.2 dX4_next_213
          · skip
            have c_9n := mt (cmp_le (a := (ix ln)) (b := j) hlnn rfl (by omega) (by omega)).mpr c_9
            refine lv_aload_n hx hb dX4_next_143 rfl (lv_at hl 0 rfl) ?_
            refine va_get (ci := 2) (v := .ref q) (C := RX4) (T := TX4) (N := 6) hx hb hts inX4 hown hK hP 0 rfl rfl 0 (by decide) f9 (fun _ h9 => h9) rfl dX4_next_144 ?_
            refine lv_aload_n hx hb dX4_next_147 rfl (lv_at hl 0 rfl) ?_
            refine va_get (ci := 2) (v := .int (nI j)) (C := RX4) (T := TX4) (N := 6) hx hb hts inX4 hown hK hP 0 rfl rfl 4 (by decide) f28 (fun _ h9 => h9) rfl dX4_next_148 ?_
            refine va_iald hx hb hK hP 1 0 rfl rfl (vp_in_nI (by omega) (by decide)) dX4_next_151 ?_
            refine lv_to (y := bt j) (congrArg bt hjx) ?_
            refine callE (W.runS (As := [.int (bt j)]) (rest := []) ⟨hx, hb, hml, hown, hts⟩ (k_X4_tokenWith l (bt j)) (va_cwS 1 hts gX4_next_X4_tokenWith rfl rfl rfl (by decide +kernel) ⟨Nat.le_of_ble_eq_true rfl, Nat.le_of_ble_eq_true rfl⟩) ⟨PcP_fb, fun U _ _ => ⟨rfl, trivial⟩⟩ rfl rfl hl.1 rfl (lv_room (Nat.le_of_ble_eq_true rfl)) dX4_next_152 ⟨Nat.zero_le _, Nat.zero_le _⟩) ?_
            refine lv_aload_n hx hb dX4_next_155 rfl (lv_at hl 0 rfl) ?_
            refine va_get (ci := 2) (v := .int tt) (C := RX4) (T := TX4) (N := 6) hx hb hts inX4 hown hK hP 0 rfl rfl 2 (by decide) f22 (fun _ h9 => h9) rfl dX4_next_156 ?_
            refine lv_icmp_ne (tgt := 213) hx hb dX4_next_159 (by decide) (fun c_10 => ?_) (fun c_10 => ?_)
            · skip
              exact W.vret hx hb hr (fun t ht hW => ⟨⟨(tt, nI i, nI j, nI w), rfl, (by exact tok_of hc hl120 hst htt hn3 hn4 (hj3.trans (eT_n (fun q => c_10 q.2.2))) (fun q => (hj4 q).trans (nVs_e (fun z => c_10 ((tkO_dg z.2).trans q.symm))))), by dsimp only; rw [ht]; exact hP⟩, hS.F ht⟩) hS.2.2 dX4_next_213
            · skip
              have htw := c_10
              refine lv_aload_n hx hb dX4_next_162 rfl (lv_at hl 0 rfl) ?_
              refine va_get (ci := 2) (v := .int tt) (C := RX4) (T := TX4) (N := 6) hx hb hts inX4 hown hK hP 0 rfl rfl 2 (by decide) f22 (fun _ h9 => h9) rfl dX4_next_163 ?_
              refine lv_iconst (v := 2) hx hb dX4_next_166 (by decide) ?_
              refine lv_icmp_ne (tgt := 200) hx hb dX4_next_167 (by decide) (fun c_11 => ?_) (fun c_11 => ?_)
              · skip
                refine lv_aload_n hx hb dX4_next_200 rfl (lv_at hl 0 rfl) ?_
                refine lv_dup hx hb dX4_next_201 rfl ?_
                refine va_get (ci := 2) (v := .int (nI j)) (C := RX4) (T := TX4) (N := 6) hx hb hts inX4 hown hK hP 0 rfl rfl 4 (by decide) f28 (fun _ h9 => h9) rfl dX4_next_202 ?_
                refine lv_iconst (v := 1) hx hb dX4_next_205 (by decide) ?_
                refine lv_iadd hx hb dX4_next_206 ?_
                refine va_put (ci := 2) (v := .int ((nI j) + 1)) (ty := .int) (C := RX4) (T := TX4) (N := 6) hx hb hts inX4 tyX4 tyX4_ok nmX4 hown hK hP (hD _ rfl) hS 0 rfl rfl 4 (by decide) f28 (fun _ h9 => h9) rfl rfl rfl rfl (Nat.le_of_ble_eq_true rfl) dX4_next_207 (fun H locs hP _ hS => ?_)
                have hP : va_P D vwCl (tpw cI a q bt ln tt (nI i) ((nI j) + 1) (nI w)) H := hP
                refine lv_goto (tgt := 116) hx hb dX4_next_210 (by decide) ?_
                have hP : va_P D vwCl (tpw cI a q bt ln tt (nI i) (nI (j + 1)) (nI w)) H := by rw [← nI_1]; exact hP
                exact ih (n - 1) (by omega) ((j + 1, w)) H locs ls ⟨by omega, by omega, hj2, hj3.trans (eT_y (Or.inl ht1) (by omega) htw), fun q => absurd (q.symm.trans ht1) (by decide), hP, hS, lv_sub hl [0] rfl⟩
              · skip
                exact absurd (c_11.symm.trans ht1) (by decide)
        · skip
          have ht1 := c_8
          refine lv_aload_n hx hb dX4_next_124 rfl (lv_at hl 0 rfl) ?_
          refine va_get (ci := 2) (v := .int tt) (C := RX4) (T := TX4) (N := 6) hx hb hts inX4 hown hK hP 0 rfl rfl 2 (by decide) f22 (fun _ h9 => h9) rfl dX4_next_125 ?_
          refine lv_iconst (v := 2) hx hb dX4_next_128 (by decide) ?_
          refine lv_icmp_ne (tgt := 213) hx hb dX4_next_129 (by decide) (fun c_12 => ?_) (fun c_12 => ?_)
          · skip
            exact W.vret hx hb hr (fun t ht hW => ⟨⟨(tt, nI i, nI j, nI w), rfl, (by exact tok_of hc hl120 hst htt hn3 hn4 (hj3.trans (eT_n (fun q => q.1.elim ht1 c_12))) (fun q => absurd q c_12)), by dsimp only; rw [ht]; exact hP⟩, hS.F ht⟩) hS.2.2 dX4_next_213
          · skip
            have ht2 := c_12
            refine lv_aload_n hx hb dX4_next_132 rfl (lv_at hl 0 rfl) ?_
            refine va_get (ci := 2) (v := .int (nI j)) (C := RX4) (T := TX4) (N := 6) hx hb hts inX4 hown hK hP 0 rfl rfl 4 (by decide) f28 (fun _ h9 => h9) rfl dX4_next_133 ?_
            refine lv_aload_n hx hb dX4_next_136 rfl (lv_at hl 0 rfl) ?_
            refine va_get (ci := 2) (v := .int ln) (C := RX4) (T := TX4) (N := 6) hx hb hts inX4 hown hK hP 0 rfl rfl 1 (by decide) f15 (fun _ h9 => h9) rfl dX4_next_137 ?_
            refine lv_icmp_ge (tgt := 213) hx hb dX4_next_140 (by decide) (fun c_13 => ?_) (fun c_13 => ?_)
            · skip
              have c_13n := (cmp_le (a := (ix ln)) (b := j) hlnn rfl (by omega) (by omega)).mp c_13
              exact W.vret hx hb hr (fun t ht hW => ⟨⟨(tt, nI i, nI j, nI w), rfl, (by exact tok_of hc hl120 hst htt hn3 hn4 (hj3.trans (eT_n (fun q => Nat.not_lt.mpr c_13n q.2.1))) (fun q => (hj4 q).trans (nVs_e (fun z => Nat.not_lt.mpr c_13n z.1)))), by dsimp only; rw [ht]; exact hP⟩, hS.F ht⟩) hS.2.2 dX4_next_213
            · skip
              have c_13n := mt (cmp_le (a := (ix ln)) (b := j) hlnn rfl (by omega) (by omega)).mpr c_13
              refine lv_aload_n hx hb dX4_next_143 rfl (lv_at hl 0 rfl) ?_
              refine va_get (ci := 2) (v := .ref q) (C := RX4) (T := TX4) (N := 6) hx hb hts inX4 hown hK hP 0 rfl rfl 0 (by decide) f9 (fun _ h9 => h9) rfl dX4_next_144 ?_
              refine lv_aload_n hx hb dX4_next_147 rfl (lv_at hl 0 rfl) ?_
              refine va_get (ci := 2) (v := .int (nI j)) (C := RX4) (T := TX4) (N := 6) hx hb hts inX4 hown hK hP 0 rfl rfl 4 (by decide) f28 (fun _ h9 => h9) rfl dX4_next_148 ?_
              refine va_iald hx hb hK hP 1 0 rfl rfl (vp_in_nI (by omega) (by decide)) dX4_next_151 ?_
              refine lv_to (y := bt j) (congrArg bt hjx) ?_
              refine callE (W.runS (As := [.int (bt j)]) (rest := []) ⟨hx, hb, hml, hown, hts⟩ (k_X4_tokenWith l (bt j)) (va_cwS 1 hts gX4_next_X4_tokenWith rfl rfl rfl (by decide +kernel) ⟨Nat.le_of_ble_eq_true rfl, Nat.le_of_ble_eq_true rfl⟩) ⟨PcP_fb, fun U _ _ => ⟨rfl, trivial⟩⟩ rfl rfl hl.1 rfl (lv_room (Nat.le_of_ble_eq_true rfl)) dX4_next_152 ⟨Nat.zero_le _, Nat.zero_le _⟩) ?_
              refine lv_aload_n hx hb dX4_next_155 rfl (lv_at hl 0 rfl) ?_
              refine va_get (ci := 2) (v := .int tt) (C := RX4) (T := TX4) (N := 6) hx hb hts inX4 hown hK hP 0 rfl rfl 2 (by decide) f22 (fun _ h9 => h9) rfl dX4_next_156 ?_
              refine lv_icmp_ne (tgt := 213) hx hb dX4_next_159 (by decide) (fun c_14 => ?_) (fun c_14 => ?_)
              · skip
                exact W.vret hx hb hr (fun t ht hW => ⟨⟨(tt, nI i, nI j, nI w), rfl, (by exact tok_of hc hl120 hst htt hn3 hn4 (hj3.trans (eT_n (fun q => c_14 q.2.2))) (fun q => (hj4 q).trans (nVs_e (fun z => c_14 ((tkO_dg z.2).trans q.symm))))), by dsimp only; rw [ht]; exact hP⟩, hS.F ht⟩) hS.2.2 dX4_next_213
              · skip
                have htw := c_14
                refine lv_aload_n hx hb dX4_next_162 rfl (lv_at hl 0 rfl) ?_
                refine va_get (ci := 2) (v := .int tt) (C := RX4) (T := TX4) (N := 6) hx hb hts inX4 hown hK hP 0 rfl rfl 2 (by decide) f22 (fun _ h9 => h9) rfl dX4_next_163 ?_
                refine lv_iconst (v := 2) hx hb dX4_next_166 (by decide) ?_
                refine lv_icmp_ne (tgt := 200) hx hb dX4_next_167 (by decide) (fun c_15 => ?_) (fun c_15 => ?_)
                · skip
                  exact absurd ht2 c_15
                · skip
                  refine lv_aload_n hx hb dX4_next_170 rfl (lv_at hl 0 rfl) ?_
                  refine lv_sipush (v := 1000) hx hb dX4_next_171 (by decide) ?_
                  refine lv_bipush (v := 10) hx hb dX4_next_174 (by decide) ?_
                  refine lv_aload_n hx hb dX4_next_176 rfl (lv_at hl 0 rfl) ?_
                  refine va_get (ci := 2) (v := .int (nI w)) (C := RX4) (T := TX4) (N := 6) hx hb hts inX4 hown hK hP 0 rfl rfl 5 (by decide) f31 (fun _ h9 => h9) rfl dX4_next_177 ?_
                  refine lv_imul hx hb dX4_next_180 ?_
                  refine lv_aload_n hx hb dX4_next_181 rfl (lv_at hl 0 rfl) ?_
                  refine va_get (ci := 2) (v := .ref q) (C := RX4) (T := TX4) (N := 6) hx hb hts inX4 hown hK hP 0 rfl rfl 0 (by decide) f9 (fun _ h9 => h9) rfl dX4_next_182 ?_
                  refine lv_aload_n hx hb dX4_next_185 rfl (lv_at hl 0 rfl) ?_
                  refine va_get (ci := 2) (v := .int (nI j)) (C := RX4) (T := TX4) (N := 6) hx hb hts inX4 hown hK hP 0 rfl rfl 4 (by decide) f28 (fun _ h9 => h9) rfl dX4_next_186 ?_
                  refine va_iald hx hb hK hP 1 0 rfl rfl (vp_in_nI (by omega) (by decide)) dX4_next_189 ?_
                  refine lv_to (y := bt j) (congrArg bt hjx) ?_
                  refine lv_iadd hx hb dX4_next_190 ?_
                  refine lv_bipush (v := 48) hx hb dX4_next_191 (by decide) ?_
                  refine lv_isub hx hb dX4_next_193 ?_
                  refine va_mmin hx hb (by rw [hml]; exact hl.1.symm) hown ml38 stmin iMath comin (Nat.le_of_ble_eq_true rfl) (Nat.le_of_ble_eq_true rfl) (Nat.zero_le _) (Nat.zero_le _) dX4_next_194 ?_
                  refine va_put (ci := 2) (v := .int (if (((10 * (nI w)) + (bt j)) - 48) < 1000 then (((10 * (nI w)) + (bt j)) - 48) else 1000)) (ty := .int) (C := RX4) (T := TX4) (N := 6) hx hb hts inX4 tyX4 tyX4_ok nmX4 hown hK hP (hD _ rfl) hS 0 rfl rfl 5 (by decide) f31 (fun _ h9 => h9) rfl rfl rfl rfl (Nat.le_of_ble_eq_true rfl) dX4_next_197 (fun H locs hP _ hS => ?_)
                  have hP : va_P D vwCl (tpw cI a q bt ln tt (nI i) (nI j) (if (((10 * (nI w)) + (bt j)) - 48) < 1000 then (((10 * (nI w)) + (bt j)) - 48) else 1000)) H := hP
                  refine lv_aload_n hx hb dX4_next_200 rfl (lv_at hl 0 rfl) ?_
                  refine lv_dup hx hb dX4_next_201 rfl ?_
                  refine va_get (ci := 2) (v := .int (nI j)) (C := RX4) (T := TX4) (N := 6) hx hb hts inX4 hown hK hP 0 rfl rfl 4 (by decide) f28 (fun _ h9 => h9) rfl dX4_next_202 ?_
                  refine lv_iconst (v := 1) hx hb dX4_next_205 (by decide) ?_
                  refine lv_iadd hx hb dX4_next_206 ?_
                  refine va_put (ci := 2) (v := .int ((nI j) + 1)) (ty := .int) (C := RX4) (T := TX4) (N := 6) hx hb hts inX4 tyX4 tyX4_ok nmX4 hown hK hP (hD _ rfl) hS 0 rfl rfl 4 (by decide) f28 (fun _ h9 => h9) rfl rfl rfl rfl (Nat.le_of_ble_eq_true rfl) dX4_next_207 (fun H locs hP _ hS => ?_)
                  have hP : va_P D vwCl (tpw cI a q bt ln tt (nI i) ((nI j) + 1) (if (((10 * (nI w)) + (bt j)) - 48) < 1000 then (((10 * (nI w)) + (bt j)) - 48) else 1000)) H := hP
                  refine lv_goto (tgt := 116) hx hb dX4_next_210 (by decide) ?_
                  have hdg : isDg (bt j) := tkO_2 (htw.trans ht2)
                  have hP : va_P D vwCl (tpw cI a q bt ln tt (nI i) (nI (j + 1)) (nI (min 1000 (10 * w + (ix (bt j) - 48))))) H := by rw [← nI_1, ← dg_min hj2 hdg]; exact hP
                  exact ih (n - 1) (by omega) ((j + 1, min 1000 (10 * w + (ix (bt j) - 48)))) H locs ls ⟨by omega, by omega, by omega, hj3.trans (eT_y (Or.inr ht2) (by omega) htw), fun q => (hj4 q).trans (nVs_s (by omega) hdg), hP, hS, lv_sub hl [0] rfl⟩
      · skip
        have hsg : tt = 3 ∨ tt = 4 := Or.inr c_7
        refine lv_aload_n hx hb dX4_next_106 rfl (lv_at hl 0 rfl) ?_
        refine lv_aload_n hx hb dX4_next_107 rfl (lv_at hl 0 rfl) ?_
        refine va_get (ci := 2) (v := .int (nI i)) (C := RX4) (T := TX4) (N := 6) hx hb hts inX4 hown hK hP 0 rfl rfl 3 (by decide) f25 (fun _ h9 => h9) rfl dX4_next_108 ?_
        refine lv_iconst (v := 1) hx hb dX4_next_111 (by decide) ?_
        refine lv_iadd hx hb dX4_next_112 ?_
        refine va_put (ci := 2) (v := .int ((nI i) + 1)) (ty := .int) (C := RX4) (T := TX4) (N := 6) hx hb hts inX4 tyX4 tyX4_ok nmX4 hown hK hP (hD _ rfl) hS 0 rfl rfl 4 (by decide) f28 (fun _ h9 => h9) rfl rfl rfl rfl (Nat.le_of_ble_eq_true rfl) dX4_next_113 (fun H locs hP _ hS => ?_)
        have hP : va_P D vwCl (tpw cI a q bt ln tt (nI i) ((nI i) + 1) 0) H := hP
        refine lv_aload_n hx hb dX4_next_116 rfl (lv_at hl 0 rfl) ?_
        refine va_get (ci := 2) (v := .int tt) (C := RX4) (T := TX4) (N := 6) hx hb hts inX4 hown hK hP 0 rfl rfl 2 (by decide) f22 (fun _ h9 => h9) rfl dX4_next_117 ?_
        refine lv_iconst (v := 1) hx hb dX4_next_120 (by decide) ?_
        refine lv_icmp_eq (tgt := 132) hx hb dX4_next_121 (by decide) (fun c_16 => ?_) (fun c_16 => ?_)
        · skip
          exact absurd c_16 (sg_12 hsg).1
        · skip
          have ht1 := c_16
          refine lv_aload_n hx hb dX4_next_124 rfl (lv_at hl 0 rfl) ?_
          refine va_get (ci := 2) (v := .int tt) (C := RX4) (T := TX4) (N := 6) hx hb hts inX4 hown hK hP 0 rfl rfl 2 (by decide) f22 (fun _ h9 => h9) rfl dX4_next_125 ?_
          refine lv_iconst (v := 2) hx hb dX4_next_128 (by decide) ?_
          refine lv_icmp_ne (tgt := 213) hx hb dX4_next_129 (by decide) (fun c_17 => ?_) (fun c_17 => ?_)
          · skip
            exact W.vret hx hb hr (fun t ht hW => ⟨⟨(tt, nI i, ((nI i) + 1), 0), rfl, (by exact tok_sg hc hl120 hst htt hsg), by dsimp only; rw [ht]; exact hP⟩, hS.F ht⟩) hS.2.2 dX4_next_213
          · skip
            exact absurd c_17 (sg_12 hsg).2
  · skip
    have c_1n := mt (cmp_le (a := (ix ln)) (b := i) hlnn rfl (by omega) (by omega)).mpr c_1
    refine lv_aload_n hx hb dX4_next_19 rfl (lv_at hl 0 rfl) ?_
    refine va_get (ci := 2) (v := .ref q) (C := RX4) (T := TX4) (N := 6) hx hb hts inX4 hown hK hP 0 rfl rfl 0 (by decide) f9 (fun _ h9 => h9) rfl dX4_next_20 ?_
    refine lv_aload_n hx hb dX4_next_23 rfl (lv_at hl 0 rfl) ?_
    refine va_get (ci := 2) (v := .int (nI i)) (C := RX4) (T := TX4) (N := 6) hx hb hts inX4 hown hK hP 0 rfl rfl 3 (by decide) f25 (fun _ h9 => h9) rfl dX4_next_24 ?_
    refine va_iald hx hb hK hP 1 0 rfl rfl (vp_in_nI (by omega) (by decide)) dX4_next_27 ?_
    refine lv_to (y := bt i) (congrArg bt hix) ?_
    refine lv_bipush (v := 32) hx hb dX4_next_28 (by decide) ?_
    refine lv_icmp_ne (tgt := 46) hx hb dX4_next_30 (by decide) (fun c_18 => ?_) (fun c_18 => ?_)
    · skip
      have hst : sT bt (ix ln) cu = i := hi2.trans (sT_n (fun q => c_18 q.2))
      refine lv_aload_n hx hb dX4_next_46 rfl (lv_at hl 0 rfl) ?_
      refine lv_aload_n hx hb dX4_next_47 rfl (lv_at hl 0 rfl) ?_
      refine va_get (ci := 2) (v := .int (nI i)) (C := RX4) (T := TX4) (N := 6) hx hb hts inX4 hown hK hP 0 rfl rfl 3 (by decide) f25 (fun _ h9 => h9) rfl dX4_next_48 ?_
      refine va_put (ci := 2) (v := .int (nI i)) (ty := .int) (C := RX4) (T := TX4) (N := 6) hx hb hts inX4 tyX4 tyX4_ok nmX4 hown hK hP (hD _ rfl) hS 0 rfl rfl 4 (by decide) f28 (fun _ h9 => h9) rfl rfl rfl rfl (Nat.le_of_ble_eq_true rfl) dX4_next_51 (fun H locs hP _ hS => ?_)
      have hP : va_P D vwCl (tpw cI a q bt ln tk (nI i) (nI i) nm) H := hP
      refine lv_aload_n hx hb dX4_next_54 rfl (lv_at hl 0 rfl) ?_
      refine lv_iconst (v := 0) hx hb dX4_next_55 (by decide) ?_
      refine va_put (ci := 2) (v := .int 0) (ty := .int) (C := RX4) (T := TX4) (N := 6) hx hb hts inX4 tyX4 tyX4_ok nmX4 hown hK hP (hD _ rfl) hS 0 rfl rfl 5 (by decide) f31 (fun _ h9 => h9) rfl rfl rfl rfl (Nat.le_of_ble_eq_true rfl) dX4_next_56 (fun H locs hP _ hS => ?_)
      have hP : va_P D vwCl (tpw cI a q bt ln tk (nI i) (nI i) 0) H := hP
      refine lv_aload_n hx hb dX4_next_59 rfl (lv_at hl 0 rfl) ?_
      refine lv_aload_n hx hb dX4_next_60 rfl (lv_at hl 0 rfl) ?_
      refine va_get (ci := 2) (v := .int (nI i)) (C := RX4) (T := TX4) (N := 6) hx hb hts inX4 hown hK hP 0 rfl rfl 3 (by decide) f25 (fun _ h9 => h9) rfl dX4_next_61 ?_
      refine lv_aload_n hx hb dX4_next_64 rfl (lv_at hl 0 rfl) ?_
      refine va_get (ci := 2) (v := .int ln) (C := RX4) (T := TX4) (N := 6) hx hb hts inX4 hown hK hP 0 rfl rfl 1 (by decide) f15 (fun _ h9 => h9) rfl dX4_next_65 ?_
      refine jn (fun v_19 : Int32 => v_19 = (if ln ≤ (nI i) then 0 else (tkO (bt i)) : Int32)) (fun v_19 => F0 m 87 ls [.int v_19, .ref a]) (fun Jv_19 => ?_) (fun v_19 ev_19 => ?_)
      · skip
        refine lv_icmp_ge (tgt := 86) hx hb dX4_next_68 (by decide) (fun c_20 => ?_) (fun c_20 => ?_)
        · skip
          have c_20n := (cmp_le (a := (ix ln)) (b := i) hlnn rfl (by omega) (by omega)).mp c_20
          refine lv_iconst (v := 0) hx hb dX4_next_86 (by decide) ?_
          exact Jv_19 _ (by rw [if_pos c_20])
        · skip
          have c_20n := mt (cmp_le (a := (ix ln)) (b := i) hlnn rfl (by omega) (by omega)).mpr c_20
          refine lv_aload_n hx hb dX4_next_71 rfl (lv_at hl 0 rfl) ?_
          refine va_get (ci := 2) (v := .ref q) (C := RX4) (T := TX4) (N := 6) hx hb hts inX4 hown hK hP 0 rfl rfl 0 (by decide) f9 (fun _ h9 => h9) rfl dX4_next_72 ?_
          refine lv_aload_n hx hb dX4_next_75 rfl (lv_at hl 0 rfl) ?_
          refine va_get (ci := 2) (v := .int (nI i)) (C := RX4) (T := TX4) (N := 6) hx hb hts inX4 hown hK hP 0 rfl rfl 3 (by decide) f25 (fun _ h9 => h9) rfl dX4_next_76 ?_
          refine va_iald hx hb hK hP 1 0 rfl rfl (vp_in_nI (by omega) (by decide)) dX4_next_79 ?_
          refine lv_to (y := bt i) (congrArg bt hix) ?_
          refine callE (W.runS (As := [.int (bt i)]) (rest := [.ref a]) ⟨hx, hb, hml, hown, hts⟩ (k_X4_tokenWith l (bt i)) (va_cwS 1 hts gX4_next_X4_tokenWith rfl rfl rfl (by decide +kernel) ⟨Nat.le_of_ble_eq_true rfl, Nat.le_of_ble_eq_true rfl⟩) ⟨PcP_fb, fun U _ _ => ⟨rfl, trivial⟩⟩ rfl rfl hl.1 rfl (lv_room (Nat.le_of_ble_eq_true rfl)) dX4_next_80 ⟨Nat.zero_le _, Nat.zero_le _⟩) ?_
          refine lv_goto (tgt := 87) hx hb dX4_next_83 (by decide) ?_
          exact Jv_19 _ (by rw [if_neg c_20])
      obtain ⟨tt, rfl⟩ : ∃ z, z = v_19 := ⟨_, rfl⟩
      have htt : tt = tKs bt (ix ln) i := ev_19.trans (tK_v hlnn hl120 (by omega))
      refine va_put (ci := 2) (v := .int tt) (ty := .int) (C := RX4) (T := TX4) (N := 6) hx hb hts inX4 tyX4 tyX4_ok nmX4 hown hK hP (hD _ rfl) hS 0 rfl rfl 2 (by decide) f22 (fun _ h9 => h9) rfl rfl rfl rfl (Nat.le_of_ble_eq_true rfl) dX4_next_87 (fun H locs hP _ hS => ?_)
      have hP : va_P D vwCl (tpw cI a q bt ln tt (nI i) (nI i) 0) H := hP
      refine lv_aload_n hx hb dX4_next_90 rfl (lv_at hl 0 rfl) ?_
      refine va_get (ci := 2) (v := .int tt) (C := RX4) (T := TX4) (N := 6) hx hb hts inX4 hown hK hP 0 rfl rfl 2 (by decide) f22 (fun _ h9 => h9) rfl dX4_next_91 ?_
      refine lv_iconst (v := 3) hx hb dX4_next_94 (by decide) ?_
      refine lv_icmp_eq (tgt := 106) hx hb dX4_next_95 (by decide) (fun c_21 => ?_) (fun c_21 => ?_)
      · skip
        have hsg : tt = 3 ∨ tt = 4 := Or.inl c_21
        refine lv_aload_n hx hb dX4_next_106 rfl (lv_at hl 0 rfl) ?_
        refine lv_aload_n hx hb dX4_next_107 rfl (lv_at hl 0 rfl) ?_
        refine va_get (ci := 2) (v := .int (nI i)) (C := RX4) (T := TX4) (N := 6) hx hb hts inX4 hown hK hP 0 rfl rfl 3 (by decide) f25 (fun _ h9 => h9) rfl dX4_next_108 ?_
        refine lv_iconst (v := 1) hx hb dX4_next_111 (by decide) ?_
        refine lv_iadd hx hb dX4_next_112 ?_
        refine va_put (ci := 2) (v := .int ((nI i) + 1)) (ty := .int) (C := RX4) (T := TX4) (N := 6) hx hb hts inX4 tyX4 tyX4_ok nmX4 hown hK hP (hD _ rfl) hS 0 rfl rfl 4 (by decide) f28 (fun _ h9 => h9) rfl rfl rfl rfl (Nat.le_of_ble_eq_true rfl) dX4_next_113 (fun H locs hP _ hS => ?_)
        have hP : va_P D vwCl (tpw cI a q bt ln tt (nI i) ((nI i) + 1) 0) H := hP
        refine lv_aload_n hx hb dX4_next_116 rfl (lv_at hl 0 rfl) ?_
        refine va_get (ci := 2) (v := .int tt) (C := RX4) (T := TX4) (N := 6) hx hb hts inX4 hown hK hP 0 rfl rfl 2 (by decide) f22 (fun _ h9 => h9) rfl dX4_next_117 ?_
        refine lv_iconst (v := 1) hx hb dX4_next_120 (by decide) ?_
        refine lv_icmp_eq (tgt := 132) hx hb dX4_next_121 (by decide) (fun c_22 => ?_) (fun c_22 => ?_)
        · skip
          exact absurd c_22 (sg_12 hsg).1
        · skip
          have ht1 := c_22
          refine lv_aload_n hx hb dX4_next_124 rfl (lv_at hl 0 rfl) ?_
          refine va_get (ci := 2) (v := .int tt) (C := RX4) (T := TX4) (N := 6) hx hb hts inX4 hown hK hP 0 rfl rfl 2 (by decide) f22 (fun _ h9 => h9) rfl dX4_next_125 ?_
          refine lv_iconst (v := 2) hx hb dX4_next_128 (by decide) ?_
          refine lv_icmp_ne (tgt := 213) hx hb dX4_next_129 (by decide) (fun c_23 => ?_) (fun c_23 => ?_)
          · skip
            exact W.vret hx hb hr (fun t ht hW => ⟨⟨(tt, nI i, ((nI i) + 1), 0), rfl, (by exact tok_sg hc hl120 hst htt hsg), by dsimp only; rw [ht]; exact hP⟩, hS.F ht⟩) hS.2.2 dX4_next_213
          · skip
            exact absurd c_23 (sg_12 hsg).2
      · skip
        have hn3 := c_21
        refine lv_aload_n hx hb dX4_next_98 rfl (lv_at hl 0 rfl) ?_
        refine va_get (ci := 2) (v := .int tt) (C := RX4) (T := TX4) (N := 6) hx hb hts inX4 hown hK hP 0 rfl rfl 2 (by decide) f22 (fun _ h9 => h9) rfl dX4_next_99 ?_
        refine lv_iconst (v := 4) hx hb dX4_next_102 (by decide) ?_
        refine lv_icmp_ne (tgt := 116) hx hb dX4_next_103 (by decide) (fun c_24 => ?_) (fun c_24 => ?_)
        · skip
          have hn4 := c_24
          have hP : va_P D vwCl (tpw cI a q bt ln tt (nI i) (nI i) (nI 0)) H := by exact hP
          refine lpW (fun n (u : Nat × Nat) H locs ls => (u.1 + n = 121) ∧ (i ≤ u.1 ∧ u.1 ≤ ix ln) ∧ (u.2 ≤ 1000) ∧ (eT bt (ix ln) tt i = eT bt (ix ln) tt u.1) ∧ (tt = 2 → nVs bt (dE bt (ix ln) i - i) i 0 = nVs bt (dE bt (ix ln) u.1 - u.1) u.1 u.2) ∧ va_P D vwCl (tpw cI a q bt ln tt (nI i) (nI u.1) (nI u.2)) H ∧ va_S A s.heap H locs ∧ lv_has ls 1 [(0, .ref a)]) (121 - i) ((i, 0)) ⟨by show i + (121 - i) = 121; omega, ⟨Nat.le_refl i, hi1⟩, Nat.zero_le 1000, rfl, fun _ => rfl, hP, hS, lv_sub hl [0] rfl⟩ (fun n ih u H locs ls hI => ?_)
          obtain ⟨j, w⟩ := u
          obtain ⟨hj0, hj1, hj2, hj3, hj4, hP, hS, hl⟩ := hI
          have hj0 : j + n = 121 := hj0
          have hj1 : i ≤ j ∧ j ≤ ix ln := hj1
          have hj2 : w ≤ 1000 := hj2
          have hj3 : eT bt (ix ln) tt i = eT bt (ix ln) tt j := hj3
          have hj4 : tt = 2 → nVs bt (dE bt (ix ln) i - i) i 0 = nVs bt (dE bt (ix ln) j - j) j w := hj4
          have hl : lv_has ls 1 [(0, .ref a)] := hl
          have hP : va_P D vwCl (tpw cI a q bt ln tt (nI i) (nI j) (nI w)) H := hP
          have hjx : ix (nI j) = j := ix_nI (by omega)
          refine lv_aload_n hx hb dX4_next_116 rfl (lv_at hl 0 rfl) ?_
          refine va_get (ci := 2) (v := .int tt) (C := RX4) (T := TX4) (N := 6) hx hb hts inX4 hown hK hP 0 rfl rfl 2 (by decide) f22 (fun _ h9 => h9) rfl dX4_next_117 ?_
          refine lv_iconst (v := 1) hx hb dX4_next_120 (by decide) ?_
          refine lv_icmp_eq (tgt := 132) hx hb dX4_next_121 (by decide) (fun c_25 => ?_) (fun c_25 => ?_)
          · skip
            have ht1 := c_25
            refine lv_aload_n hx hb dX4_next_132 rfl (lv_at hl 0 rfl) ?_
            refine va_get (ci := 2) (v := .int (nI j)) (C := RX4) (T := TX4) (N := 6) hx hb hts inX4 hown hK hP 0 rfl rfl 4 (by decide) f28 (fun _ h9 => h9) rfl dX4_next_133 ?_
            refine lv_aload_n hx hb dX4_next_136 rfl (lv_at hl 0 rfl) ?_
            refine va_get (ci := 2) (v := .int ln) (C := RX4) (T := TX4) (N := 6) hx hb hts inX4 hown hK hP 0 rfl rfl 1 (by decide) f15 (fun _ h9 => h9) rfl dX4_next_137 ?_
            refine lv_icmp_ge (tgt := 213) hx hb dX4_next_140 (by decide) (fun c_26 => ?_) (fun c_26 => ?_)
            · skip
              have c_26n := (cmp_le (a := (ix ln)) (b := j) hlnn rfl (by omega) (by omega)).mp c_26
              exact W.vret hx hb hr (fun t ht hW => ⟨⟨(tt, nI i, nI j, nI w), rfl, (by exact tok_of hc hl120 hst htt hn3 hn4 (hj3.trans (eT_n (fun q => Nat.not_lt.mpr c_26n q.2.1))) (fun q => (hj4 q).trans (nVs_e (fun z => Nat.not_lt.mpr c_26n z.1)))), by dsimp only; rw [ht]; exact hP⟩, hS.F ht⟩) hS.2.2 dX4_next_213
            · skip
              have c_26n := mt (cmp_le (a := (ix ln)) (b := j) hlnn rfl (by omega) (by omega)).mpr c_26
              refine lv_aload_n hx hb dX4_next_143 rfl (lv_at hl 0 rfl) ?_
              refine va_get (ci := 2) (v := .ref q) (C := RX4) (T := TX4) (N := 6) hx hb hts inX4 hown hK hP 0 rfl rfl 0 (by decide) f9 (fun _ h9 => h9) rfl dX4_next_144 ?_
              refine lv_aload_n hx hb dX4_next_147 rfl (lv_at hl 0 rfl) ?_
              refine va_get (ci := 2) (v := .int (nI j)) (C := RX4) (T := TX4) (N := 6) hx hb hts inX4 hown hK hP 0 rfl rfl 4 (by decide) f28 (fun _ h9 => h9) rfl dX4_next_148 ?_
              refine va_iald hx hb hK hP 1 0 rfl rfl (vp_in_nI (by omega) (by decide)) dX4_next_151 ?_
              refine lv_to (y := bt j) (congrArg bt hjx) ?_
              refine callE (W.runS (As := [.int (bt j)]) (rest := []) ⟨hx, hb, hml, hown, hts⟩ (k_X4_tokenWith l (bt j)) (va_cwS 1 hts gX4_next_X4_tokenWith rfl rfl rfl (by decide +kernel) ⟨Nat.le_of_ble_eq_true rfl, Nat.le_of_ble_eq_true rfl⟩) ⟨PcP_fb, fun U _ _ => ⟨rfl, trivial⟩⟩ rfl rfl hl.1 rfl (lv_room (Nat.le_of_ble_eq_true rfl)) dX4_next_152 ⟨Nat.zero_le _, Nat.zero_le _⟩) ?_
              refine lv_aload_n hx hb dX4_next_155 rfl (lv_at hl 0 rfl) ?_
              refine va_get (ci := 2) (v := .int tt) (C := RX4) (T := TX4) (N := 6) hx hb hts inX4 hown hK hP 0 rfl rfl 2 (by decide) f22 (fun _ h9 => h9) rfl dX4_next_156 ?_
              refine lv_icmp_ne (tgt := 213) hx hb dX4_next_159 (by decide) (fun c_27 => ?_) (fun c_27 => ?_)
              · skip
                exact W.vret hx hb hr (fun t ht hW => ⟨⟨(tt, nI i, nI j, nI w), rfl, (by exact tok_of hc hl120 hst htt hn3 hn4 (hj3.trans (eT_n (fun q => c_27 q.2.2))) (fun q => (hj4 q).trans (nVs_e (fun z => c_27 ((tkO_dg z.2).trans q.symm))))), by dsimp only; rw [ht]; exact hP⟩, hS.F ht⟩) hS.2.2 dX4_next_213
              · skip
                have htw := c_27
                refine lv_aload_n hx hb dX4_next_162 rfl (lv_at hl 0 rfl) ?_
                refine va_get (ci := 2) (v := .int tt) (C := RX4) (T := TX4) (N := 6) hx hb hts inX4 hown hK hP 0 rfl rfl 2 (by decide) f22 (fun _ h9 => h9) rfl dX4_next_163 ?_
                refine lv_iconst (v := 2) hx hb dX4_next_166 (by decide) ?_
                refine lv_icmp_ne (tgt := 200) hx hb dX4_next_167 (by decide) (fun c_28 => ?_) (fun c_28 => ?_)
                · skip
                  refine lv_aload_n hx hb dX4_next_200 rfl (lv_at hl 0 rfl) ?_
                  refine lv_dup hx hb dX4_next_201 rfl ?_
                  refine va_get (ci := 2) (v := .int (nI j)) (C := RX4) (T := TX4) (N := 6) hx hb hts inX4 hown hK hP 0 rfl rfl 4 (by decide) f28 (fun _ h9 => h9) rfl dX4_next_202 ?_
                  refine lv_iconst (v := 1) hx hb dX4_next_205 (by decide) ?_
                  refine lv_iadd hx hb dX4_next_206 ?_
                  refine va_put (ci := 2) (v := .int ((nI j) + 1)) (ty := .int) (C := RX4) (T := TX4) (N := 6) hx hb hts inX4 tyX4 tyX4_ok nmX4 hown hK hP (hD _ rfl) hS 0 rfl rfl 4 (by decide) f28 (fun _ h9 => h9) rfl rfl rfl rfl (Nat.le_of_ble_eq_true rfl) dX4_next_207 (fun H locs hP _ hS => ?_)
                  have hP : va_P D vwCl (tpw cI a q bt ln tt (nI i) ((nI j) + 1) (nI w)) H := hP
                  refine lv_goto (tgt := 116) hx hb dX4_next_210 (by decide) ?_
                  have hP : va_P D vwCl (tpw cI a q bt ln tt (nI i) (nI (j + 1)) (nI w)) H := by rw [← nI_1]; exact hP
                  exact ih (n - 1) (by omega) ((j + 1, w)) H locs ls ⟨by omega, by omega, hj2, hj3.trans (eT_y (Or.inl ht1) (by omega) htw), fun q => absurd (q.symm.trans ht1) (by decide), hP, hS, lv_sub hl [0] rfl⟩
                · skip
                  exact absurd (c_28.symm.trans ht1) (by decide)
          · skip
            have ht1 := c_25
            refine lv_aload_n hx hb dX4_next_124 rfl (lv_at hl 0 rfl) ?_
            refine va_get (ci := 2) (v := .int tt) (C := RX4) (T := TX4) (N := 6) hx hb hts inX4 hown hK hP 0 rfl rfl 2 (by decide) f22 (fun _ h9 => h9) rfl dX4_next_125 ?_
            refine lv_iconst (v := 2) hx hb dX4_next_128 (by decide) ?_
            refine lv_icmp_ne (tgt := 213) hx hb dX4_next_129 (by decide) (fun c_29 => ?_) (fun c_29 => ?_)
            · skip
              exact W.vret hx hb hr (fun t ht hW => ⟨⟨(tt, nI i, nI j, nI w), rfl, (by exact tok_of hc hl120 hst htt hn3 hn4 (hj3.trans (eT_n (fun q => q.1.elim ht1 c_29))) (fun q => absurd q c_29)), by dsimp only; rw [ht]; exact hP⟩, hS.F ht⟩) hS.2.2 dX4_next_213
            · skip
              have ht2 := c_29
              refine lv_aload_n hx hb dX4_next_132 rfl (lv_at hl 0 rfl) ?_
              refine va_get (ci := 2) (v := .int (nI j)) (C := RX4) (T := TX4) (N := 6) hx hb hts inX4 hown hK hP 0 rfl rfl 4 (by decide) f28 (fun _ h9 => h9) rfl dX4_next_133 ?_
              refine lv_aload_n hx hb dX4_next_136 rfl (lv_at hl 0 rfl) ?_
              refine va_get (ci := 2) (v := .int ln) (C := RX4) (T := TX4) (N := 6) hx hb hts inX4 hown hK hP 0 rfl rfl 1 (by decide) f15 (fun _ h9 => h9) rfl dX4_next_137 ?_
              refine lv_icmp_ge (tgt := 213) hx hb dX4_next_140 (by decide) (fun c_30 => ?_) (fun c_30 => ?_)
              · skip
                have c_30n := (cmp_le (a := (ix ln)) (b := j) hlnn rfl (by omega) (by omega)).mp c_30
                exact W.vret hx hb hr (fun t ht hW => ⟨⟨(tt, nI i, nI j, nI w), rfl, (by exact tok_of hc hl120 hst htt hn3 hn4 (hj3.trans (eT_n (fun q => Nat.not_lt.mpr c_30n q.2.1))) (fun q => (hj4 q).trans (nVs_e (fun z => Nat.not_lt.mpr c_30n z.1)))), by dsimp only; rw [ht]; exact hP⟩, hS.F ht⟩) hS.2.2 dX4_next_213
              · skip
                have c_30n := mt (cmp_le (a := (ix ln)) (b := j) hlnn rfl (by omega) (by omega)).mpr c_30
                refine lv_aload_n hx hb dX4_next_143 rfl (lv_at hl 0 rfl) ?_
                refine va_get (ci := 2) (v := .ref q) (C := RX4) (T := TX4) (N := 6) hx hb hts inX4 hown hK hP 0 rfl rfl 0 (by decide) f9 (fun _ h9 => h9) rfl dX4_next_144 ?_
                refine lv_aload_n hx hb dX4_next_147 rfl (lv_at hl 0 rfl) ?_
                refine va_get (ci := 2) (v := .int (nI j)) (C := RX4) (T := TX4) (N := 6) hx hb hts inX4 hown hK hP 0 rfl rfl 4 (by decide) f28 (fun _ h9 => h9) rfl dX4_next_148 ?_
                refine va_iald hx hb hK hP 1 0 rfl rfl (vp_in_nI (by omega) (by decide)) dX4_next_151 ?_
                refine lv_to (y := bt j) (congrArg bt hjx) ?_
                refine callE (W.runS (As := [.int (bt j)]) (rest := []) ⟨hx, hb, hml, hown, hts⟩ (k_X4_tokenWith l (bt j)) (va_cwS 1 hts gX4_next_X4_tokenWith rfl rfl rfl (by decide +kernel) ⟨Nat.le_of_ble_eq_true rfl, Nat.le_of_ble_eq_true rfl⟩) ⟨PcP_fb, fun U _ _ => ⟨rfl, trivial⟩⟩ rfl rfl hl.1 rfl (lv_room (Nat.le_of_ble_eq_true rfl)) dX4_next_152 ⟨Nat.zero_le _, Nat.zero_le _⟩) ?_
                refine lv_aload_n hx hb dX4_next_155 rfl (lv_at hl 0 rfl) ?_
                refine va_get (ci := 2) (v := .int tt) (C := RX4) (T := TX4) (N := 6) hx hb hts inX4 hown hK hP 0 rfl rfl 2 (by decide) f22 (fun _ h9 => h9) rfl dX4_next_156 ?_
                refine lv_icmp_ne (tgt := 213) hx hb dX4_next_159 (by decide) (fun c_31 => ?_) (fun c_31 => ?_)
                · skip
                  exact W.vret hx hb hr (fun t ht hW => ⟨⟨(tt, nI i, nI j, nI w), rfl, (by exact tok_of hc hl120 hst htt hn3 hn4 (hj3.trans (eT_n (fun q => c_31 q.2.2))) (fun q => (hj4 q).trans (nVs_e (fun z => c_31 ((tkO_dg z.2).trans q.symm))))), by dsimp only; rw [ht]; exact hP⟩, hS.F ht⟩) hS.2.2 dX4_next_213
                · skip
                  have htw := c_31
                  refine lv_aload_n hx hb dX4_next_162 rfl (lv_at hl 0 rfl) ?_
                  refine va_get (ci := 2) (v := .int tt) (C := RX4) (T := TX4) (N := 6) hx hb hts inX4 hown hK hP 0 rfl rfl 2 (by decide) f22 (fun _ h9 => h9) rfl dX4_next_163 ?_
                  refine lv_iconst (v := 2) hx hb dX4_next_166 (by decide) ?_
                  refine lv_icmp_ne (tgt := 200) hx hb dX4_next_167 (by decide) (fun c_32 => ?_) (fun c_32 => ?_)
                  · skip
                    exact absurd ht2 c_32
                  · skip
                    refine lv_aload_n hx hb dX4_next_170 rfl (lv_at hl 0 rfl) ?_
                    refine lv_sipush (v := 1000) hx hb dX4_next_171 (by decide) ?_
                    refine lv_bipush (v := 10) hx hb dX4_next_174 (by decide) ?_
                    refine lv_aload_n hx hb dX4_next_176 rfl (lv_at hl 0 rfl) ?_
                    refine va_get (ci := 2) (v := .int (nI w)) (C := RX4) (T := TX4) (N := 6) hx hb hts inX4 hown hK hP 0 rfl rfl 5 (by decide) f31 (fun _ h9 => h9) rfl dX4_next_177 ?_
                    refine lv_imul hx hb dX4_next_180 ?_
                    refine lv_aload_n hx hb dX4_next_181 rfl (lv_at hl 0 rfl) ?_
                    refine va_get (ci := 2) (v := .ref q) (C := RX4) (T := TX4) (N := 6) hx hb hts inX4 hown hK hP 0 rfl rfl 0 (by decide) f9 (fun _ h9 => h9) rfl dX4_next_182 ?_
                    refine lv_aload_n hx hb dX4_next_185 rfl (lv_at hl 0 rfl) ?_
                    refine va_get (ci := 2) (v := .int (nI j)) (C := RX4) (T := TX4) (N := 6) hx hb hts inX4 hown hK hP 0 rfl rfl 4 (by decide) f28 (fun _ h9 => h9) rfl dX4_next_186 ?_
                    refine va_iald hx hb hK hP 1 0 rfl rfl (vp_in_nI (by omega) (by decide)) dX4_next_189 ?_
                    refine lv_to (y := bt j) (congrArg bt hjx) ?_
                    refine lv_iadd hx hb dX4_next_190 ?_
                    refine lv_bipush (v := 48) hx hb dX4_next_191 (by decide) ?_
                    refine lv_isub hx hb dX4_next_193 ?_
                    refine va_mmin hx hb (by rw [hml]; exact hl.1.symm) hown ml38 stmin iMath comin (Nat.le_of_ble_eq_true rfl) (Nat.le_of_ble_eq_true rfl) (Nat.zero_le _) (Nat.zero_le _) dX4_next_194 ?_
                    refine va_put (ci := 2) (v := .int (if (((10 * (nI w)) + (bt j)) - 48) < 1000 then (((10 * (nI w)) + (bt j)) - 48) else 1000)) (ty := .int) (C := RX4) (T := TX4) (N := 6) hx hb hts inX4 tyX4 tyX4_ok nmX4 hown hK hP (hD _ rfl) hS 0 rfl rfl 5 (by decide) f31 (fun _ h9 => h9) rfl rfl rfl rfl (Nat.le_of_ble_eq_true rfl) dX4_next_197 (fun H locs hP _ hS => ?_)
                    have hP : va_P D vwCl (tpw cI a q bt ln tt (nI i) (nI j) (if (((10 * (nI w)) + (bt j)) - 48) < 1000 then (((10 * (nI w)) + (bt j)) - 48) else 1000)) H := hP
                    refine lv_aload_n hx hb dX4_next_200 rfl (lv_at hl 0 rfl) ?_
                    refine lv_dup hx hb dX4_next_201 rfl ?_
                    refine va_get (ci := 2) (v := .int (nI j)) (C := RX4) (T := TX4) (N := 6) hx hb hts inX4 hown hK hP 0 rfl rfl 4 (by decide) f28 (fun _ h9 => h9) rfl dX4_next_202 ?_
                    refine lv_iconst (v := 1) hx hb dX4_next_205 (by decide) ?_
                    refine lv_iadd hx hb dX4_next_206 ?_
                    refine va_put (ci := 2) (v := .int ((nI j) + 1)) (ty := .int) (C := RX4) (T := TX4) (N := 6) hx hb hts inX4 tyX4 tyX4_ok nmX4 hown hK hP (hD _ rfl) hS 0 rfl rfl 4 (by decide) f28 (fun _ h9 => h9) rfl rfl rfl rfl (Nat.le_of_ble_eq_true rfl) dX4_next_207 (fun H locs hP _ hS => ?_)
                    have hP : va_P D vwCl (tpw cI a q bt ln tt (nI i) ((nI j) + 1) (if (((10 * (nI w)) + (bt j)) - 48) < 1000 then (((10 * (nI w)) + (bt j)) - 48) else 1000)) H := hP
                    refine lv_goto (tgt := 116) hx hb dX4_next_210 (by decide) ?_
                    have hdg : isDg (bt j) := tkO_2 (htw.trans ht2)
                    have hP : va_P D vwCl (tpw cI a q bt ln tt (nI i) (nI (j + 1)) (nI (min 1000 (10 * w + (ix (bt j) - 48))))) H := by rw [← nI_1, ← dg_min hj2 hdg]; exact hP
                    exact ih (n - 1) (by omega) ((j + 1, min 1000 (10 * w + (ix (bt j) - 48)))) H locs ls ⟨by omega, by omega, by omega, hj3.trans (eT_y (Or.inr ht2) (by omega) htw), fun q => (hj4 q).trans (nVs_s (by omega) hdg), hP, hS, lv_sub hl [0] rfl⟩
        · skip
          have hsg : tt = 3 ∨ tt = 4 := Or.inr c_24
          refine lv_aload_n hx hb dX4_next_106 rfl (lv_at hl 0 rfl) ?_
          refine lv_aload_n hx hb dX4_next_107 rfl (lv_at hl 0 rfl) ?_
          refine va_get (ci := 2) (v := .int (nI i)) (C := RX4) (T := TX4) (N := 6) hx hb hts inX4 hown hK hP 0 rfl rfl 3 (by decide) f25 (fun _ h9 => h9) rfl dX4_next_108 ?_
          refine lv_iconst (v := 1) hx hb dX4_next_111 (by decide) ?_
          refine lv_iadd hx hb dX4_next_112 ?_
          refine va_put (ci := 2) (v := .int ((nI i) + 1)) (ty := .int) (C := RX4) (T := TX4) (N := 6) hx hb hts inX4 tyX4 tyX4_ok nmX4 hown hK hP (hD _ rfl) hS 0 rfl rfl 4 (by decide) f28 (fun _ h9 => h9) rfl rfl rfl rfl (Nat.le_of_ble_eq_true rfl) dX4_next_113 (fun H locs hP _ hS => ?_)
          have hP : va_P D vwCl (tpw cI a q bt ln tt (nI i) ((nI i) + 1) 0) H := hP
          refine lv_aload_n hx hb dX4_next_116 rfl (lv_at hl 0 rfl) ?_
          refine va_get (ci := 2) (v := .int tt) (C := RX4) (T := TX4) (N := 6) hx hb hts inX4 hown hK hP 0 rfl rfl 2 (by decide) f22 (fun _ h9 => h9) rfl dX4_next_117 ?_
          refine lv_iconst (v := 1) hx hb dX4_next_120 (by decide) ?_
          refine lv_icmp_eq (tgt := 132) hx hb dX4_next_121 (by decide) (fun c_33 => ?_) (fun c_33 => ?_)
          · skip
            exact absurd c_33 (sg_12 hsg).1
          · skip
            have ht1 := c_33
            refine lv_aload_n hx hb dX4_next_124 rfl (lv_at hl 0 rfl) ?_
            refine va_get (ci := 2) (v := .int tt) (C := RX4) (T := TX4) (N := 6) hx hb hts inX4 hown hK hP 0 rfl rfl 2 (by decide) f22 (fun _ h9 => h9) rfl dX4_next_125 ?_
            refine lv_iconst (v := 2) hx hb dX4_next_128 (by decide) ?_
            refine lv_icmp_ne (tgt := 213) hx hb dX4_next_129 (by decide) (fun c_34 => ?_) (fun c_34 => ?_)
            · skip
              exact W.vret hx hb hr (fun t ht hW => ⟨⟨(tt, nI i, ((nI i) + 1), 0), rfl, (by exact tok_sg hc hl120 hst htt hsg), by dsimp only; rw [ht]; exact hP⟩, hS.F ht⟩) hS.2.2 dX4_next_213
            · skip
              exact absurd c_34 (sg_12 hsg).2
    · skip
      refine lv_aload_n hx hb dX4_next_33 rfl (lv_at hl 0 rfl) ?_
      refine lv_dup hx hb dX4_next_34 rfl ?_
      refine va_get (ci := 2) (v := .int (nI i)) (C := RX4) (T := TX4) (N := 6) hx hb hts inX4 hown hK hP 0 rfl rfl 3 (by decide) f25 (fun _ h9 => h9) rfl dX4_next_35 ?_
      refine lv_iconst (v := 1) hx hb dX4_next_38 (by decide) ?_
      refine lv_iadd hx hb dX4_next_39 ?_
      refine va_put (ci := 2) (v := .int ((nI i) + 1)) (ty := .int) (C := RX4) (T := TX4) (N := 6) hx hb hts inX4 tyX4 tyX4_ok nmX4 hown hK hP (hD _ rfl) hS 0 rfl rfl 3 (by decide) f25 (fun _ h9 => h9) rfl rfl rfl rfl (Nat.le_of_ble_eq_true rfl) dX4_next_40 (fun H locs hP _ hS => ?_)
      have hP : va_P D vwCl (tpw cI a q bt ln tk ((nI i) + 1) en nm) H := hP
      refine lv_goto (tgt := 8) hx hb dX4_next_43 (by decide) ?_
      have hP : va_P D vwCl (tpw cI a q bt ln tk (nI (i + 1)) en nm) H := by rw [← nI_1]; exact hP
      exact ih (n - 1) (by omega) (i + 1) H locs ls ⟨by omega, by omega, by rw [hi2]; exact sT_y (by omega) c_18, hP, hS, lv_sub hl [0] rfl⟩
