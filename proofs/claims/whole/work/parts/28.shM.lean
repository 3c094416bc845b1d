set_option maxRecDepth 100000 in
set_option maxHeartbeats 4000000 in
theorem k_X6_narrow (l : Launch) (x0 : Int32) (x1 : Int64) : Met l yX6_narrow wsX6_narrow { frames := 0, cells := 0, slots := 0, locals := 0 } (PcP [.int x0, .long x1]) (vp_Sl (fun r => r = sNar x0 x1)) 0 0 (fun _ => False) := by
  refine Met.ofW (cc := cX6_narrow) (maxL := 3) (ret := (some .long)) (by decide) rfl ?_
  intro p e s m args below meth c s₁ B hml hv
  obtain ⟨rfl, -⟩ := hv
  have hx := B.exec
  have hb := B.bytes
  have hr := B.returns
  have hts := atoms_spec (ws := wsX6_narrow) B.pre
  have hown : s.vm.findClass RX6 = some m.cls := findClass_of_methodNamed B.named
  have hlocks := B.notSynchronized
  have hl := lv_entry ([.int x0, .long x1]) (n := 3) (Nat.le_of_ble_eq_true rfl)
  rw [lg_entry_eq]
  generalize (lg_sl ([.int x0, .long x1]) ++ List.replicate (3 - (lg_sl ([.int x0, .long x1])).length) Slot.unset).toArray = ls at hl ⊢
  have hl : lv_has ls 3 [(0, .int x0), (1, .long x1)] := hl
  refine lv_iload_n hx hb dX6_narrow_0 rfl (lv_at hl 0 rfl) ?_
  refine lv_bipush (v := 8) hx hb dX6_narrow_1 (by decide) ?_
  refine lv_icmp_ne (tgt := 16) hx hb dX6_narrow_3 (by decide) (fun c_1 => ?_) (fun c_1 => ?_)
  · skip
    refine lv_iload_n hx hb dX6_narrow_16 rfl (lv_at hl 0 rfl) ?_
    refine lv_bipush (v := 16) hx hb dX6_narrow_17 (by decide) ?_
    refine lv_icmp_ne (tgt := 32) hx hb dX6_narrow_19 (by decide) (fun c_2 => ?_) (fun c_2 => ?_)
    · skip
      refine lv_lload_n hx hb dX6_narrow_32 rfl (lv_at hl 1 rfl) ?_
      exact W.lret hx hb hr (fun t ht hW => ⟨_, rfl, (by rw [← nar_eq]; simp [c_1, c_2]), ht⟩) (fun _ h => absurd h List.not_mem_nil) dX6_narrow_33
    · skip
      refine lv_lload_n hx hb dX6_narrow_22 rfl (lv_at hl 1 rfl) ?_
      refine lv_bipush (v := 48) hx hb dX6_narrow_23 (by decide) ?_
      refine lv_lshl (v := (x1 <<< ((48 : Int32).toInt64 &&& 63))) hx hb dX6_narrow_25 rfl ?_
      refine lv_bipush (v := 48) hx hb dX6_narrow_26 (by decide) ?_
      refine lv_lshr (v := ((x1 <<< ((48 : Int32).toInt64 &&& 63)) >>> ((48 : Int32).toInt64 &&& 63))) hx hb dX6_narrow_28 rfl ?_
      refine lv_goto (tgt := 33) hx hb dX6_narrow_29 (by decide) ?_
      exact W.lret hx hb hr (fun t ht hW => ⟨_, rfl, (by rw [← nar_eq]; simp [c_1, c_2]), ht⟩) (fun _ h => absurd h List.not_mem_nil) dX6_narrow_33
  · skip
    refine lv_lload_n hx hb dX6_narrow_6 rfl (lv_at hl 1 rfl) ?_
    refine lv_bipush (v := 56) hx hb dX6_narrow_7 (by decide) ?_
    refine lv_lshl (v := (x1 <<< ((56 : Int32).toInt64 &&& 63))) hx hb dX6_narrow_9 rfl ?_
    refine lv_bipush (v := 56) hx hb dX6_narrow_10 (by decide) ?_
    refine lv_lshr (v := ((x1 <<< ((56 : Int32).toInt64 &&& 63)) >>> ((56 : Int32).toInt64 &&& 63))) hx hb dX6_narrow_12 rfl ?_
    refine lv_goto (tgt := 33) hx hb dX6_narrow_13 (by decide) ?_
    exact W.lret hx hb hr (fun t ht hW => ⟨_, rfl, (by rw [← nar_eq]; simp [c_1]), ht⟩) (fun _ h => absurd h List.not_mem_nil) dX6_narrow_33

set_option maxRecDepth 100000 in
set_option maxHeartbeats 4000000 in
theorem k_X6_isPart_ (l : Launch) (D : va_G) (cI cL cS : ClassId) (b : Nat → Nat) (co gu : Int32) (kn fo sp ki pl ea to qu : FI) (fd mo tr b1 tp : FI) (tm so bg te : Int32) (wd : Int64) (va gd : Int32) (bo sz : FI) (sh le : FJ) (im bf : FI) (ik : Int32) (x0 : Int32) (x1 : Int32) (x2 : Int32) (h0 : vp_in x0 4) : Met l yX6_isPart_ wsX6_isPart_ { frames := 0, cells := 0, slots := 0, locals := 0 } (PcR D vwCl (tyG cI cL cS) [.ref (b 0), .int x0, .int x1, .int x2] (mdw cI cL b (enc co gu kn fo sp ki pl ea to qu) fd mo tr b1 tp tm so bg te wd va gd bo sz sh le im bf ik)) (vp_Si (fun r => r = bI (cRun (sz (ix x0)) x1 x2))) 0 0 (fun _ => False) := by
  refine Met.ofW (cc := cX6_isPart_) (maxL := 4) (ret := (some .boolean)) (by decide) rfl ?_
  intro p e s m args below meth c s₁ B hml hv
  obtain ⟨rfl, hP, hK⟩ := hv
  have hx := B.exec
  have hb := B.bytes
  have hr := B.returns
  have hts := atoms_spec (ws := wsX6_isPart_) B.pre
  have hown : s.vm.findClass RX6 = some m.cls := findClass_of_methodNamed B.named
  have hlocks := B.notSynchronized
  have hl := lv_entry ([.ref (b 0), .int x0, .int x1, .int x2]) (n := 4) (Nat.le_of_ble_eq_true rfl)
  rw [lg_entry_eq]
  generalize (lg_sl ([.ref (b 0), .int x0, .int x1, .int x2]) ++ List.replicate (4 - (lg_sl ([.ref (b 0), .int x0, .int x1, .int x2])).length) Slot.unset).toArray = ls at hl ⊢
  have hl : lv_has ls 4 [(0, .ref (b 0)), (1, .int x0), (2, .int x1), (3, .int x2)] := hl
  have f31 := hts (.fieldLink RX6 31 "KnivesLaidModel" "sizeOf" "[I") (List.mem_of_getElem? (i := 1) rfl)
  have inX6 : ∀ w ∈ u_ws RX6 TX6 20, w ∈ wsX6_isPart_ := in_at 2 _ _ rfl
  refine lv_iload_n hx hb dX6_isPart__0 rfl (lv_at hl 2 rfl) ?_
  refine lv_if_lt (tgt := 34) hx hb dX6_isPart__1 (by decide) (fun c_1 => ?_) (fun c_1 => ?_)
  · skip
    refine lv_iconst (v := 0) hx hb dX6_isPart__34 (by decide) ?_
    exact W.zret (ty := .boolean) hx hb hr rfl (fun t ht hW => ⟨_, rfl, (by exact (bI_f ((fun h => by first | exact absurd h.1 c_1 | exact absurd c_1 h.1 | exact absurd h.2.1 c_1 | exact absurd c_1 h.2.1 | exact absurd h.2.2.1 c_1 | exact absurd c_1 h.2.2.1 | exact absurd h.2.2.2 c_1 | exact absurd c_1 h.2.2.2))).symm), ht⟩) (fun _ h => absurd h List.not_mem_nil) dX6_isPart__35
  · skip
    refine lv_iload_n hx hb dX6_isPart__4 rfl (lv_at hl 3 rfl) ?_
    refine lv_if_lt (tgt := 34) hx hb dX6_isPart__5 (by decide) (fun c_2 => ?_) (fun c_2 => ?_)
    · skip
      refine lv_iconst (v := 0) hx hb dX6_isPart__34 (by decide) ?_
      exact W.zret (ty := .boolean) hx hb hr rfl (fun t ht hW => ⟨_, rfl, (by exact (bI_f ((fun h => by first | exact absurd h.1 c_2 | exact absurd c_2 h.1 | exact absurd h.2.1 c_2 | exact absurd c_2 h.2.1 | exact absurd h.2.2.1 c_2 | exact absurd c_2 h.2.2.1 | exact absurd h.2.2.2 c_2 | exact absurd c_2 h.2.2.2))).symm), ht⟩) (fun _ h => absurd h List.not_mem_nil) dX6_isPart__35
    · skip
      refine lv_iload_n hx hb dX6_isPart__8 rfl (lv_at hl 3 rfl) ?_
      refine lv_aload_n hx hb dX6_isPart__9 rfl (lv_at hl 0 rfl) ?_
      refine va_get (ci := 4) (v := .ref (b 8)) (C := RX6) (T := TX6) (N := 20) hx hb hts inX6 hown hK hP 0 rfl rfl 14 (by decide) f31 (fun _ h9 => h9) rfl dX6_isPart__10 ?_
      refine lv_iload_n hx hb dX6_isPart__13 rfl (lv_at hl 1 rfl) ?_
      refine va_iald hx hb hK hP 8 0 rfl rfl (by assumption) dX6_isPart__14 ?_
      refine lv_icmp_gt (tgt := 34) hx hb dX6_isPart__15 (by decide) (fun c_3 => ?_) (fun c_3 => ?_)
      · skip
        refine lv_iconst (v := 0) hx hb dX6_isPart__34 (by decide) ?_
        exact W.zret (ty := .boolean) hx hb hr rfl (fun t ht hW => ⟨_, rfl, (by exact (bI_f ((fun h => by first | exact absurd h.1 c_3 | exact absurd c_3 h.1 | exact absurd h.2.1 c_3 | exact absurd c_3 h.2.1 | exact absurd h.2.2.1 c_3 | exact absurd c_3 h.2.2.1 | exact absurd h.2.2.2 c_3 | exact absurd c_3 h.2.2.2))).symm), ht⟩) (fun _ h => absurd h List.not_mem_nil) dX6_isPart__35
      · skip
        refine lv_iload_n hx hb dX6_isPart__18 rfl (lv_at hl 2 rfl) ?_
        refine lv_aload_n hx hb dX6_isPart__19 rfl (lv_at hl 0 rfl) ?_
        refine va_get (ci := 4) (v := .ref (b 8)) (C := RX6) (T := TX6) (N := 20) hx hb hts inX6 hown hK hP 0 rfl rfl 14 (by decide) f31 (fun _ h9 => h9) rfl dX6_isPart__20 ?_
        refine lv_iload_n hx hb dX6_isPart__23 rfl (lv_at hl 1 rfl) ?_
        refine va_iald hx hb hK hP 8 0 rfl rfl (by assumption) dX6_isPart__24 ?_
        refine lv_iload_n hx hb dX6_isPart__25 rfl (lv_at hl 3 rfl) ?_
        refine lv_isub hx hb dX6_isPart__26 ?_
        refine lv_icmp_gt (tgt := 34) hx hb dX6_isPart__27 (by decide) (fun c_4 => ?_) (fun c_4 => ?_)
        · skip
          refine lv_iconst (v := 0) hx hb dX6_isPart__34 (by decide) ?_
          exact W.zret (ty := .boolean) hx hb hr rfl (fun t ht hW => ⟨_, rfl, (by exact (bI_f ((fun h => by first | exact absurd h.1 c_4 | exact absurd c_4 h.1 | exact absurd h.2.1 c_4 | exact absurd c_4 h.2.1 | exact absurd h.2.2.1 c_4 | exact absurd c_4 h.2.2.1 | exact absurd h.2.2.2 c_4 | exact absurd c_4 h.2.2.2))).symm), ht⟩) (fun _ h => absurd h List.not_mem_nil) dX6_isPart__35
        · skip
          refine lv_iconst (v := 1) hx hb dX6_isPart__30 (by decide) ?_
          refine lv_goto (tgt := 35) hx hb dX6_isPart__31 (by decide) ?_
          exact W.zret (ty := .boolean) hx hb hr rfl (fun t ht hW => ⟨_, rfl, (by exact (bI_t (⟨c_1, c_2, c_3, c_4⟩)).symm), ht⟩) (fun _ h => absurd h List.not_mem_nil) dX6_isPart__35

set_option maxRecDepth 100000 in
set_option maxHeartbeats 4000000 in
theorem k_X6_badSheet (l : Launch) (D : va_G) (cI cL cS : ClassId) (b : Nat → Nat) (co gu : Int32) (kn fo sp ki pl ea to qu : FI) (fd mo tr b1 tp : FI) (tm so bg te : Int32) (wd : Int64) (va gd : Int32) (bo sz : FI) (sh le : FJ) (im bf : FI) (ik : Int32) (x0 : Int32)  : Met l yX6_badSheet wsX6_badSheet { frames := 2, cells := 0, slots := 0, locals := 42 } (PcR D vwCl (tyG cI cL cS) [.ref (b 0), .int x0] (mdw cI cL b (enc co gu kn fo sp ki pl ea to qu) fd mo tr b1 tp tm so bg te wd va gd bo sz sh le im bf ik)) (vp_Si (fun r => r = sBad bo x0)) 0 0 (fun _ => False) := by
  refine Met.ofW (cc := cX6_badSheet) (maxL := 2) (ret := (some .int)) (by decide) rfl ?_
  intro p e s m args below meth c s₁ B hml hv
  obtain ⟨rfl, hP, hK⟩ := hv
  have hx := B.exec
  have hb := B.bytes
  have hr := B.returns
  have hts := atoms_spec (ws := wsX6_badSheet) B.pre
  have hown : s.vm.findClass RX6 = some m.cls := findClass_of_methodNamed B.named
  have hlocks := B.notSynchronized
  have hl := lv_entry ([.ref (b 0), .int x0]) (n := 2) (Nat.le_of_ble_eq_true rfl)
  rw [lg_entry_eq]
  generalize (lg_sl ([.ref (b 0), .int x0]) ++ List.replicate (2 - (lg_sl ([.ref (b 0), .int x0])).length) Slot.unset).toArray = ls at hl ⊢
  have hl : lv_has ls 2 [(0, .ref (b 0)), (1, .int x0)] := hl
  have f28 := hts (.fieldLink RX6 28 "KnivesLaidModel" "bitsOf" "[I") (List.mem_of_getElem? (i := 2) rfl)
  have inX6 : ∀ w ∈ u_ws RX6 TX6 20, w ∈ wsX6_badSheet := in_at 11 _ _ rfl
  have k257 := hts (.constant RX6 257 (-1000000006)) (List.mem_of_getElem? (i := 3) rfl)
  have k47 := hts (.constant RX6 47 (-1000000001)) (List.mem_of_getElem? (i := 1) rfl)
  refine lv_iload_n hx hb dX6_badSheet_0 rfl (lv_at hl 1 rfl) ?_
  refine callE (W.runS (As := [.int x0]) (rest := []) ⟨hx, hb, hml, hown, hts⟩ (k_X6_isSheet l x0) (va_cwS 1 hts gX6_badSheet_X6_isSheet rfl rfl rfl (by decide +kernel) ⟨Nat.le_of_ble_eq_true rfl, Nat.le_of_ble_eq_true rfl⟩) ⟨PcP_fb, fun U _ _ => ⟨rfl, trivial⟩⟩ rfl rfl hl.1 rfl (lv_room (Nat.le_of_ble_eq_true rfl)) dX6_badSheet_1 ⟨Nat.zero_le _, Nat.zero_le _⟩) ?_
  refine lv_if_ne (tgt := 12) hx hb dX6_badSheet_4 (by decide) (fun c_1 => ?_) (fun c_1 => ?_)
  · skip
    have c_1b := bI_n c_1
    have hs := c_1b
    refine lv_aload_n hx hb dX6_badSheet_12 rfl (lv_at hl 0 rfl) ?_
    refine va_get (ci := 4) (v := .ref (b 7)) (C := RX6) (T := TX6) (N := 20) hx hb hts inX6 hown hK hP 0 rfl rfl 13 (by decide) f28 (fun _ h9 => h9) rfl dX6_badSheet_13 ?_
    refine lv_iload_n hx hb dX6_badSheet_16 rfl (lv_at hl 1 rfl) ?_
    refine va_iald hx hb hK hP 7 0 rfl rfl hs dX6_badSheet_17 ?_
    refine lv_if_ne (tgt := 27) hx hb dX6_badSheet_18 (by decide) (fun c_2 => ?_) (fun c_2 => ?_)
    · skip
      refine lv_iconst (v := 0) hx hb dX6_badSheet_27 (by decide) ?_
      exact W.iret hx hb hr (fun t ht hW => ⟨_, rfl, (by exact ((iF_t c_1b).trans (iF_f c_2)).symm), ht⟩) (fun _ h => absurd h List.not_mem_nil) dX6_badSheet_28
    · skip
      refine lv_ldcw hx hb hown k257 dX6_badSheet_21 ?_
      refine lv_goto (tgt := 28) hx hb dX6_badSheet_24 (by decide) ?_
      exact W.iret hx hb hr (fun t ht hW => ⟨_, rfl, (by exact ((iF_t c_1b).trans (iF_t c_2)).symm), ht⟩) (fun _ h => absurd h List.not_mem_nil) dX6_badSheet_28
  · skip
    have c_1b := bI_0 c_1
    refine lv_ldc hx hb hown k47 dX6_badSheet_7 ?_
    refine lv_goto (tgt := 28) hx hb dX6_badSheet_9 (by decide) ?_
    exact W.iret hx hb hr (fun t ht hW => ⟨_, rfl, (by exact (iF_f c_1b).symm), ht⟩) (fun _ h => absurd h List.not_mem_nil) dX6_badSheet_28

set_option maxRecDepth 100000 in
set_option maxHeartbeats 4000000 in
theorem k_X6_sheet (l : Launch) (D : va_G) (cI cL cS : ClassId) (b : Nat → Nat) (co gu : Int32) (kn fo sp ki pl ea to qu : FI) (fd : FI) (mo : FI) (tr : FI) (b1 : FI) (tp : FI) (tm : Int32) (so : Int32) (bg : Int32) (te : Int32) (wd : Int64) (va : Int32) (gd : Int32) (bo : FI) (sz : FI) (le : FJ) (im : FI) (bf : FI) (ik : Int32) (num : Nat → FJ) (x0 : Int32) (x1 : Int32) (x2 : Int32) (dj : va_D (fun _ => True) (dj0 b 13))  : Met l yX6_sheet wsX6_sheet { frames := 2, cells := 0, slots := 0, locals := 42 } (PcR D vwCl (tyG cI cL cS) [.ref (b 0), .int x0, .int x1, .int x2] (mdw cI cL b (enc co gu kn fo sp ki pl ea to qu) fd mo tr b1 tp tm so bg te wd va gd bo sz (flat4 num) le im bf ik)) (va_Qi (fun (r : Int32) (u : FI × FI × (Nat → FJ) × FI) => (r, u.1, u.2.1, u.2.2.1, u.2.2.2) = sSheet bo sz num fd x0 x1 x2) (fun u t => va_P D vwCl (mdw cI cL b (enc co gu kn fo sp ki pl ea to qu) u.2.2.2 mo tr b1 tp tm so bg te wd va gd u.1 u.2.1 (flat4 u.2.2.1) le im bf ik) t.heap) (Aof (mdw cI cL b (enc co gu kn fo sp ki pl ea to qu) fd mo tr b1 tp tm so bg te wd va gd bo sz (flat4 num) le im bf ik))) 0 0 (Aof (mdw cI cL b (enc co gu kn fo sp ki pl ea to qu) fd mo tr b1 tp tm so bg te wd va gd bo sz (flat4 num) le im bf ik)) := by
  refine Met.ofW (cc := cX6_sheet) (maxL := 5) (ret := (some .int)) (by decide) rfl ?_
  intro p e s m args below meth c s₁ B hml hv
  obtain ⟨rfl, hP, hK⟩ := hv
  have hx := B.exec
  have hb := B.bytes
  have hr := B.returns
  have hts := atoms_spec (ws := wsX6_sheet) B.pre
  have hown : s.vm.findClass RX6 = some m.cls := findClass_of_methodNamed B.named
  have hlocks := B.notSynchronized
  obtain ⟨A, hAe⟩ : ∃ A, A = Aof (mdw cI cL b (enc co gu kn fo sp ki pl ea to qu) fd mo tr b1 tp tm so bg te wd va gd bo sz (flat4 num) le im bf ik) := ⟨_, rfl⟩
  rw [← hAe]
  have hD : ∀ ws' : va_W, ws'.map Prod.fst = (mdw cI cL b (enc co gu kn fo sp ki pl ea to qu) fd mo tr b1 tp tm so bg te wd va gd bo sz (flat4 num) le im bf ik).map Prod.fst → va_D A ws' := fun ws' e => by rw [hAe]; exact va_D_adr (va_D_self (va_D_adr dj rfl)) e
  have hS : va_S A s.heap s.heap [] := va_S.rf
  have hP : va_P D vwCl (mdw cI cL b (enc co gu kn fo sp ki pl ea to qu) fd mo tr b1 tp tm so bg te wd va gd bo sz (flat4 num) le im bf ik) s.heap := hP
  have hl := lv_entry ([.ref (b 0), .int x0, .int x1, .int x2]) (n := 5) (Nat.le_of_ble_eq_true rfl)
  rw [lg_entry_eq]
  generalize (lg_sl ([.ref (b 0), .int x0, .int x1, .int x2]) ++ List.replicate (5 - (lg_sl ([.ref (b 0), .int x0, .int x1, .int x2])).length) Slot.unset).toArray = ls at hl ⊢
  have hl : lv_has ls 5 [(0, .ref (b 0)), (1, .int x0), (2, .int x1), (3, .int x2)] := hl
  have k47 := hts (.constant RX6 47 (-1000000001)) (List.mem_of_getElem? (i := 1) rfl)
  have f28 := hts (.fieldLink RX6 28 "KnivesLaidModel" "bitsOf" "[I") (List.mem_of_getElem? (i := 3) rfl)
  have inX6 : ∀ w ∈ u_ws RX6 TX6 20, w ∈ wsX6_sheet := in_at 18 _ _ rfl
  have f31 := hts (.fieldLink RX6 31 "KnivesLaidModel" "sizeOf" "[I") (List.mem_of_getElem? (i := 4) rfl)
  have f34 := hts (.fieldLink RX6 34 "KnivesLaidModel" "sheets" "[J") (List.mem_of_getElem? (i := 5) rfl)
  have k256 := hts (.constant RX6 256 (-1000000007)) (List.mem_of_getElem? (i := 2) rfl)
  skip
  refine lv_iload_n hx hb dX6_sheet_0 rfl (lv_at hl 1 rfl) ?_
  refine callE (W.runS (As := [.int x0]) (rest := []) ⟨hx, hb, hml, hown, hts⟩ (k_X6_isSheet l x0) (va_cwS 1 hts gX6_sheet_X6_isSheet rfl rfl rfl (by decide +kernel) ⟨Nat.le_of_ble_eq_true rfl, Nat.le_of_ble_eq_true rfl⟩) ⟨PcP_fb, fun U _ _ => ⟨rfl, trivial⟩⟩ rfl rfl hl.1 rfl (lv_room (Nat.le_of_ble_eq_true rfl)) dX6_sheet_1 ⟨Nat.zero_le _, Nat.zero_le _⟩) ?_
  refine lv_if_eq (tgt := 29) hx hb dX6_sheet_4 (by decide) (fun c_1 => ?_) (fun c_1 => ?_)
  · skip
    have c_1b := bI_0 c_1
    refine lv_aload_n hx hb dX6_sheet_29 rfl (lv_at hl 0 rfl) ?_
    refine lv_ldc hx hb hown k47 dX6_sheet_30 ?_
    refine callMi (va_runV (As := [.int (-1000000001)]) (rest := []) ⟨hx, hb, hml, hown, hts⟩ (k_X6_finds l D cI cL cS b co gu kn fo sp ki pl ea to qu fd mo tr b1 tp tm so bg te wd va gd bo sz (flat4 num) le im bf ik (-1000000001) (va_DT (hD _ rfl) rfl) (vp_in_iff.mpr (by decide))) (cwV 1 hts gX6_sheet_X6_finds rfl rfl rfl (by decide +kernel) ⟨Nat.le_of_ble_eq_true rfl, Nat.le_of_ble_eq_true rfl⟩) ⟨PcR_fb, va_recv hK hP (ci := 4) (q0 := 0) rfl rfl, PcR_pre hP hK⟩ rfl rfl hl.1 rfl (lv_room (Nat.le_of_ble_eq_true rfl)) dX6_sheet_32 ⟨Nat.zero_le _, Nat.zero_le _⟩) hP (hD _ rfl) hS 0 13 rfl (fun r_3 u_2 H locs hu_2 hP hS => ?_)
    obtain ⟨hu_2r, hu_2⟩ := hu_2
    subst hu_2r
    have hP : va_P D vwCl (mdw cI cL b (enc co gu kn fo sp ki pl ea to qu) (bump fd (-1000000001)) mo tr b1 tp tm so bg te wd va gd bo sz (flat4 num) le im bf ik) H := hP
    exact W.iret hx hb hr (fun t ht hW => ⟨⟨_, (bo, sz, num, bump fd (-1000000001)), rfl, (by exact (iF_f (fun h => by first | exact absurd h.1 c_1b | exact absurd c_1b h.1)).symm), by dsimp only; rw [ht]; exact hP⟩, hS.F ht⟩) hS.2.2 dX6_sheet_35
  · skip
    have c_1b := bI_n c_1
    have hs := c_1b
    refine lv_iload_n hx hb dX6_sheet_7 rfl (lv_at hl 2 rfl) ?_
    refine lv_if_eq (tgt := 36) hx hb dX6_sheet_8 (by decide) (fun c_4 => ?_) (fun c_4 => ?_)
    · skip
      refine lv_iload_n hx hb dX6_sheet_36 rfl (lv_at hl 3 rfl) ?_
      refine lv_if_ge (tgt := 48) hx hb dX6_sheet_37 (by decide) (fun c_5 => ?_) (fun c_5 => ?_)
      · skip
        refine lv_iload_n hx hb dX6_sheet_48 rfl (lv_at hl 3 rfl) ?_
        refine lv_bipush (v := 40) hx hb dX6_sheet_49 (by decide) ?_
        refine lv_icmp_le (tgt := 61) hx hb dX6_sheet_51 (by decide) (fun c_6 => ?_) (fun c_6 => ?_)
        · skip
          refine lv_aload_n hx hb dX6_sheet_61 rfl (lv_at hl 0 rfl) ?_
          refine va_get (ci := 4) (v := .ref (b 7)) (C := RX6) (T := TX6) (N := 20) hx hb hts inX6 hown hK hP 0 rfl rfl 13 (by decide) f28 (fun _ h9 => h9) rfl dX6_sheet_62 ?_
          refine lv_iload_n hx hb dX6_sheet_65 rfl (lv_at hl 1 rfl) ?_
          refine lv_iload_n hx hb dX6_sheet_66 rfl (lv_at hl 2 rfl) ?_
          refine va_iast hx hb hK hP (hD _ rfl) hS 7 0 rfl rfl hs dX6_sheet_67 (fun H locs hP _ hS => ?_)
          have hP : va_P D vwCl (mdw cI cL b (enc co gu kn fo sp ki pl ea to qu) fd mo tr b1 tp tm so bg te wd va gd (upd bo (ix x0) x1) sz (flat4 num) le im bf ik) H := hP
          refine lv_aload_n hx hb dX6_sheet_68 rfl (lv_at hl 0 rfl) ?_
          refine va_get (ci := 4) (v := .ref (b 8)) (C := RX6) (T := TX6) (N := 20) hx hb hts inX6 hown hK hP 0 rfl rfl 14 (by decide) f31 (fun _ h9 => h9) rfl dX6_sheet_69 ?_
          refine lv_iload_n hx hb dX6_sheet_72 rfl (lv_at hl 1 rfl) ?_
          refine lv_iload_n hx hb dX6_sheet_73 rfl (lv_at hl 2 rfl) ?_
          refine jn (fun v_7 : Int32 => v_7 = (if x1 = 0 then 0 else x2 : Int32)) (fun v_7 => F0 m 82 ls [.int v_7, .int x0, .ref (b 8)]) (fun Jv_7 => ?_) (fun v_7 ev_7 => ?_)
          · skip
            refine lv_if_ne (tgt := 81) hx hb dX6_sheet_74 (by decide) (fun c_8 => ?_) (fun c_8 => ?_)
            · skip
              refine lv_iload_n hx hb dX6_sheet_81 rfl (lv_at hl 3 rfl) ?_
              exact Jv_7 _ (by rw [if_neg c_8])
            · skip
              refine lv_iconst (v := 0) hx hb dX6_sheet_77 (by decide) ?_
              refine lv_goto (tgt := 82) hx hb dX6_sheet_78 (by decide) ?_
              exact Jv_7 _ (by rw [if_pos c_8])
          subst ev_7
          refine va_iast hx hb hK hP (hD _ rfl) hS 8 0 rfl rfl hs dX6_sheet_82 (fun H locs hP _ hS => ?_)
          have hP : va_P D vwCl (mdw cI cL b (enc co gu kn fo sp ki pl ea to qu) fd mo tr b1 tp tm so bg te wd va gd (upd bo (ix x0) x1) (upd sz (ix x0) (if x1 = 0 then 0 else x2 : Int32)) (flat4 num) le im bf ik) H := hP
          have hP : va_P D vwCl (mdw cI cL b (enc co gu kn fo sp ki pl ea to qu) fd mo tr b1 tp tm so bg te wd va gd (upd bo (ix x0) x1) (upd sz (ix x0) (if x1 = 0 then 0 else x2 : Int32)) (flat4 (va_up num (ix x0) (fa_fill (fun _ => 0) (num (ix x0)) 0))) le im bf ik) H := by rw [fa_fill_0, va_up_id]; exact hP
          refine lv_iconst (v := 0) hx hb dX6_sheet_83 (by decide) ?_
          refine lv_istore (lv' := [(4, .int 0), (0, .ref (b 0)), (1, .int x0), (2, .int x1), (3, .int x2)]) hx hb dX6_sheet_84 hl (by decide) rfl (fun ls hl => ?_)
          refine lpW (fun n (u : Nat) H locs ls => (u + n = 40) ∧ va_P D vwCl (mdw cI cL b (enc co gu kn fo sp ki pl ea to qu) fd mo tr b1 tp tm so bg te wd va gd (upd bo (ix x0) x1) (upd sz (ix x0) (if x1 = 0 then 0 else x2 : Int32)) (flat4 (va_up num (ix x0) (fa_fill (fun _ => 0) (num (ix x0)) u))) le im bf ik) H ∧ va_S A s.heap H locs ∧ lv_has ls 5 [(0, .ref (b 0)), (1, .int x0), (2, .int x1), (3, .int x2), (4, .int (nI u))]) (40) (0) ⟨by omega, hP, hS, lv_sub hl [1, 2, 3, 4, 0] rfl⟩ (fun n ih u H locs ls hI => ?_)
          obtain ⟨i, rfl⟩ : ∃ z, z = u := ⟨_, rfl⟩
          obtain ⟨hi0, hP, hS, hl⟩ := hI
          have hi0 : i + n = 40 := hi0
          have hl : lv_has ls 5 [(0, .ref (b 0)), (1, .int x0), (2, .int x1), (3, .int x2), (4, .int (nI i))] := hl
          have hP : va_P D vwCl (mdw cI cL b (enc co gu kn fo sp ki pl ea to qu) fd mo tr b1 tp tm so bg te wd va gd (upd bo (ix x0) x1) (upd sz (ix x0) (if x1 = 0 then 0 else x2 : Int32)) (flat4 (va_up num (ix x0) (fa_fill (fun _ => 0) (num (ix x0)) i))) le im bf ik) H := hP
          refine lv_iload hx hb dX6_sheet_86 (lv_at hl 4 rfl) ?_
          refine lv_bipush (v := 40) hx hb dX6_sheet_88 (by decide) ?_
          refine lv_icmp_ge (tgt := 112) hx hb dX6_sheet_90 (by decide) (fun c_9 => ?_) (fun c_9 => ?_)
          · skip
            have c_9n := (cmp_le (a := 40) (b := i) rfl rfl (by omega) (by omega)).mp c_9
            have hP : va_P D vwCl (mdw cI cL b (enc co gu kn fo sp ki pl ea to qu) fd mo tr b1 tp tm so bg te wd va gd (upd bo (ix x0) x1) (upd sz (ix x0) (if x1 = 0 then 0 else x2 : Int32)) (flat4 (va_up num (ix x0) (fun _ => 0))) le im bf ik) H := by rw [show i = 40 by omega, flat_end] at hP; exact hP
            refine lv_aload_n hx hb dX6_sheet_112 rfl (lv_at hl 0 rfl) ?_
            refine va_get (ci := 4) (v := .ref (b 8)) (C := RX6) (T := TX6) (N := 20) hx hb hts inX6 hown hK hP 0 rfl rfl 14 (by decide) f31 (fun _ h9 => h9) rfl dX6_sheet_113 ?_
            refine lv_iload_n hx hb dX6_sheet_116 rfl (lv_at hl 1 rfl) ?_
            refine va_iald hx hb hK hP 8 0 rfl rfl hs dX6_sheet_117 ?_
            exact W.iret hx hb hr (fun t ht hW => ⟨⟨_, ((upd bo (ix x0) x1), (upd sz (ix x0) (if x1 = 0 then 0 else x2 : Int32)), (va_up num (ix x0) (fun _ => 0)), fd), rfl, (by unfold sSheet; rw [iF_t ⟨c_1b, Or.inl c_4⟩, iF_f (Int32.not_lt.mpr c_5), iF_f (Int32.not_lt.mpr c_6)]; rw [pk_us]), by dsimp only; rw [ht]; exact hP⟩, hS.F ht⟩) hS.2.2 dX6_sheet_118
          · skip
            have c_9n := mt (cmp_le (a := 40) (b := i) rfl rfl (by omega) (by omega)).mpr c_9
            refine lv_aload_n hx hb dX6_sheet_93 rfl (lv_at hl 0 rfl) ?_
            refine va_get (ci := 4) (v := .ref (b 9)) (C := RX6) (T := TX6) (N := 20) hx hb hts inX6 hown hK hP 0 rfl rfl 15 (by decide) f34 (fun _ h9 => h9) rfl dX6_sheet_94 ?_
            refine lv_bipush (v := 40) hx hb dX6_sheet_97 (by decide) ?_
            refine lv_iload_n hx hb dX6_sheet_99 rfl (lv_at hl 1 rfl) ?_
            refine lv_imul hx hb dX6_sheet_100 ?_
            refine lv_iload hx hb dX6_sheet_101 (lv_at hl 4 rfl) ?_
            refine lv_iadd hx hb dX6_sheet_103 ?_
            refine lv_lconst (v := 0) hx hb dX6_sheet_104 (by decide) ?_
            refine va_last hx hb hK hP (hD _ rfl) hS 9 1 rfl rfl ((ix40 hs (vp_in_nI (by omega) (by decide))).2) dX6_sheet_105 (fun H locs hP _ hS => ?_)
            have hP : va_P D vwCl (mdw cI cL b (enc co gu kn fo sp ki pl ea to qu) fd mo tr b1 tp tm so bg te wd va gd (upd bo (ix x0) x1) (upd sz (ix x0) (if x1 = 0 then 0 else x2 : Int32)) (flat4 (va_up num (ix x0) (fa_fill (fun _ => 0) (num (ix x0)) (i + 1)))) le im bf ik) H := by rw [← flat_step hs (by omega)]; exact hP
            refine lv_iinc (v := nI (i + 1)) (lv' := [(4, .int (nI (i + 1))), (0, .ref (b 0)), (1, .int x0), (2, .int x1), (3, .int x2)]) hx hb dX6_sheet_106 hl (k := 4) rfl (nI_1 _) (by decide) rfl (fun ls hl => ?_)
            refine lv_goto (tgt := 86) hx hb dX6_sheet_109 (by decide) ?_
            exact ih (n - 1) (by omega) (i + 1) H locs ls ⟨by omega, hP, hS, lv_sub hl [1, 2, 3, 4, 0] rfl⟩
        · skip
          refine lv_aload_n hx hb dX6_sheet_54 rfl (lv_at hl 0 rfl) ?_
          refine lv_ldc hx hb hown k47 dX6_sheet_55 ?_
          refine callMi (va_runV (As := [.int (-1000000001)]) (rest := []) ⟨hx, hb, hml, hown, hts⟩ (k_X6_finds l D cI cL cS b co gu kn fo sp ki pl ea to qu fd mo tr b1 tp tm so bg te wd va gd bo sz (flat4 num) le im bf ik (-1000000001) (va_DT (hD _ rfl) rfl) (vp_in_iff.mpr (by decide))) (cwV 1 hts gX6_sheet_X6_finds rfl rfl rfl (by decide +kernel) ⟨Nat.le_of_ble_eq_true rfl, Nat.le_of_ble_eq_true rfl⟩) ⟨PcR_fb, va_recv hK hP (ci := 4) (q0 := 0) rfl rfl, PcR_pre hP hK⟩ rfl rfl hl.1 rfl (lv_room (Nat.le_of_ble_eq_true rfl)) dX6_sheet_57 ⟨Nat.zero_le _, Nat.zero_le _⟩) hP (hD _ rfl) hS 0 13 rfl (fun r_11 u_10 H locs hu_10 hP hS => ?_)
          obtain ⟨hu_10r, hu_10⟩ := hu_10
          subst hu_10r
          have hP : va_P D vwCl (mdw cI cL b (enc co gu kn fo sp ki pl ea to qu) (bump fd (-1000000001)) mo tr b1 tp tm so bg te wd va gd bo sz (flat4 num) le im bf ik) H := hP
          exact W.iret hx hb hr (fun t ht hW => ⟨⟨_, (bo, sz, num, bump fd (-1000000001)), rfl, (by unfold sSheet; rw [iF_t ⟨c_1b, Or.inl c_4⟩, iF_f (Int32.not_lt.mpr c_5), iF_t (Int32.not_le.mp c_6)]), by dsimp only; rw [ht]; exact hP⟩, hS.F ht⟩) hS.2.2 dX6_sheet_60
      · skip
        refine lv_aload_n hx hb dX6_sheet_40 rfl (lv_at hl 0 rfl) ?_
        refine lv_ldcw hx hb hown k256 dX6_sheet_41 ?_
        refine callMi (va_runV (As := [.int (-1000000007)]) (rest := []) ⟨hx, hb, hml, hown, hts⟩ (k_X6_finds l D cI cL cS b co gu kn fo sp ki pl ea to qu fd mo tr b1 tp tm so bg te wd va gd bo sz (flat4 num) le im bf ik (-1000000007) (va_DT (hD _ rfl) rfl) (vp_in_iff.mpr (by decide))) (cwV 1 hts gX6_sheet_X6_finds rfl rfl rfl (by decide +kernel) ⟨Nat.le_of_ble_eq_true rfl, Nat.le_of_ble_eq_true rfl⟩) ⟨PcR_fb, va_recv hK hP (ci := 4) (q0 := 0) rfl rfl, PcR_pre hP hK⟩ rfl rfl hl.1 rfl (lv_room (Nat.le_of_ble_eq_true rfl)) dX6_sheet_44 ⟨Nat.zero_le _, Nat.zero_le _⟩) hP (hD _ rfl) hS 0 13 rfl (fun r_13 u_12 H locs hu_12 hP hS => ?_)
        obtain ⟨hu_12r, hu_12⟩ := hu_12
        subst hu_12r
        have hP : va_P D vwCl (mdw cI cL b (enc co gu kn fo sp ki pl ea to qu) (bump fd (-1000000007)) mo tr b1 tp tm so bg te wd va gd bo sz (flat4 num) le im bf ik) H := hP
        exact W.iret hx hb hr (fun t ht hW => ⟨⟨_, (bo, sz, num, bump fd (-1000000007)), rfl, (by unfold sSheet; rw [iF_t ⟨c_1b, Or.inl c_4⟩, iF_t (Int32.not_le.mp c_5)]), by dsimp only; rw [ht]; exact hP⟩, hS.F ht⟩) hS.2.2 dX6_sheet_47
    · skip
      refine lv_iload_n hx hb dX6_sheet_11 rfl (lv_at hl 2 rfl) ?_
      refine lv_bipush (v := 8) hx hb dX6_sheet_12 (by decide) ?_
      refine lv_icmp_eq (tgt := 36) hx hb dX6_sheet_14 (by decide) (fun c_14 => ?_) (fun c_14 => ?_)
      · skip
        refine lv_iload_n hx hb dX6_sheet_36 rfl (lv_at hl 3 rfl) ?_
        refine lv_if_ge (tgt := 48) hx hb dX6_sheet_37 (by decide) (fun c_15 => ?_) (fun c_15 => ?_)
        · skip
          refine lv_iload_n hx hb dX6_sheet_48 rfl (lv_at hl 3 rfl) ?_
          refine lv_bipush (v := 40) hx hb dX6_sheet_49 (by decide) ?_
          refine lv_icmp_le (tgt := 61) hx hb dX6_sheet_51 (by decide) (fun c_16 => ?_) (fun c_16 => ?_)
          · skip
            refine lv_aload_n hx hb dX6_sheet_61 rfl (lv_at hl 0 rfl) ?_
            refine va_get (ci := 4) (v := .ref (b 7)) (C := RX6) (T := TX6) (N := 20) hx hb hts inX6 hown hK hP 0 rfl rfl 13 (by decide) f28 (fun _ h9 => h9) rfl dX6_sheet_62 ?_
            refine lv_iload_n hx hb dX6_sheet_65 rfl (lv_at hl 1 rfl) ?_
            refine lv_iload_n hx hb dX6_sheet_66 rfl (lv_at hl 2 rfl) ?_
            refine va_iast hx hb hK hP (hD _ rfl) hS 7 0 rfl rfl hs dX6_sheet_67 (fun H locs hP _ hS => ?_)
            have hP : va_P D vwCl (mdw cI cL b (enc co gu kn fo sp ki pl ea to qu) fd mo tr b1 tp tm so bg te wd va gd (upd bo (ix x0) x1) sz (flat4 num) le im bf ik) H := hP
            refine lv_aload_n hx hb dX6_sheet_68 rfl (lv_at hl 0 rfl) ?_
            refine va_get (ci := 4) (v := .ref (b 8)) (C := RX6) (T := TX6) (N := 20) hx hb hts inX6 hown hK hP 0 rfl rfl 14 (by decide) f31 (fun _ h9 => h9) rfl dX6_sheet_69 ?_
            refine lv_iload_n hx hb dX6_sheet_72 rfl (lv_at hl 1 rfl) ?_
            refine lv_iload_n hx hb dX6_sheet_73 rfl (lv_at hl 2 rfl) ?_
            refine jn (fun v_17 : Int32 => v_17 = (if x1 = 0 then 0 else x2 : Int32)) (fun v_17 => F0 m 82 ls [.int v_17, .int x0, .ref (b 8)]) (fun Jv_17 => ?_) (fun v_17 ev_17 => ?_)
            · skip
              refine lv_if_ne (tgt := 81) hx hb dX6_sheet_74 (by decide) (fun c_18 => ?_) (fun c_18 => ?_)
              · skip
                refine lv_iload_n hx hb dX6_sheet_81 rfl (lv_at hl 3 rfl) ?_
                exact Jv_17 _ (by rw [if_neg c_18])
              · skip
                refine lv_iconst (v := 0) hx hb dX6_sheet_77 (by decide) ?_
                refine lv_goto (tgt := 82) hx hb dX6_sheet_78 (by decide) ?_
                exact Jv_17 _ (by rw [if_pos c_18])
            subst ev_17
            refine va_iast hx hb hK hP (hD _ rfl) hS 8 0 rfl rfl hs dX6_sheet_82 (fun H locs hP _ hS => ?_)
            have hP : va_P D vwCl (mdw cI cL b (enc co gu kn fo sp ki pl ea to qu) fd mo tr b1 tp tm so bg te wd va gd (upd bo (ix x0) x1) (upd sz (ix x0) (if x1 = 0 then 0 else x2 : Int32)) (flat4 num) le im bf ik) H := hP
            have hP : va_P D vwCl (mdw cI cL b (enc co gu kn fo sp ki pl ea to qu) fd mo tr b1 tp tm so bg te wd va gd (upd bo (ix x0) x1) (upd sz (ix x0) (if x1 = 0 then 0 else x2 : Int32)) (flat4 (va_up num (ix x0) (fa_fill (fun _ => 0) (num (ix x0)) 0))) le im bf ik) H := by rw [fa_fill_0, va_up_id]; exact hP
            refine lv_iconst (v := 0) hx hb dX6_sheet_83 (by decide) ?_
            refine lv_istore (lv' := [(4, .int 0), (0, .ref (b 0)), (1, .int x0), (2, .int x1), (3, .int x2)]) hx hb dX6_sheet_84 hl (by decide) rfl (fun ls hl => ?_)
            refine lpW (fun n (u : Nat) H locs ls => (u + n = 40) ∧ va_P D vwCl (mdw cI cL b (enc co gu kn fo sp ki pl ea to qu) fd mo tr b1 tp tm so bg te wd va gd (upd bo (ix x0) x1) (upd sz (ix x0) (if x1 = 0 then 0 else x2 : Int32)) (flat4 (va_up num (ix x0) (fa_fill (fun _ => 0) (num (ix x0)) u))) le im bf ik) H ∧ va_S A s.heap H locs ∧ lv_has ls 5 [(0, .ref (b 0)), (1, .int x0), (2, .int x1), (3, .int x2), (4, .int (nI u))]) (40) (0) ⟨by omega, hP, hS, lv_sub hl [1, 2, 3, 4, 0] rfl⟩ (fun n ih u H locs ls hI => ?_)
            obtain ⟨i, rfl⟩ : ∃ z, z = u := ⟨_, rfl⟩
            obtain ⟨hi0, hP, hS, hl⟩ := hI
            have hi0 : i + n = 40 := hi0
            have hl : lv_has ls 5 [(0, .ref (b 0)), (1, .int x0), (2, .int x1), (3, .int x2), (4, .int (nI i))] := hl
            have hP : va_P D vwCl (mdw cI cL b (enc co gu kn fo sp ki pl ea to qu) fd mo tr b1 tp tm so bg te wd va gd (upd bo (ix x0) x1) (upd sz (ix x0) (if x1 = 0 then 0 else x2 : Int32)) (flat4 (va_up num (ix x0) (fa_fill (fun _ => 0) (num (ix x0)) i))) le im bf ik) H := hP
            refine lv_iload hx hb dX6_sheet_86 (lv_at hl 4 rfl) ?_
            refine lv_bipush (v := 40) hx hb dX6_sheet_88 (by decide) ?_
            refine lv_icmp_ge (tgt := 112) hx hb dX6_sheet_90 (by decide) (fun c_19 => ?_) (fun c_19 => ?_)
            · skip
              have c_19n := (cmp_le (a := 40) (b := i) rfl rfl (by omega) (by omega)).mp c_19
              have hP : va_P D vwCl (mdw cI cL b (enc co gu kn fo sp ki pl ea to qu) fd mo tr b1 tp tm so bg te wd va gd (upd bo (ix x0) x1) (upd sz (ix x0) (if x1 = 0 then 0 else x2 : Int32)) (flat4 (va_up num (ix x0) (fun _ => 0))) le im bf ik) H := by rw [show i = 40 by omega, flat_end] at hP; exact hP
              refine lv_aload_n hx hb dX6_sheet_112 rfl (lv_at hl 0 rfl) ?_
              refine va_get (ci := 4) (v := .ref (b 8)) (C := RX6) (T := TX6) (N := 20) hx hb hts inX6 hown hK hP 0 rfl rfl 14 (by decide) f31 (fun _ h9 => h9) rfl dX6_sheet_113 ?_
              refine lv_iload_n hx hb dX6_sheet_116 rfl (lv_at hl 1 rfl) ?_
              refine va_iald hx hb hK hP 8 0 rfl rfl hs dX6_sheet_117 ?_
              exact W.iret hx hb hr (fun t ht hW => ⟨⟨_, ((upd bo (ix x0) x1), (upd sz (ix x0) (if x1 = 0 then 0 else x2 : Int32)), (va_up num (ix x0) (fun _ => 0)), fd), rfl, (by unfold sSheet; rw [iF_t ⟨c_1b, Or.inr (Or.inl c_14)⟩, iF_f (Int32.not_lt.mpr c_15), iF_f (Int32.not_lt.mpr c_16)]; rw [pk_us]), by dsimp only; rw [ht]; exact hP⟩, hS.F ht⟩) hS.2.2 dX6_sheet_118
            · skip
              have c_19n := mt (cmp_le (a := 40) (b := i) rfl rfl (by omega) (by omega)).mpr c_19
              refine lv_aload_n hx hb dX6_sheet_93 rfl (lv_at hl 0 rfl) ?_
              refine va_get (ci := 4) (v := .ref (b 9)) (C := RX6) (T := TX6) (N := 20) hx hb hts inX6 hown hK hP 0 rfl rfl 15 (by decide) f34 (fun _ h9 => h9) rfl dX6_sheet_94 ?_
              refine lv_bipush (v := 40) hx hb dX6_sheet_97 (by decide) ?_
              refine lv_iload_n hx hb dX6_sheet_99 rfl (lv_at hl 1 rfl) ?_
              refine lv_imul hx hb dX6_sheet_100 ?_
              refine lv_iload hx hb dX6_sheet_101 (lv_at hl 4 rfl) ?_
              refine lv_iadd hx hb dX6_sheet_103 ?_
              refine lv_lconst (v := 0) hx hb dX6_sheet_104 (by decide) ?_
              refine va_last hx hb hK hP (hD _ rfl) hS 9 1 rfl rfl ((ix40 hs (vp_in_nI (by omega) (by decide))).2) dX6_sheet_105 (fun H locs hP _ hS => ?_)
              have hP : va_P D vwCl (mdw cI cL b (enc co gu kn fo sp ki pl ea to qu) fd mo tr b1 tp tm so bg te wd va gd (upd bo (ix x0) x1) (upd sz (ix x0) (if x1 = 0 then 0 else x2 : Int32)) (flat4 (va_up num (ix x0) (fa_fill (fun _ => 0) (num (ix x0)) (i + 1)))) le im bf ik) H := by rw [← flat_step hs (by omega)]; exact hP
              refine lv_iinc (v := nI (i + 1)) (lv' := [(4, .int (nI (i + 1))), (0, .ref (b 0)), (1, .int x0), (2, .int x1), (3, .int x2)]) hx hb dX6_sheet_106 hl (k := 4) rfl (nI_1 _) (by decide) rfl (fun ls hl => ?_)
              refine lv_goto (tgt := 86) hx hb dX6_sheet_109 (by decide) ?_
              exact ih (n - 1) (by omega) (i + 1) H locs ls ⟨by omega, hP, hS, lv_sub hl [1, 2, 3, 4, 0] rfl⟩
          · skip
            refine lv_aload_n hx hb dX6_sheet_54 rfl (lv_at hl 0 rfl) ?_
            refine lv_ldc hx hb hown k47 dX6_sheet_55 ?_
            refine callMi (va_runV (As := [.int (-1000000001)]) (rest := []) ⟨hx, hb, hml, hown, hts⟩ (k_X6_finds l D cI cL cS b co gu kn fo sp ki pl ea to qu fd mo tr b1 tp tm so bg te wd va gd bo sz (flat4 num) le im bf ik (-1000000001) (va_DT (hD _ rfl) rfl) (vp_in_iff.mpr (by decide))) (cwV 1 hts gX6_sheet_X6_finds rfl rfl rfl (by decide +kernel) ⟨Nat.le_of_ble_eq_true rfl, Nat.le_of_ble_eq_true rfl⟩) ⟨PcR_fb, va_recv hK hP (ci := 4) (q0 := 0) rfl rfl, PcR_pre hP hK⟩ rfl rfl hl.1 rfl (lv_room (Nat.le_of_ble_eq_true rfl)) dX6_sheet_57 ⟨Nat.zero_le _, Nat.zero_le _⟩) hP (hD _ rfl) hS 0 13 rfl (fun r_21 u_20 H locs hu_20 hP hS => ?_)
            obtain ⟨hu_20r, hu_20⟩ := hu_20
            subst hu_20r
            have hP : va_P D vwCl (mdw cI cL b (enc co gu kn fo sp ki pl ea to qu) (bump fd (-1000000001)) mo tr b1 tp tm so bg te wd va gd bo sz (flat4 num) le im bf ik) H := hP
            exact W.iret hx hb hr (fun t ht hW => ⟨⟨_, (bo, sz, num, bump fd (-1000000001)), rfl, (by unfold sSheet; rw [iF_t ⟨c_1b, Or.inr (Or.inl c_14)⟩, iF_f (Int32.not_lt.mpr c_15), iF_t (Int32.not_le.mp c_16)]), by dsimp only; rw [ht]; exact hP⟩, hS.F ht⟩) hS.2.2 dX6_sheet_60
        · skip
          refine lv_aload_n hx hb dX6_sheet_40 rfl (lv_at hl 0 rfl) ?_
          refine lv_ldcw hx hb hown k256 dX6_sheet_41 ?_
          refine callMi (va_runV (As := [.int (-1000000007)]) (rest := []) ⟨hx, hb, hml, hown, hts⟩ (k_X6_finds l D cI cL cS b co gu kn fo sp ki pl ea to qu fd mo tr b1 tp tm so bg te wd va gd bo sz (flat4 num) le im bf ik (-1000000007) (va_DT (hD _ rfl) rfl) (vp_in_iff.mpr (by decide))) (cwV 1 hts gX6_sheet_X6_finds rfl rfl rfl (by decide +kernel) ⟨Nat.le_of_ble_eq_true rfl, Nat.le_of_ble_eq_true rfl⟩) ⟨PcR_fb, va_recv hK hP (ci := 4) (q0 := 0) rfl rfl, PcR_pre hP hK⟩ rfl rfl hl.1 rfl (lv_room (Nat.le_of_ble_eq_true rfl)) dX6_sheet_44 ⟨Nat.zero_le _, Nat.zero_le _⟩) hP (hD _ rfl) hS 0 13 rfl (fun r_23 u_22 H locs hu_22 hP hS => ?_)
          obtain ⟨hu_22r, hu_22⟩ := hu_22
          subst hu_22r
          have hP : va_P D vwCl (mdw cI cL b (enc co gu kn fo sp ki pl ea to qu) (bump fd (-1000000007)) mo tr b1 tp tm so bg te wd va gd bo sz (flat4 num) le im bf ik) H := hP
          exact W.iret hx hb hr (fun t ht hW => ⟨⟨_, (bo, sz, num, bump fd (-1000000007)), rfl, (by unfold sSheet; rw [iF_t ⟨c_1b, Or.inr (Or.inl c_14)⟩, iF_t (Int32.not_le.mp c_15)]), by dsimp only; rw [ht]; exact hP⟩, hS.F ht⟩) hS.2.2 dX6_sheet_47
      · skip
        refine lv_iload_n hx hb dX6_sheet_17 rfl (lv_at hl 2 rfl) ?_
        refine lv_bipush (v := 16) hx hb dX6_sheet_18 (by decide) ?_
        refine lv_icmp_eq (tgt := 36) hx hb dX6_sheet_20 (by decide) (fun c_24 => ?_) (fun c_24 => ?_)
        · skip
          refine lv_iload_n hx hb dX6_sheet_36 rfl (lv_at hl 3 rfl) ?_
          refine lv_if_ge (tgt := 48) hx hb dX6_sheet_37 (by decide) (fun c_25 => ?_) (fun c_25 => ?_)
          · skip
            refine lv_iload_n hx hb dX6_sheet_48 rfl (lv_at hl 3 rfl) ?_
            refine lv_bipush (v := 40) hx hb dX6_sheet_49 (by decide) ?_
            refine lv_icmp_le (tgt := 61) hx hb dX6_sheet_51 (by decide) (fun c_26 => ?_) (fun c_26 => ?_)
            · skip
              refine lv_aload_n hx hb dX6_sheet_61 rfl (lv_at hl 0 rfl) ?_
              refine va_get (ci := 4) (v := .ref (b 7)) (C := RX6) (T := TX6) (N := 20) hx hb hts inX6 hown hK hP 0 rfl rfl 13 (by decide) f28 (fun _ h9 => h9) rfl dX6_sheet_62 ?_
              refine lv_iload_n hx hb dX6_sheet_65 rfl (lv_at hl 1 rfl) ?_
              refine lv_iload_n hx hb dX6_sheet_66 rfl (lv_at hl 2 rfl) ?_
              refine va_iast hx hb hK hP (hD _ rfl) hS 7 0 rfl rfl hs dX6_sheet_67 (fun H locs hP _ hS => ?_)
              have hP : va_P D vwCl (mdw cI cL b (enc co gu kn fo sp ki pl ea to qu) fd mo tr b1 tp tm so bg te wd va gd (upd bo (ix x0) x1) sz (flat4 num) le im bf ik) H := hP
              refine lv_aload_n hx hb dX6_sheet_68 rfl (lv_at hl 0 rfl) ?_
              refine va_get (ci := 4) (v := .ref (b 8)) (C := RX6) (T := TX6) (N := 20) hx hb hts inX6 hown hK hP 0 rfl rfl 14 (by decide) f31 (fun _ h9 => h9) rfl dX6_sheet_69 ?_
              refine lv_iload_n hx hb dX6_sheet_72 rfl (lv_at hl 1 rfl) ?_
              refine lv_iload_n hx hb dX6_sheet_73 rfl (lv_at hl 2 rfl) ?_
              refine jn (fun v_27 : Int32 => v_27 = (if x1 = 0 then 0 else x2 : Int32)) (fun v_27 => F0 m 82 ls [.int v_27, .int x0, .ref (b 8)]) (fun Jv_27 => ?_) (fun v_27 ev_27 => ?_)
              · skip
                refine lv_if_ne (tgt := 81) hx hb dX6_sheet_74 (by decide) (fun c_28 => ?_) (fun c_28 => ?_)
                · skip
                  refine lv_iload_n hx hb dX6_sheet_81 rfl (lv_at hl 3 rfl) ?_
                  exact Jv_27 _ (by rw [if_neg c_28])
                · skip
                  refine lv_iconst (v := 0) hx hb dX6_sheet_77 (by decide) ?_
                  refine lv_goto (tgt := 82) hx hb dX6_sheet_78 (by decide) ?_
                  exact Jv_27 _ (by rw [if_pos c_28])
              subst ev_27
              refine va_iast hx hb hK hP (hD _ rfl) hS 8 0 rfl rfl hs dX6_sheet_82 (fun H locs hP _ hS => ?_)
              have hP : va_P D vwCl (mdw cI cL b (enc co gu kn fo sp ki pl ea to qu) fd mo tr b1 tp tm so bg te wd va gd (upd bo (ix x0) x1) (upd sz (ix x0) (if x1 = 0 then 0 else x2 : Int32)) (flat4 num) le im bf ik) H := hP
              have hP : va_P D vwCl (mdw cI cL b (enc co gu kn fo sp ki pl ea to qu) fd mo tr b1 tp tm so bg te wd va gd (upd bo (ix x0) x1) (upd sz (ix x0) (if x1 = 0 then 0 else x2 : Int32)) (flat4 (va_up num (ix x0) (fa_fill (fun _ => 0) (num (ix x0)) 0))) le im bf ik) H := by rw [fa_fill_0, va_up_id]; exact hP
              refine lv_iconst (v := 0) hx hb dX6_sheet_83 (by decide) ?_
              refine lv_istore (lv' := [(4, .int 0), (0, .ref (b 0)), (1, .int x0), (2, .int x1), (3, .int x2)]) hx hb dX6_sheet_84 hl (by decide) rfl (fun ls hl => ?_)
              refine lpW (fun n (u : Nat) H locs ls => (u + n = 40) ∧ va_P D vwCl (mdw cI cL b (enc co gu kn fo sp ki pl ea to qu) fd mo tr b1 tp tm so bg te wd va gd (upd bo (ix x0) x1) (upd sz (ix x0) (if x1 = 0 then 0 else x2 : Int32)) (flat4 (va_up num (ix x0) (fa_fill (fun _ => 0) (num (ix x0)) u))) le im bf ik) H ∧ va_S A s.heap H locs ∧ lv_has ls 5 [(0, .ref (b 0)), (1, .int x0), (2, .int x1), (3, .int x2), (4, .int (nI u))]) (40) (0) ⟨by omega, hP, hS, lv_sub hl [1, 2, 3, 4, 0] rfl⟩ (fun n ih u H locs ls hI => ?_)
              obtain ⟨i, rfl⟩ : ∃ z, z = u := ⟨_, rfl⟩
              obtain ⟨hi0, hP, hS, hl⟩ := hI
              have hi0 : i + n = 40 := hi0
              have hl : lv_has ls 5 [(0, .ref (b 0)), (1, .int x0), (2, .int x1), (3, .int x2), (4, .int (nI i))] := hl
              have hP : va_P D vwCl (mdw cI cL b (enc co gu kn fo sp ki pl ea to qu) fd mo tr b1 tp tm so bg te wd va gd (upd bo (ix x0) x1) (upd sz (ix x0) (if x1 = 0 then 0 else x2 : Int32)) (flat4 (va_up num (ix x0) (fa_fill (fun _ => 0) (num (ix x0)) i))) le im bf ik) H := hP
              refine lv_iload hx hb dX6_sheet_86 (lv_at hl 4 rfl) ?_
              refine lv_bipush (v := 40) hx hb dX6_sheet_88 (by decide) ?_
              refine lv_icmp_ge (tgt := 112) hx hb dX6_sheet_90 (by decide) (fun c_29 => ?_) (fun c_29 => ?_)
              · skip
                have c_29n := (cmp_le (a := 40) (b := i) rfl rfl (by omega) (by omega)).mp c_29
                have hP : va_P D vwCl (mdw cI cL b (enc co gu kn fo sp ki pl ea to qu) fd mo tr b1 tp tm so bg te wd va gd (upd bo (ix x0) x1) (upd sz (ix x0) (if x1 = 0 then 0 else x2 : Int32)) (flat4 (va_up num (ix x0) (fun _ => 0))) le im bf ik) H := by rw [show i = 40 by omega, flat_end] at hP; exact hP
                refine lv_aload_n hx hb dX6_sheet_112 rfl (lv_at hl 0 rfl) ?_
                refine va_get (ci := 4) (v := .ref (b 8)) (C := RX6) (T := TX6) (N := 20) hx hb hts inX6 hown hK hP 0 rfl rfl 14 (by decide) f31 (fun _ h9 => h9) rfl dX6_sheet_113 ?_
                refine lv_iload_n hx hb dX6_sheet_116 rfl (lv_at hl 1 rfl) ?_
                refine va_iald hx hb hK hP 8 0 rfl rfl hs dX6_sheet_117 ?_
                exact W.iret hx hb hr (fun t ht hW => ⟨⟨_, ((upd bo (ix x0) x1), (upd sz (ix x0) (if x1 = 0 then 0 else x2 : Int32)), (va_up num (ix x0) (fun _ => 0)), fd), rfl, (by unfold sSheet; rw [iF_t ⟨c_1b, Or.inr (Or.inr (Or.inl c_24))⟩, iF_f (Int32.not_lt.mpr c_25), iF_f (Int32.not_lt.mpr c_26)]; rw [pk_us]), by dsimp only; rw [ht]; exact hP⟩, hS.F ht⟩) hS.2.2 dX6_sheet_118
              · skip
                have c_29n := mt (cmp_le (a := 40) (b := i) rfl rfl (by omega) (by omega)).mpr c_29
                refine lv_aload_n hx hb dX6_sheet_93 rfl (lv_at hl 0 rfl) ?_
                refine va_get (ci := 4) (v := .ref (b 9)) (C := RX6) (T := TX6) (N := 20) hx hb hts inX6 hown hK hP 0 rfl rfl 15 (by decide) f34 (fun _ h9 => h9) rfl dX6_sheet_94 ?_
                refine lv_bipush (v := 40) hx hb dX6_sheet_97 (by decide) ?_
                refine lv_iload_n hx hb dX6_sheet_99 rfl (lv_at hl 1 rfl) ?_
                refine lv_imul hx hb dX6_sheet_100 ?_
                refine lv_iload hx hb dX6_sheet_101 (lv_at hl 4 rfl) ?_
                refine lv_iadd hx hb dX6_sheet_103 ?_
                refine lv_lconst (v := 0) hx hb dX6_sheet_104 (by decide) ?_
                refine va_last hx hb hK hP (hD _ rfl) hS 9 1 rfl rfl ((ix40 hs (vp_in_nI (by omega) (by decide))).2) dX6_sheet_105 (fun H locs hP _ hS => ?_)
                have hP : va_P D vwCl (mdw cI cL b (enc co gu kn fo sp ki pl ea to qu) fd mo tr b1 tp tm so bg te wd va gd (upd bo (ix x0) x1) (upd sz (ix x0) (if x1 = 0 then 0 else x2 : Int32)) (flat4 (va_up num (ix x0) (fa_fill (fun _ => 0) (num (ix x0)) (i + 1)))) le im bf ik) H := by rw [← flat_step hs (by omega)]; exact hP
                refine lv_iinc (v := nI (i + 1)) (lv' := [(4, .int (nI (i + 1))), (0, .ref (b 0)), (1, .int x0), (2, .int x1), (3, .int x2)]) hx hb dX6_sheet_106 hl (k := 4) rfl (nI_1 _) (by decide) rfl (fun ls hl => ?_)
                refine lv_goto (tgt := 86) hx hb dX6_sheet_109 (by decide) ?_
                exact ih (n - 1) (by omega) (i + 1) H locs ls ⟨by omega, hP, hS, lv_sub hl [1, 2, 3, 4, 0] rfl⟩
            · skip
              refine lv_aload_n hx hb dX6_sheet_54 rfl (lv_at hl 0 rfl) ?_
              refine lv_ldc hx hb hown k47 dX6_sheet_55 ?_
              refine callMi (va_runV (As := [.int (-1000000001)]) (rest := []) ⟨hx, hb, hml, hown, hts⟩ (k_X6_finds l D cI cL cS b co gu kn fo sp ki pl ea to qu fd mo tr b1 tp tm so bg te wd va gd bo sz (flat4 num) le im bf ik (-1000000001) (va_DT (hD _ rfl) rfl) (vp_in_iff.mpr (by decide))) (cwV 1 hts gX6_sheet_X6_finds rfl rfl rfl (by decide +kernel) ⟨Nat.le_of_ble_eq_true rfl, Nat.le_of_ble_eq_true rfl⟩) ⟨PcR_fb, va_recv hK hP (ci := 4) (q0 := 0) rfl rfl, PcR_pre hP hK⟩ rfl rfl hl.1 rfl (lv_room (Nat.le_of_ble_eq_true rfl)) dX6_sheet_57 ⟨Nat.zero_le _, Nat.zero_le _⟩) hP (hD _ rfl) hS 0 13 rfl (fun r_31 u_30 H locs hu_30 hP hS => ?_)
              obtain ⟨hu_30r, hu_30⟩ := hu_30
              subst hu_30r
              have hP : va_P D vwCl (mdw cI cL b (enc co gu kn fo sp ki pl ea to qu) (bump fd (-1000000001)) mo tr b1 tp tm so bg te wd va gd bo sz (flat4 num) le im bf ik) H := hP
              exact W.iret hx hb hr (fun t ht hW => ⟨⟨_, (bo, sz, num, bump fd (-1000000001)), rfl, (by unfold sSheet; rw [iF_t ⟨c_1b, Or.inr (Or.inr (Or.inl c_24))⟩, iF_f (Int32.not_lt.mpr c_25), iF_t (Int32.not_le.mp c_26)]), by dsimp only; rw [ht]; exact hP⟩, hS.F ht⟩) hS.2.2 dX6_sheet_60
          · skip
            refine lv_aload_n hx hb dX6_sheet_40 rfl (lv_at hl 0 rfl) ?_
            refine lv_ldcw hx hb hown k256 dX6_sheet_41 ?_
            refine callMi (va_runV (As := [.int (-1000000007)]) (rest := []) ⟨hx, hb, hml, hown, hts⟩ (k_X6_finds l D cI cL cS b co gu kn fo sp ki pl ea to qu fd mo tr b1 tp tm so bg te wd va gd bo sz (flat4 num) le im bf ik (-1000000007) (va_DT (hD _ rfl) rfl) (vp_in_iff.mpr (by decide))) (cwV 1 hts gX6_sheet_X6_finds rfl rfl rfl (by decide +kernel) ⟨Nat.le_of_ble_eq_true rfl, Nat.le_of_ble_eq_true rfl⟩) ⟨PcR_fb, va_recv hK hP (ci := 4) (q0 := 0) rfl rfl, PcR_pre hP hK⟩ rfl rfl hl.1 rfl (lv_room (Nat.le_of_ble_eq_true rfl)) dX6_sheet_44 ⟨Nat.zero_le _, Nat.zero_le _⟩) hP (hD _ rfl) hS 0 13 rfl (fun r_33 u_32 H locs hu_32 hP hS => ?_)
            obtain ⟨hu_32r, hu_32⟩ := hu_32
            subst hu_32r
            have hP : va_P D vwCl (mdw cI cL b (enc co gu kn fo sp ki pl ea to qu) (bump fd (-1000000007)) mo tr b1 tp tm so bg te wd va gd bo sz (flat4 num) le im bf ik) H := hP
            exact W.iret hx hb hr (fun t ht hW => ⟨⟨_, (bo, sz, num, bump fd (-1000000007)), rfl, (by unfold sSheet; rw [iF_t ⟨c_1b, Or.inr (Or.inr (Or.inl c_24))⟩, iF_t (Int32.not_le.mp c_25)]), by dsimp only; rw [ht]; exact hP⟩, hS.F ht⟩) hS.2.2 dX6_sheet_47
        · skip
          refine lv_iload_n hx hb dX6_sheet_23 rfl (lv_at hl 2 rfl) ?_
          refine lv_bipush (v := 64) hx hb dX6_sheet_24 (by decide) ?_
          refine lv_icmp_eq (tgt := 36) hx hb dX6_sheet_26 (by decide) (fun c_34 => ?_) (fun c_34 => ?_)
          · skip
            refine lv_iload_n hx hb dX6_sheet_36 rfl (lv_at hl 3 rfl) ?_
            refine lv_if_ge (tgt := 48) hx hb dX6_sheet_37 (by decide) (fun c_35 => ?_) (fun c_35 => ?_)
            · skip
              refine lv_iload_n hx hb dX6_sheet_48 rfl (lv_at hl 3 rfl) ?_
              refine lv_bipush (v := 40) hx hb dX6_sheet_49 (by decide) ?_
              refine lv_icmp_le (tgt := 61) hx hb dX6_sheet_51 (by decide) (fun c_36 => ?_) (fun c_36 => ?_)
              · skip
                refine lv_aload_n hx hb dX6_sheet_61 rfl (lv_at hl 0 rfl) ?_
                refine va_get (ci := 4) (v := .ref (b 7)) (C := RX6) (T := TX6) (N := 20) hx hb hts inX6 hown hK hP 0 rfl rfl 13 (by decide) f28 (fun _ h9 => h9) rfl dX6_sheet_62 ?_
                refine lv_iload_n hx hb dX6_sheet_65 rfl (lv_at hl 1 rfl) ?_
                refine lv_iload_n hx hb dX6_sheet_66 rfl (lv_at hl 2 rfl) ?_
                refine va_iast hx hb hK hP (hD _ rfl) hS 7 0 rfl rfl hs dX6_sheet_67 (fun H locs hP _ hS => ?_)
                have hP : va_P D vwCl (mdw cI cL b (enc co gu kn fo sp ki pl ea to qu) fd mo tr b1 tp tm so bg te wd va gd (upd bo (ix x0) x1) sz (flat4 num) le im bf ik) H := hP
                refine lv_aload_n hx hb dX6_sheet_68 rfl (lv_at hl 0 rfl) ?_
                refine va_get (ci := 4) (v := .ref (b 8)) (C := RX6) (T := TX6) (N := 20) hx hb hts inX6 hown hK hP 0 rfl rfl 14 (by decide) f31 (fun _ h9 => h9) rfl dX6_sheet_69 ?_
                refine lv_iload_n hx hb dX6_sheet_72 rfl (lv_at hl 1 rfl) ?_
                refine lv_iload_n hx hb dX6_sheet_73 rfl (lv_at hl 2 rfl) ?_
                refine jn (fun v_37 : Int32 => v_37 = (if x1 = 0 then 0 else x2 : Int32)) (fun v_37 => F0 m 82 ls [.int v_37, .int x0, .ref (b 8)]) (fun Jv_37 => ?_) (fun v_37 ev_37 => ?_)
                · skip
                  refine lv_if_ne (tgt := 81) hx hb dX6_sheet_74 (by decide) (fun c_38 => ?_) (fun c_38 => ?_)
                  · skip
                    refine lv_iload_n hx hb dX6_sheet_81 rfl (lv_at hl 3 rfl) ?_
                    exact Jv_37 _ (by rw [if_neg c_38])
                  · skip
                    refine lv_iconst (v := 0) hx hb dX6_sheet_77 (by decide) ?_
                    refine lv_goto (tgt := 82) hx hb dX6_sheet_78 (by decide) ?_
                    exact Jv_37 _ (by rw [if_pos c_38])
                subst ev_37
                refine va_iast hx hb hK hP (hD _ rfl) hS 8 0 rfl rfl hs dX6_sheet_82 (fun H locs hP _ hS => ?_)
                have hP : va_P D vwCl (mdw cI cL b (enc co gu kn fo sp ki pl ea to qu) fd mo tr b1 tp tm so bg te wd va gd (upd bo (ix x0) x1) (upd sz (ix x0) (if x1 = 0 then 0 else x2 : Int32)) (flat4 num) le im bf ik) H := hP
                have hP : va_P D vwCl (mdw cI cL b (enc co gu kn fo sp ki pl ea to qu) fd mo tr b1 tp tm so bg te wd va gd (upd bo (ix x0) x1) (upd sz (ix x0) (if x1 = 0 then 0 else x2 : Int32)) (flat4 (va_up num (ix x0) (fa_fill (fun _ => 0) (num (ix x0)) 0))) le im bf ik) H := by rw [fa_fill_0, va_up_id]; exact hP
                refine lv_iconst (v := 0) hx hb dX6_sheet_83 (by decide) ?_
                refine lv_istore (lv' := [(4, .int 0), (0, .ref (b 0)), (1, .int x0), (2, .int x1), (3, .int x2)]) hx hb dX6_sheet_84 hl (by decide) rfl (fun ls hl => ?_)
                refine lpW (fun n (u : Nat) H locs ls => (u + n = 40) ∧ va_P D vwCl (mdw cI cL b (enc co gu kn fo sp ki pl ea to qu) fd mo tr b1 tp tm so bg te wd va gd (upd bo (ix x0) x1) (upd sz (ix x0) (if x1 = 0 then 0 else x2 : Int32)) (flat4 (va_up num (ix x0) (fa_fill (fun _ => 0) (num (ix x0)) u))) le im bf ik) H ∧ va_S A s.heap H locs ∧ lv_has ls 5 [(0, .ref (b 0)), (1, .int x0), (2, .int x1), (3, .int x2), (4, .int (nI u))]) (40) (0) ⟨by omega, hP, hS, lv_sub hl [1, 2, 3, 4, 0] rfl⟩ (fun n ih u H locs ls hI => ?_)
                obtain ⟨i, rfl⟩ : ∃ z, z = u := ⟨_, rfl⟩
                obtain ⟨hi0, hP, hS, hl⟩ := hI
                have hi0 : i + n = 40 := hi0
                have hl : lv_has ls 5 [(0, .ref (b 0)), (1, .int x0), (2, .int x1), (3, .int x2), (4, .int (nI i))] := hl
                have hP : va_P D vwCl (mdw cI cL b (enc co gu kn fo sp ki pl ea to qu) fd mo tr b1 tp tm so bg te wd va gd (upd bo (ix x0) x1) (upd sz (ix x0) (if x1 = 0 then 0 else x2 : Int32)) (flat4 (va_up num (ix x0) (fa_fill (fun _ => 0) (num (ix x0)) i))) le im bf ik) H := hP
                refine lv_iload hx hb dX6_sheet_86 (lv_at hl 4 rfl) ?_
                refine lv_bipush (v := 40) hx hb dX6_sheet_88 (by decide) ?_
                refine lv_icmp_ge (tgt := 112) hx hb dX6_sheet_90 (by decide) (fun c_39 => ?_) (fun c_39 => ?_)
                · skip
                  have c_39n := (cmp_le (a := 40) (b := i) rfl rfl (by omega) (by omega)).mp c_39
                  have hP : va_P D vwCl (mdw cI cL b (enc co gu kn fo sp ki pl ea to qu) fd mo tr b1 tp tm so bg te wd va gd (upd bo (ix x0) x1) (upd sz (ix x0) (if x1 = 0 then 0 else x2 : Int32)) (flat4 (va_up num (ix x0) (fun _ => 0))) le im bf ik) H := by rw [show i = 40 by omega, flat_end] at hP; exact hP
                  refine lv_aload_n hx hb dX6_sheet_112 rfl (lv_at hl 0 rfl) ?_
                  refine va_get (ci := 4) (v := .ref (b 8)) (C := RX6) (T := TX6) (N := 20) hx hb hts inX6 hown hK hP 0 rfl rfl 14 (by decide) f31 (fun _ h9 => h9) rfl dX6_sheet_113 ?_
                  refine lv_iload_n hx hb dX6_sheet_116 rfl (lv_at hl 1 rfl) ?_
                  refine va_iald hx hb hK hP 8 0 rfl rfl hs dX6_sheet_117 ?_
                  exact W.iret hx hb hr (fun t ht hW => ⟨⟨_, ((upd bo (ix x0) x1), (upd sz (ix x0) (if x1 = 0 then 0 else x2 : Int32)), (va_up num (ix x0) (fun _ => 0)), fd), rfl, (by unfold sSheet; rw [iF_t ⟨c_1b, Or.inr (Or.inr (Or.inr c_34))⟩, iF_f (Int32.not_lt.mpr c_35), iF_f (Int32.not_lt.mpr c_36)]; rw [pk_us]), by dsimp only; rw [ht]; exact hP⟩, hS.F ht⟩) hS.2.2 dX6_sheet_118
                · skip
                  have c_39n := mt (cmp_le (a := 40) (b := i) rfl rfl (by omega) (by omega)).mpr c_39
                  refine lv_aload_n hx hb dX6_sheet_93 rfl (lv_at hl 0 rfl) ?_
                  refine va_get (ci := 4) (v := .ref (b 9)) (C := RX6) (T := TX6) (N := 20) hx hb hts inX6 hown hK hP 0 rfl rfl 15 (by decide) f34 (fun _ h9 => h9) rfl dX6_sheet_94 ?_
                  refine lv_bipush (v := 40) hx hb dX6_sheet_97 (by decide) ?_
                  refine lv_iload_n hx hb dX6_sheet_99 rfl (lv_at hl 1 rfl) ?_
                  refine lv_imul hx hb dX6_sheet_100 ?_
                  refine lv_iload hx hb dX6_sheet_101 (lv_at hl 4 rfl) ?_
                  refine lv_iadd hx hb dX6_sheet_103 ?_
                  refine lv_lconst (v := 0) hx hb dX6_sheet_104 (by decide) ?_
                  refine va_last hx hb hK hP (hD _ rfl) hS 9 1 rfl rfl ((ix40 hs (vp_in_nI (by omega) (by decide))).2) dX6_sheet_105 (fun H locs hP _ hS => ?_)
                  have hP : va_P D vwCl (mdw cI cL b (enc co gu kn fo sp ki pl ea to qu) fd mo tr b1 tp tm so bg te wd va gd (upd bo (ix x0) x1) (upd sz (ix x0) (if x1 = 0 then 0 else x2 : Int32)) (flat4 (va_up num (ix x0) (fa_fill (fun _ => 0) (num (ix x0)) (i + 1)))) le im bf ik) H := by rw [← flat_step hs (by omega)]; exact hP
                  refine lv_iinc (v := nI (i + 1)) (lv' := [(4, .int (nI (i + 1))), (0, .ref (b 0)), (1, .int x0), (2, .int x1), (3, .int x2)]) hx hb dX6_sheet_106 hl (k := 4) rfl (nI_1 _) (by decide) rfl (fun ls hl => ?_)
                  refine lv_goto (tgt := 86) hx hb dX6_sheet_109 (by decide) ?_
                  exact ih (n - 1) (by omega) (i + 1) H locs ls ⟨by omega, hP, hS, lv_sub hl [1, 2, 3, 4, 0] rfl⟩
              · skip
                refine lv_aload_n hx hb dX6_sheet_54 rfl (lv_at hl 0 rfl) ?_
                refine lv_ldc hx hb hown k47 dX6_sheet_55 ?_
                refine callMi (va_runV (As := [.int (-1000000001)]) (rest := []) ⟨hx, hb, hml, hown, hts⟩ (k_X6_finds l D cI cL cS b co gu kn fo sp ki pl ea to qu fd mo tr b1 tp tm so bg te wd va gd bo sz (flat4 num) le im bf ik (-1000000001) (va_DT (hD _ rfl) rfl) (vp_in_iff.mpr (by decide))) (cwV 1 hts gX6_sheet_X6_finds rfl rfl rfl (by decide +kernel) ⟨Nat.le_of_ble_eq_true rfl, Nat.le_of_ble_eq_true rfl⟩) ⟨PcR_fb, va_recv hK hP (ci := 4) (q0 := 0) rfl rfl, PcR_pre hP hK⟩ rfl rfl hl.1 rfl (lv_room (Nat.le_of_ble_eq_true rfl)) dX6_sheet_57 ⟨Nat.zero_le _, Nat.zero_le _⟩) hP (hD _ rfl) hS 0 13 rfl (fun r_41 u_40 H locs hu_40 hP hS => ?_)
                obtain ⟨hu_40r, hu_40⟩ := hu_40
                subst hu_40r
                have hP : va_P D vwCl (mdw cI cL b (enc co gu kn fo sp ki pl ea to qu) (bump fd (-1000000001)) mo tr b1 tp tm so bg te wd va gd bo sz (flat4 num) le im bf ik) H := hP
                exact W.iret hx hb hr (fun t ht hW => ⟨⟨_, (bo, sz, num, bump fd (-1000000001)), rfl, (by unfold sSheet; rw [iF_t ⟨c_1b, Or.inr (Or.inr (Or.inr c_34))⟩, iF_f (Int32.not_lt.mpr c_35), iF_t (Int32.not_le.mp c_36)]), by dsimp only; rw [ht]; exact hP⟩, hS.F ht⟩) hS.2.2 dX6_sheet_60
            · skip
              refine lv_aload_n hx hb dX6_sheet_40 rfl (lv_at hl 0 rfl) ?_
              refine lv_ldcw hx hb hown k256 dX6_sheet_41 ?_
              refine callMi (va_runV (As := [.int (-1000000007)]) (rest := []) ⟨hx, hb, hml, hown, hts⟩ (k_X6_finds l D cI cL cS b co gu kn fo sp ki pl ea to qu fd mo tr b1 tp tm so bg te wd va gd bo sz (flat4 num) le im bf ik (-1000000007) (va_DT (hD _ rfl) rfl) (vp_in_iff.mpr (by decide))) (cwV 1 hts gX6_sheet_X6_finds rfl rfl rfl (by decide +kernel) ⟨Nat.le_of_ble_eq_true rfl, Nat.le_of_ble_eq_true rfl⟩) ⟨PcR_fb, va_recv hK hP (ci := 4) (q0 := 0) rfl rfl, PcR_pre hP hK⟩ rfl rfl hl.1 rfl (lv_room (Nat.le_of_ble_eq_true rfl)) dX6_sheet_44 ⟨Nat.zero_le _, Nat.zero_le _⟩) hP (hD _ rfl) hS 0 13 rfl (fun r_43 u_42 H locs hu_42 hP hS => ?_)
              obtain ⟨hu_42r, hu_42⟩ := hu_42
              subst hu_42r
              have hP : va_P D vwCl (mdw cI cL b (enc co gu kn fo sp ki pl ea to qu) (bump fd (-1000000007)) mo tr b1 tp tm so bg te wd va gd bo sz (flat4 num) le im bf ik) H := hP
              exact W.iret hx hb hr (fun t ht hW => ⟨⟨_, (bo, sz, num, bump fd (-1000000007)), rfl, (by unfold sSheet; rw [iF_t ⟨c_1b, Or.inr (Or.inr (Or.inr c_34))⟩, iF_t (Int32.not_le.mp c_35)]), by dsimp only; rw [ht]; exact hP⟩, hS.F ht⟩) hS.2.2 dX6_sheet_47
          · skip
            refine lv_aload_n hx hb dX6_sheet_29 rfl (lv_at hl 0 rfl) ?_
            refine lv_ldc hx hb hown k47 dX6_sheet_30 ?_
            refine callMi (va_runV (As := [.int (-1000000001)]) (rest := []) ⟨hx, hb, hml, hown, hts⟩ (k_X6_finds l D cI cL cS b co gu kn fo sp ki pl ea to qu fd mo tr b1 tp tm so bg te wd va gd bo sz (flat4 num) le im bf ik (-1000000001) (va_DT (hD _ rfl) rfl) (vp_in_iff.mpr (by decide))) (cwV 1 hts gX6_sheet_X6_finds rfl rfl rfl (by decide +kernel) ⟨Nat.le_of_ble_eq_true rfl, Nat.le_of_ble_eq_true rfl⟩) ⟨PcR_fb, va_recv hK hP (ci := 4) (q0 := 0) rfl rfl, PcR_pre hP hK⟩ rfl rfl hl.1 rfl (lv_room (Nat.le_of_ble_eq_true rfl)) dX6_sheet_32 ⟨Nat.zero_le _, Nat.zero_le _⟩) hP (hD _ rfl) hS 0 13 rfl (fun r_45 u_44 H locs hu_44 hP hS => ?_)
            obtain ⟨hu_44r, hu_44⟩ := hu_44
            subst hu_44r
            have hP : va_P D vwCl (mdw cI cL b (enc co gu kn fo sp ki pl ea to qu) (bump fd (-1000000001)) mo tr b1 tp tm so bg te wd va gd bo sz (flat4 num) le im bf ik) H := hP
            exact W.iret hx hb hr (fun t ht hW => ⟨⟨_, (bo, sz, num, bump fd (-1000000001)), rfl, (by exact (iF_f (fun h => h.2.elim c_4 (fun h => h.elim c_14 (fun h => h.elim c_24 c_34)))).symm), by dsimp only; rw [ht]; exact hP⟩, hS.F ht⟩) hS.2.2 dX6_sheet_35

set_option maxRecDepth 100000 in
set_option maxHeartbeats 4000000 in
theorem k_X6_write (l : Launch) (D : va_G) (cI cL cS : ClassId) (b : Nat → Nat) (co gu : Int32) (kn fo sp ki pl ea to qu : FI) (fd : FI) (mo : FI) (tr : FI) (b1 : FI) (tp : FI) (tm : Int32) (so : Int32) (bg : Int32) (te : Int32) (wd : Int64) (va : Int32) (gd : Int32) (bo : FI) (sz : FI) (le : FJ) (im : FI) (bf : FI) (ik : Int32) (num : Nat → FJ) (x0 : Int32) (x1 : Int32) (x2 : Int64) (dj : va_D (fun _ => True) (dj0 b 13)) (oh : okH bo sz) : Met l yX6_write wsX6_write { frames := 2, cells := 0, slots := 0, locals := 42 } (PcR D vwCl (tyG cI cL cS) [.ref (b 0), .int x0, .int x1, .long x2] (mdw cI cL b (enc co gu kn fo sp ki pl ea to qu) fd mo tr b1 tp tm so bg te wd va gd bo sz (flat4 num) le im bf ik)) (va_Ql (fun (r : Int64) (u : (Nat → FJ) × FI) => (r, u.1, u.2) = sWrite bo sz num fd x0 x1 x2) (fun u t => va_P D vwCl (mdw cI cL b (enc co gu kn fo sp ki pl ea to qu) u.2 mo tr b1 tp tm so bg te wd va gd bo sz (flat4 u.1) le im bf ik) t.heap) (Aof (mdw cI cL b (enc co gu kn fo sp ki pl ea to qu) fd mo tr b1 tp tm so bg te wd va gd bo sz (flat4 num) le im bf ik))) 0 0 (Aof (mdw cI cL b (enc co gu kn fo sp ki pl ea to qu) fd mo tr b1 tp tm so bg te wd va gd bo sz (flat4 num) le im bf ik)) := by
  refine Met.ofW (cc := cX6_write) (maxL := 7) (ret := (some .long)) (by decide) rfl ?_
  intro p e s m args below meth c s₁ B hml hv
  obtain ⟨rfl, hP, hK⟩ := hv
  have hx := B.exec
  have hb := B.bytes
  have hr := B.returns
  have hts := atoms_spec (ws := wsX6_write) B.pre
  have hown : s.vm.findClass RX6 = some m.cls := findClass_of_methodNamed B.named
  have hlocks := B.notSynchronized
  obtain ⟨A, hAe⟩ : ∃ A, A = Aof (mdw cI cL b (enc co gu kn fo sp ki pl ea to qu) fd mo tr b1 tp tm so bg te wd va gd bo sz (flat4 num) le im bf ik) := ⟨_, rfl⟩
  rw [← hAe]
  have hD : ∀ ws' : va_W, ws'.map Prod.fst = (mdw cI cL b (enc co gu kn fo sp ki pl ea to qu) fd mo tr b1 tp tm so bg te wd va gd bo sz (flat4 num) le im bf ik).map Prod.fst → va_D A ws' := fun ws' e => by rw [hAe]; exact va_D_adr (va_D_self (va_D_adr dj rfl)) e
  have hS : va_S A s.heap s.heap [] := va_S.rf
  have hP : va_P D vwCl (mdw cI cL b (enc co gu kn fo sp ki pl ea to qu) fd mo tr b1 tp tm so bg te wd va gd bo sz (flat4 num) le im bf ik) s.heap := hP
  have hl := lv_entry ([.ref (b 0), .int x0, .int x1, .long x2]) (n := 7) (Nat.le_of_ble_eq_true rfl)
  rw [lg_entry_eq]
  generalize (lg_sl ([.ref (b 0), .int x0, .int x1, .long x2]) ++ List.replicate (7 - (lg_sl ([.ref (b 0), .int x0, .int x1, .long x2])).length) Slot.unset).toArray = ls at hl ⊢
  have hl : lv_has ls 7 [(0, .ref (b 0)), (1, .int x0), (2, .int x1), (3, .long x2)] := hl
  have f28 := hts (.fieldLink RX6 28 "KnivesLaidModel" "bitsOf" "[I") (List.mem_of_getElem? (i := 2) rfl)
  have inX6 : ∀ w ∈ u_ws RX6 TX6 20, w ∈ wsX6_write := in_at 21 _ _ rfl
  have f31 := hts (.fieldLink RX6 31 "KnivesLaidModel" "sizeOf" "[I") (List.mem_of_getElem? (i := 4) rfl)
  have f34 := hts (.fieldLink RX6 34 "KnivesLaidModel" "sheets" "[J") (List.mem_of_getElem? (i := 5) rfl)
  have k47 := hts (.constant RX6 47 (-1000000001)) (List.mem_of_getElem? (i := 1) rfl)
  have k257 := hts (.constant RX6 257 (-1000000006)) (List.mem_of_getElem? (i := 3) rfl)
  skip
  refine lv_iload_n hx hb dX6_write_0 rfl (lv_at hl 1 rfl) ?_
  refine callE (W.runS (As := [.int x0]) (rest := []) ⟨hx, hb, hml, hown, hts⟩ (k_X6_isSheet l x0) (va_cwS 1 hts gX6_write_X6_isSheet rfl rfl rfl (by decide +kernel) ⟨Nat.le_of_ble_eq_true rfl, Nat.le_of_ble_eq_true rfl⟩) ⟨PcP_fb, fun U _ _ => ⟨rfl, trivial⟩⟩ rfl rfl hl.1 rfl (lv_room (Nat.le_of_ble_eq_true rfl)) dX6_write_1 ⟨Nat.zero_le _, Nat.zero_le _⟩) ?_
  refine lv_if_ne (tgt := 15) hx hb dX6_write_4 (by decide) (fun c_1 => ?_) (fun c_1 => ?_)
  · skip
    have c_1b := bI_n c_1
    have hs := c_1b
    have hz := (oh _ (ix_lt (by decide) hs)).1
    refine lv_aload_n hx hb dX6_write_15 rfl (lv_at hl 0 rfl) ?_
    refine va_get (ci := 4) (v := .ref (b 7)) (C := RX6) (T := TX6) (N := 20) hx hb hts inX6 hown hK hP 0 rfl rfl 13 (by decide) f28 (fun _ h9 => h9) rfl dX6_write_16 ?_
    refine lv_iload_n hx hb dX6_write_19 rfl (lv_at hl 1 rfl) ?_
    refine va_iald hx hb hK hP 7 0 rfl rfl hs dX6_write_20 ?_
    refine lv_if_ne (tgt := 33) hx hb dX6_write_21 (by decide) (fun c_2 => ?_) (fun c_2 => ?_)
    · skip
      refine lv_iload_n hx hb dX6_write_33 rfl (lv_at hl 2 rfl) ?_
      refine lv_iconst (v := 0) hx hb dX6_write_34 (by decide) ?_
      refine lv_aload_n hx hb dX6_write_35 rfl (lv_at hl 0 rfl) ?_
      refine va_get (ci := 4) (v := .ref (b 8)) (C := RX6) (T := TX6) (N := 20) hx hb hts inX6 hown hK hP 0 rfl rfl 14 (by decide) f31 (fun _ h9 => h9) rfl dX6_write_36 ?_
      refine lv_iload_n hx hb dX6_write_39 rfl (lv_at hl 1 rfl) ?_
      refine va_iald hx hb hK hP 8 0 rfl rfl hs dX6_write_40 ?_
      refine lv_iconst (v := 1) hx hb dX6_write_41 (by decide) ?_
      refine lv_isub hx hb dX6_write_42 ?_
      refine callE (W.runS (As := [.int x1, .int 0, .int ((sz (ix x0)) - 1)]) (rest := []) ⟨hx, hb, hml, hown, hts⟩ (k_X6_in l x1 0 ((sz (ix x0)) - 1)) (va_cwS 3 hts gX6_write_X6_in rfl rfl rfl (by decide +kernel) ⟨Nat.le_of_ble_eq_true rfl, Nat.le_of_ble_eq_true rfl⟩) ⟨PcP_fb, fun U _ _ => ⟨rfl, trivial⟩⟩ rfl rfl hl.1 rfl (lv_room (Nat.le_of_ble_eq_true rfl)) dX6_write_43 ⟨Nat.zero_le _, Nat.zero_le _⟩) ?_
      refine lv_if_ne (tgt := 57) hx hb dX6_write_46 (by decide) (fun c_3 => ?_) (fun c_3 => ?_)
      · skip
        have c_3b := bI_n c_3
        have hin := (h_iff hz).mp c_3b
        have hi40 := h_in hz hin
        refine lv_aload_n hx hb dX6_write_57 rfl (lv_at hl 0 rfl) ?_
        refine va_get (ci := 4) (v := .ref (b 9)) (C := RX6) (T := TX6) (N := 20) hx hb hts inX6 hown hK hP 0 rfl rfl 15 (by decide) f34 (fun _ h9 => h9) rfl dX6_write_58 ?_
        refine lv_bipush (v := 40) hx hb dX6_write_61 (by decide) ?_
        refine lv_iload_n hx hb dX6_write_63 rfl (lv_at hl 1 rfl) ?_
        refine lv_imul hx hb dX6_write_64 ?_
        refine lv_iload_n hx hb dX6_write_65 rfl (lv_at hl 2 rfl) ?_
        refine lv_iadd hx hb dX6_write_66 ?_
        refine va_lald hx hb hK hP 9 1 rfl rfl ((ix40 hs hi40).2) dX6_write_67 ?_
        refine lv_toL (y := num (ix x0) (ix x1)) (flat_rd hs hi40) ?_
        refine lv_lstore (lv' := [(5, .long (num (ix x0) (ix x1))), (0, .ref (b 0)), (1, .int x0), (2, .int x1), (3, .long x2)]) hx hb dX6_write_68 hl (by decide) rfl (fun ls hl => ?_)
        refine lv_aload_n hx hb dX6_write_70 rfl (lv_at hl 1 rfl) ?_
        refine va_get (ci := 4) (v := .ref (b 9)) (C := RX6) (T := TX6) (N := 20) hx hb hts inX6 hown hK hP 0 rfl rfl 15 (by decide) f34 (fun _ h9 => h9) rfl dX6_write_71 ?_
        refine lv_bipush (v := 40) hx hb dX6_write_74 (by decide) ?_
        refine lv_iload_n hx hb dX6_write_76 rfl (lv_at hl 2 rfl) ?_
        refine lv_imul hx hb dX6_write_77 ?_
        refine lv_iload_n hx hb dX6_write_78 rfl (lv_at hl 3 rfl) ?_
        refine lv_iadd hx hb dX6_write_79 ?_
        refine lv_aload_n hx hb dX6_write_80 rfl (lv_at hl 1 rfl) ?_
        refine va_get (ci := 4) (v := .ref (b 7)) (C := RX6) (T := TX6) (N := 20) hx hb hts inX6 hown hK hP 0 rfl rfl 13 (by decide) f28 (fun _ h9 => h9) rfl dX6_write_81 ?_
        refine lv_iload_n hx hb dX6_write_84 rfl (lv_at hl 2 rfl) ?_
        refine va_iald hx hb hK hP 7 0 rfl rfl hs dX6_write_85 ?_
        refine lv_lload_n hx hb dX6_write_86 rfl (lv_at hl 4 rfl) ?_
        refine callEl (W.runS (As := [.int (bo (ix x0)), .long x2]) (rest := [.int ((40 * x0) + x1), .ref (b 9)]) ⟨hx, hb, hml, hown, hts⟩ (k_X6_narrow l (bo (ix x0)) x2) (va_cwS 2 hts gX6_write_X6_narrow rfl rfl rfl (by decide +kernel) ⟨Nat.le_of_ble_eq_true rfl, Nat.le_of_ble_eq_true rfl⟩) ⟨PcP_fb, fun U _ _ => ⟨rfl, trivial⟩⟩ rfl rfl hl.1 rfl (lv_room (Nat.le_of_ble_eq_true rfl)) dX6_write_87 ⟨Nat.zero_le _, Nat.zero_le _⟩) ?_
        refine va_last hx hb hK hP (hD _ rfl) hS 9 1 rfl rfl ((ix40 hs hi40).2) dX6_write_90 (fun H locs hP _ hS => ?_)
        have hP : va_P D vwCl (mdw cI cL b (enc co gu kn fo sp ki pl ea to qu) fd mo tr b1 tp tm so bg te wd va gd bo sz (flat4 (va_up num (ix x0) (vp_updL (num (ix x0)) (ix x1) (sNar (bo (ix x0)) x2)))) le im bf ik) H := by rw [← flat_wr hs hi40]; exact hP
        refine lv_lload hx hb dX6_write_91 (lv_at hl 0 rfl) ?_
        exact W.lret hx hb hr (fun t ht hW => ⟨⟨_, ((va_up num (ix x0) (vp_updL (num (ix x0)) (ix x1) (sNar (bo (ix x0)) x2))), fd), rfl, (by exact ((iF_t hs).trans ((iF_f c_2).trans (iF_t hin))).symm), by dsimp only; rw [ht]; exact hP⟩, hS.F ht⟩) hS.2.2 dX6_write_93
      · skip
        have c_3b := bI_0 c_3
        refine lv_aload_n hx hb dX6_write_49 rfl (lv_at hl 0 rfl) ?_
        refine lv_ldc hx hb hown k47 dX6_write_50 ?_
        refine callMi (va_runV (As := [.int (-1000000001)]) (rest := []) ⟨hx, hb, hml, hown, hts⟩ (k_X6_finds l D cI cL cS b co gu kn fo sp ki pl ea to qu fd mo tr b1 tp tm so bg te wd va gd bo sz (flat4 num) le im bf ik (-1000000001) (va_DT (hD _ rfl) rfl) (vp_in_iff.mpr (by decide))) (cwV 1 hts gX6_write_X6_finds rfl rfl rfl (by decide +kernel) ⟨Nat.le_of_ble_eq_true rfl, Nat.le_of_ble_eq_true rfl⟩) ⟨PcR_fb, va_recv hK hP (ci := 4) (q0 := 0) rfl rfl, PcR_pre hP hK⟩ rfl rfl hl.1 rfl (lv_room (Nat.le_of_ble_eq_true rfl)) dX6_write_52 ⟨Nat.zero_le _, Nat.zero_le _⟩) hP (hD _ rfl) hS 0 13 rfl (fun r_5 u_4 H locs hu_4 hP hS => ?_)
        obtain ⟨hu_4r, hu_4⟩ := hu_4
        subst hu_4r
        have hP : va_P D vwCl (mdw cI cL b (enc co gu kn fo sp ki pl ea to qu) (bump fd (-1000000001)) mo tr b1 tp tm so bg te wd va gd bo sz (flat4 num) le im bf ik) H := hP
        refine lv_i2l (v := ((-1000000001)).toInt64) hx hb dX6_write_55 rfl ?_
        exact W.lret hx hb hr (fun t ht hW => ⟨⟨_, (num, bump fd (-1000000001)), rfl, (by exact ((iF_t hs).trans ((iF_f c_2).trans (iF_f (mt (h_iff hz).mpr c_3b)))).symm), by dsimp only; rw [ht]; exact hP⟩, hS.F ht⟩) hS.2.2 dX6_write_56
    · skip
      refine lv_aload_n hx hb dX6_write_24 rfl (lv_at hl 0 rfl) ?_
      refine lv_ldcw hx hb hown k257 dX6_write_25 ?_
      refine callMi (va_runV (As := [.int (-1000000006)]) (rest := []) ⟨hx, hb, hml, hown, hts⟩ (k_X6_finds l D cI cL cS b co gu kn fo sp ki pl ea to qu fd mo tr b1 tp tm so bg te wd va gd bo sz (flat4 num) le im bf ik (-1000000006) (va_DT (hD _ rfl) rfl) (vp_in_iff.mpr (by decide))) (cwV 1 hts gX6_write_X6_finds rfl rfl rfl (by decide +kernel) ⟨Nat.le_of_ble_eq_true rfl, Nat.le_of_ble_eq_true rfl⟩) ⟨PcR_fb, va_recv hK hP (ci := 4) (q0 := 0) rfl rfl, PcR_pre hP hK⟩ rfl rfl hl.1 rfl (lv_room (Nat.le_of_ble_eq_true rfl)) dX6_write_28 ⟨Nat.zero_le _, Nat.zero_le _⟩) hP (hD _ rfl) hS 0 13 rfl (fun r_7 u_6 H locs hu_6 hP hS => ?_)
      obtain ⟨hu_6r, hu_6⟩ := hu_6
      subst hu_6r
      have hP : va_P D vwCl (mdw cI cL b (enc co gu kn fo sp ki pl ea to qu) (bump fd (-1000000006)) mo tr b1 tp tm so bg te wd va gd bo sz (flat4 num) le im bf ik) H := hP
      refine lv_i2l (v := ((-1000000006)).toInt64) hx hb dX6_write_31 rfl ?_
      exact W.lret hx hb hr (fun t ht hW => ⟨⟨_, (num, bump fd (-1000000006)), rfl, (by exact ((iF_t hs).trans (iF_t c_2)).symm), by dsimp only; rw [ht]; exact hP⟩, hS.F ht⟩) hS.2.2 dX6_write_32
  · skip
    have c_1b := bI_0 c_1
    refine lv_aload_n hx hb dX6_write_7 rfl (lv_at hl 0 rfl) ?_
    refine lv_ldc hx hb hown k47 dX6_write_8 ?_
    refine callMi (va_runV (As := [.int (-1000000001)]) (rest := []) ⟨hx, hb, hml, hown, hts⟩ (k_X6_finds l D cI cL cS b co gu kn fo sp ki pl ea to qu fd mo tr b1 tp tm so bg te wd va gd bo sz (flat4 num) le im bf ik (-1000000001) (va_DT (hD _ rfl) rfl) (vp_in_iff.mpr (by decide))) (cwV 1 hts gX6_write_X6_finds rfl rfl rfl (by decide +kernel) ⟨Nat.le_of_ble_eq_true rfl, Nat.le_of_ble_eq_true rfl⟩) ⟨PcR_fb, va_recv hK hP (ci := 4) (q0 := 0) rfl rfl, PcR_pre hP hK⟩ rfl rfl hl.1 rfl (lv_room (Nat.le_of_ble_eq_true rfl)) dX6_write_10 ⟨Nat.zero_le _, Nat.zero_le _⟩) hP (hD _ rfl) hS 0 13 rfl (fun r_9 u_8 H locs hu_8 hP hS => ?_)
    obtain ⟨hu_8r, hu_8⟩ := hu_8
    subst hu_8r
    have hP : va_P D vwCl (mdw cI cL b (enc co gu kn fo sp ki pl ea to qu) (bump fd (-1000000001)) mo tr b1 tp tm so bg te wd va gd bo sz (flat4 num) le im bf ik) H := hP
    refine lv_i2l (v := ((-1000000001)).toInt64) hx hb dX6_write_13 rfl ?_
    exact W.lret hx hb hr (fun t ht hW => ⟨⟨_, (num, bump fd (-1000000001)), rfl, (by exact (iF_f c_1b).symm), by dsimp only; rw [ht]; exact hP⟩, hS.F ht⟩) hS.2.2 dX6_write_14

set_option maxRecDepth 100000 in
set_option maxHeartbeats 4000000 in
theorem k_X6_lays (l : Launch) (D : va_G) (cI cL cS : ClassId) (b : Nat → Nat) (co gu : Int32) (kn fo sp ki pl ea to qu : FI) (fd : FI) (mo : FI) (tr : FI) (b1 : FI) (tp : FI) (tm : Int32) (so : Int32) (bg : Int32) (te : Int32) (wd : Int64) (va : Int32) (gd : Int32) (bo : FI) (sz : FI) (le : FJ) (im : FI) (bf : FI) (ik : Int32) (num : Nat → FJ) (x0 : Int32) (dj : va_D (fun _ => True) (dj0 b 13)) (ok : okT gu kn fo sp (whC gu pl) ki pl) (oh : okH bo sz) : Met l yX6_lays wsX6_lays { frames := 3, cells := 0, slots := 0, locals := 63 } (PcR D vwCl (tyG cI cL cS) [.ref (b 0), .int x0] (mdw cI cL b (enc co gu kn fo sp ki pl ea to qu) fd mo tr b1 tp tm so bg te wd va gd bo sz (flat4 num) le im bf ik)) (va_Qi (fun (r : Int32) (u : Sg × FI) => (r, u.1, u.2) = sLays bo sz num (co, gu, kn, fo, sp, ki, pl, ea, to, qu) fd x0) (fun u t => va_P D vwCl (mdw cI cL b (encS u.1) u.2 mo tr b1 tp tm so bg te wd va gd bo sz (flat4 num) le im bf ik) t.heap) (Aof (mdw cI cL b (enc co gu kn fo sp ki pl ea to qu) fd mo tr b1 tp tm so bg te wd va gd bo sz (flat4 num) le im bf ik))) 0 0 (Aof (mdw cI cL b (enc co gu kn fo sp ki pl ea to qu) fd mo tr b1 tp tm so bg te wd va gd bo sz (flat4 num) le im bf ik)) := by
  refine Met.ofW (cc := cX6_lays) (maxL := 7) (ret := (some .int)) (by decide) rfl ?_
  intro p e s m args below meth c s₁ B hml hv
  obtain ⟨rfl, hP, hK⟩ := hv
  have hx := B.exec
  have hb := B.bytes
  have hr := B.returns
  have hts := atoms_spec (ws := wsX6_lays) B.pre
  have hown : s.vm.findClass RX6 = some m.cls := findClass_of_methodNamed B.named
  have hlocks := B.notSynchronized
  obtain ⟨A, hAe⟩ : ∃ A, A = Aof (mdw cI cL b (enc co gu kn fo sp ki pl ea to qu) fd mo tr b1 tp tm so bg te wd va gd bo sz (flat4 num) le im bf ik) := ⟨_, rfl⟩
  rw [← hAe]
  have hD : ∀ ws' : va_W, ws'.map Prod.fst = (mdw cI cL b (enc co gu kn fo sp ki pl ea to qu) fd mo tr b1 tp tm so bg te wd va gd bo sz (flat4 num) le im bf ik).map Prod.fst → va_D A ws' := fun ws' e => by rw [hAe]; exact va_D_adr (va_D_self (va_D_adr dj rfl)) e
  have hS : va_S A s.heap s.heap [] := va_S.rf
  have hP : va_P D vwCl (mdw cI cL b (enc co gu kn fo sp ki pl ea to qu) fd mo tr b1 tp tm so bg te wd va gd bo sz (flat4 num) le im bf ik) s.heap := hP
  have hl := lv_entry ([.ref (b 0), .int x0]) (n := 7) (Nat.le_of_ble_eq_true rfl)
  rw [lg_entry_eq]
  generalize (lg_sl ([.ref (b 0), .int x0]) ++ List.replicate (7 - (lg_sl ([.ref (b 0), .int x0])).length) Slot.unset).toArray = ls at hl ⊢
  have hl : lv_has ls 7 [(0, .ref (b 0)), (1, .int x0)] := hl
  have f31 := hts (.fieldLink RX6 31 "KnivesLaidModel" "sizeOf" "[I") (List.mem_of_getElem? (i := 1) rfl)
  have inX6 : ∀ w ∈ u_ws RX6 TX6 20, w ∈ wsX6_lays := in_at 29 _ _ rfl
  have f7 := hts (.fieldLink RX6 7 "KnivesLaidModel" "row" "[I") (List.mem_of_getElem? (i := 2) rfl)
  have f34 := hts (.fieldLink RX6 34 "KnivesLaidModel" "sheets" "[J") (List.mem_of_getElem? (i := 3) rfl)
  have k267 := hts (.constantLong RX6 267 (-99)) (List.mem_of_getElem? (i := 4) rfl)
  have k269 := hts (.constantLong RX6 269 (99)) (List.mem_of_getElem? (i := 5) rfl)
  skip
  have hgu := gu_of ok.gu
  have hgu8 := hgu.2
  refine lv_aload_n hx hb dX6_lays_0 rfl (lv_at hl 0 rfl) ?_
  refine lv_iload_n hx hb dX6_lays_1 rfl (lv_at hl 1 rfl) ?_
  refine callE (W.runV (As := [.int x0]) (rest := []) ⟨hx, hb, hml, hown, hts⟩ (k_X6_badSheet l D cI cL cS b co gu kn fo sp ki pl ea to qu fd mo tr b1 tp tm so bg te wd va gd bo sz (flat4 num) le im bf ik x0) (cwV 1 hts gX6_lays_X6_badSheet rfl rfl rfl (by decide +kernel) ⟨Nat.le_of_ble_eq_true rfl, Nat.le_of_ble_eq_true rfl⟩) ⟨PcR_fb, va_recv hK hP (ci := 4) (q0 := 0) rfl rfl, PcR_pre hP hK⟩ rfl rfl hl.1 rfl (lv_room (Nat.le_of_ble_eq_true rfl)) dX6_lays_2 ⟨Nat.zero_le _, Nat.zero_le _⟩) ?_
  refine lv_istore_n (lv' := [(2, .int (sBad bo x0)), (0, .ref (b 0)), (1, .int x0)]) hx hb dX6_lays_5 rfl hl (by decide) rfl (fun ls hl => ?_)
  refine lv_iload_n hx hb dX6_lays_6 rfl (lv_at hl 0 rfl) ?_
  refine lv_if_eq (tgt := 16) hx hb dX6_lays_7 (by decide) (fun c_1 => ?_) (fun c_1 => ?_)
  · skip
    obtain ⟨hs, hbz⟩ := bad_0 c_1
    have hq := sz_of (oh _ (ix_lt (by decide) hs)).1
    refine lv_iconst (v := 0) hx hb dX6_lays_16 (by decide) ?_
    refine lv_istore_n (lv' := [(3, .int 0), (2, .int (sBad bo x0)), (0, .ref (b 0)), (1, .int x0)]) hx hb dX6_lays_17 rfl hl (by decide) rfl (fun ls hl => ?_)
    refine lv_iconst (v := 0) hx hb dX6_lays_18 (by decide) ?_
    refine lv_istore (lv' := [(4, .int 0), (3, .int 0), (2, .int (sBad bo x0)), (0, .ref (b 0)), (1, .int x0)]) hx hb dX6_lays_19 hl (by decide) rfl (fun ls hl => ?_)
    refine lpW (fun n (u : Nat × FI × Int32) H locs ls => (u.1 + n = 41) ∧ (u.1 ≤ ix (sz (ix x0)) ∧ u.1 ≤ ix gu) ∧ ((u.2.1, u.2.2) = lysF (num (ix x0)) ea u.1) ∧ va_P D vwCl (mdw cI cL b (enc co gu kn fo sp ki pl u.2.1 to qu) fd mo tr b1 tp tm so bg te wd va gd bo sz (flat4 num) le im bf ik) H ∧ va_S A s.heap H locs ∧ lv_has ls 7 [(0, .ref (b 0)), (1, .int x0), (3, .int u.2.2), (4, .int (nI u.1))]) (41) ((0, ea, 0)) ⟨by omega, ⟨Nat.zero_le _, Nat.zero_le _⟩, rfl, hP, hS, lv_sub hl [3, 4, 1, 0] rfl⟩ (fun n ih u H locs ls hI => ?_)
    obtain ⟨i, ee, zz⟩ := u
    obtain ⟨hi0, hi1, hi2, hP, hS, hl⟩ := hI
    have hi0 : i + n = 41 := hi0
    have hi1 : i ≤ ix (sz (ix x0)) ∧ i ≤ ix gu := hi1
    have hi2 : (ee, zz) = lysF (num (ix x0)) ea i := hi2
    have hl : lv_has ls 7 [(0, .ref (b 0)), (1, .int x0), (3, .int zz), (4, .int (nI i))] := hl
    have hP : va_P D vwCl (mdw cI cL b (enc co gu kn fo sp ki pl ee to qu) fd mo tr b1 tp tm so bg te wd va gd bo sz (flat4 num) le im bf ik) H := hP
    have hix : ix (nI i) = i := ix_nI (by omega)
    refine lv_iload hx hb dX6_lays_21 (lv_at hl 3 rfl) ?_
    refine lv_aload_n hx hb dX6_lays_23 rfl (lv_at hl 0 rfl) ?_
    refine va_get (ci := 4) (v := .ref (b 8)) (C := RX6) (T := TX6) (N := 20) hx hb hts inX6 hown hK hP 0 rfl rfl 14 (by decide) f31 (fun _ h9 => h9) rfl dX6_lays_24 ?_
    refine lv_iload_n hx hb dX6_lays_27 rfl (lv_at hl 1 rfl) ?_
    refine va_iald hx hb hK hP 8 0 rfl rfl hs dX6_lays_28 ?_
    refine lv_icmp_ge (tgt := 94) hx hb dX6_lays_29 (by decide) (fun c_2 => ?_) (fun c_2 => ?_)
    · skip
      have c_2n := (cmp_le (a := ix (sz (ix x0))) (b := i) hq.1 rfl (by omega) (by omega)).mp c_2
      refine lv_iload_n hx hb dX6_lays_94 rfl (lv_at hl 2 rfl) ?_
      exact W.iret hx hb hr (fun t ht hW => ⟨⟨_, ((co, gu, kn, fo, sp, ki, pl, ee, to, qu), fd), rfl, (by exact ((iF_t hs).trans ((iF_f hbz).trans (lys_end (σ := (co, gu, kn, fo, sp, ki, pl, ea, to, qu)) hi2 (show min (ix (sz (ix x0))) (ix gu) = i by omega)))).symm), by dsimp only; rw [ht]; exact hP⟩, hS.F ht⟩) hS.2.2 dX6_lays_95
    · skip
      have c_2n := mt (cmp_le (a := ix (sz (ix x0))) (b := i) hq.1 rfl (by omega) (by omega)).mpr c_2
      refine lv_iload hx hb dX6_lays_32 (lv_at hl 3 rfl) ?_
      refine lv_aload_n hx hb dX6_lays_34 rfl (lv_at hl 0 rfl) ?_
      refine va_get (ci := 4) (v := .ref (b 1)) (C := RX6) (T := TX6) (N := 20) hx hb hts inX6 hown hK hP 0 rfl rfl 0 (by decide) f7 (fun _ h9 => h9) rfl dX6_lays_35 ?_
      refine lv_iconst (v := 1) hx hb dX6_lays_38 (by decide) ?_
      refine va_iald hx hb hK hP 1 0 rfl rfl (vp_in_iff.mpr (by decide)) dX6_lays_39 ?_
      refine lv_to (y := gu) rfl ?_
      refine lv_icmp_ge (tgt := 94) hx hb dX6_lays_40 (by decide) (fun c_3 => ?_) (fun c_3 => ?_)
      · skip
        have c_3n := (cmp_le (a := ix gu) (b := i) hgu.1 rfl (by omega) (by omega)).mp c_3
        refine lv_iload_n hx hb dX6_lays_94 rfl (lv_at hl 2 rfl) ?_
        exact W.iret hx hb hr (fun t ht hW => ⟨⟨_, ((co, gu, kn, fo, sp, ki, pl, ee, to, qu), fd), rfl, (by exact ((iF_t hs).trans ((iF_f hbz).trans (lys_end (σ := (co, gu, kn, fo, sp, ki, pl, ea, to, qu)) hi2 (show min (ix (sz (ix x0))) (ix gu) = i by omega)))).symm), by dsimp only; rw [ht]; exact hP⟩, hS.F ht⟩) hS.2.2 dX6_lays_95
      · skip
        have c_3n := mt (cmp_le (a := ix gu) (b := i) hgu.1 rfl (by omega) (by omega)).mpr c_3
        have hi40 : vp_in (nI i) 40 := vp_in_nI (by omega) (by decide)
        have hi8 : vp_in (nI i) 8 := vp_in_nI (by omega) (by decide)
        refine lv_aload_n hx hb dX6_lays_43 rfl (lv_at hl 0 rfl) ?_
        refine va_get (ci := 4) (v := .ref (b 9)) (C := RX6) (T := TX6) (N := 20) hx hb hts inX6 hown hK hP 0 rfl rfl 15 (by decide) f34 (fun _ h9 => h9) rfl dX6_lays_44 ?_
        refine lv_bipush (v := 40) hx hb dX6_lays_47 (by decide) ?_
        refine lv_iload_n hx hb dX6_lays_49 rfl (lv_at hl 1 rfl) ?_
        refine lv_imul hx hb dX6_lays_50 ?_
        refine lv_iload hx hb dX6_lays_51 (lv_at hl 3 rfl) ?_
        refine lv_iadd hx hb dX6_lays_53 ?_
        refine va_lald hx hb hK hP 9 1 rfl rfl ((ix40 hs hi40).2) dX6_lays_54 ?_
        refine lv_toL (y := num (ix x0) i) ((flat_rd hs hi40).trans (by rw [hix])) ?_
        refine lv_lstore (lv' := [(5, .long (num (ix x0) i)), (0, .ref (b 0)), (1, .int x0), (3, .int zz), (4, .int (nI i))]) hx hb dX6_lays_55 hl (by decide) rfl (fun ls hl => ?_)
        refine lv_lload hx hb dX6_lays_57 (lv_at hl 0 rfl) ?_
        refine lv_ldc2 hx hb hown k267 dX6_lays_59 ?_
        refine W.lcmp hx hb dX6_lays_62 ?_
        refine lv_if_lt (tgt := 88) hx hb dX6_lays_63 (by decide) (fun c_4 => ?_) (fun c_4 => ?_)
        · skip
          have hv1 := (lg_cmp_lt _ _).mp c_4
          refine lv_iinc (v := nI (i + 1)) (lv' := [(4, .int (nI (i + 1))), (5, .long (num (ix x0) i)), (0, .ref (b 0)), (1, .int x0), (3, .int zz)]) hx hb dX6_lays_88 hl (k := 4) rfl (nI_1 _) (by decide) rfl (fun ls hl => ?_)
          refine lv_goto (tgt := 21) hx hb dX6_lays_91 (by decide) ?_
          exact ih (n - 1) (by omega) ((i + 1, ee, zz)) H locs ls ⟨by omega, by omega, lys_f hi2 (fun h => h.1 hv1), hP, hS, lv_sub hl [2, 3, 4, 0] rfl⟩
        · skip
          have hv1 := mt (lg_cmp_lt _ _).mpr c_4
          refine lv_lload hx hb dX6_lays_66 (lv_at hl 0 rfl) ?_
          refine lv_ldc2 hx hb hown k269 dX6_lays_68 ?_
          refine W.lcmp hx hb dX6_lays_71 ?_
          refine lv_if_gt (tgt := 88) hx hb dX6_lays_72 (by decide) (fun c_5 => ?_) (fun c_5 => ?_)
          · skip
            have hv2 := (lg_cmp_gt _ _).mp c_5
            refine lv_iinc (v := nI (i + 1)) (lv' := [(4, .int (nI (i + 1))), (5, .long (num (ix x0) i)), (0, .ref (b 0)), (1, .int x0), (3, .int zz)]) hx hb dX6_lays_88 hl (k := 4) rfl (nI_1 _) (by decide) rfl (fun ls hl => ?_)
            refine lv_goto (tgt := 21) hx hb dX6_lays_91 (by decide) ?_
            exact ih (n - 1) (by omega) ((i + 1, ee, zz)) H locs ls ⟨by omega, by omega, lys_f hi2 (fun h => h.2 hv2), hP, hS, lv_sub hl [2, 3, 4, 0] rfl⟩
          · skip
            have hv2 := mt (lg_cmp_gt _ _).mpr c_5
            refine lv_aload_n hx hb dX6_lays_75 rfl (lv_at hl 1 rfl) ?_
            refine lv_iload hx hb dX6_lays_76 (lv_at hl 4 rfl) ?_
            refine lv_iconst (v := 2) hx hb dX6_lays_78 (by decide) ?_
            refine lv_lload hx hb dX6_lays_79 (lv_at hl 0 rfl) ?_
            refine lv_l2i (v := (num (ix x0) i).toInt32) hx hb dX6_lays_81 rfl ?_
            refine callMv (va_runV (As := [.int (nI i), .int 2, .int ((num (ix x0) i).toInt32)]) (rest := []) ⟨hx, hb, hml, hown, hts⟩ (k_X6_puts2 l D cI cL cS b co gu kn fo sp ki pl ee to qu fd mo tr b1 tp tm so bg te wd va gd bo sz (flat4 num) le im bf ik (nI i) ((num (ix x0) i).toInt32) (va_DT (hD _ rfl) rfl) hi8) (cwV 3 hts gX6_lays_X6_puts rfl rfl rfl (by decide +kernel) ⟨Nat.le_of_ble_eq_true rfl, Nat.le_of_ble_eq_true rfl⟩) ⟨PcR_fb, va_recv hK hP (ci := 4) (q0 := 0) rfl rfl, PcR_pre hP hK⟩ rfl rfl hl.1 rfl (lv_room (Nat.le_of_ble_eq_true rfl)) dX6_lays_82 ⟨Nat.zero_le _, Nat.zero_le _⟩) hP (hD _ rfl) hS 0 13 rfl (fun u_6 H locs hu_6 hP hS => ?_)
            have hP : va_P D vwCl (mdw cI cL b (enc co gu kn fo sp ki pl (upd ee (ix (nI i)) ((num (ix x0) i).toInt32)) to qu) fd mo tr b1 tp tm so bg te wd va gd bo sz (flat4 num) le im bf ik) H := hP
            refine lv_iinc (v := zz + 1) (lv' := [(3, .int (zz + 1)), (5, .long (num (ix x0) i)), (0, .ref (b 0)), (1, .int x0), (4, .int (nI i))]) hx hb dX6_lays_85 hl (k := 3) rfl rfl (by decide) rfl (fun ls hl => ?_)
            refine lv_iinc (v := nI (i + 1)) (lv' := [(4, .int (nI (i + 1))), (3, .int (zz + 1)), (5, .long (num (ix x0) i)), (0, .ref (b 0)), (1, .int x0)]) hx hb dX6_lays_88 hl (k := 4) rfl (nI_1 _) (by decide) rfl (fun ls hl => ?_)
            refine lv_goto (tgt := 21) hx hb dX6_lays_91 (by decide) ?_
            have hP : va_P D vwCl (mdw cI cL b (enc co gu kn fo sp ki pl (upd ee i ((num (ix x0)) i).toInt32) to qu) fd mo tr b1 tp tm so bg te wd va gd bo sz (flat4 num) le im bf ik) H := by rw [hix] at hP; exact hP
            exact ih (n - 1) (by omega) ((i + 1, upd ee i ((num (ix x0)) i).toInt32, zz + 1)) H locs ls ⟨by omega, by omega, lys_t hi2 ⟨hv1, hv2⟩, hP, hS, lv_sub hl [3, 4, 1, 0] rfl⟩
  · skip
    refine lv_aload_n hx hb dX6_lays_10 rfl (lv_at hl 1 rfl) ?_
    refine lv_iload_n hx hb dX6_lays_11 rfl (lv_at hl 0 rfl) ?_
    refine callMi (va_runV (As := [.int (sBad bo x0)]) (rest := []) ⟨hx, hb, hml, hown, hts⟩ (k_X6_finds l D cI cL cS b co gu kn fo sp ki pl ea to qu fd mo tr b1 tp tm so bg te wd va gd bo sz (flat4 num) le im bf ik (sBad bo x0) (va_DT (hD _ rfl) rfl) (bad_in c_1)) (cwV 1 hts gX6_lays_X6_finds rfl rfl rfl (by decide +kernel) ⟨Nat.le_of_ble_eq_true rfl, Nat.le_of_ble_eq_true rfl⟩) ⟨PcR_fb, va_recv hK hP (ci := 4) (q0 := 0) rfl rfl, PcR_pre hP hK⟩ rfl rfl hl.1 rfl (lv_room (Nat.le_of_ble_eq_true rfl)) dX6_lays_12 ⟨Nat.zero_le _, Nat.zero_le _⟩) hP (hD _ rfl) hS 0 13 rfl (fun r_9 u_8 H locs hu_8 hP hS => ?_)
    obtain ⟨hu_8r, hu_8⟩ := hu_8
    subst hu_8r
    have hP : va_P D vwCl (mdw cI cL b (enc co gu kn fo sp ki pl ea to qu) (bump fd (sBad bo x0)) mo tr b1 tp tm so bg te wd va gd bo sz (flat4 num) le im bf ik) H := hP
    exact W.iret hx hb hr (fun t ht hW => ⟨⟨_, ((co, gu, kn, fo, sp, ki, pl, ea, to, qu), bump fd (sBad bo x0)), rfl, (by exact bad_lays c_1), by dsimp only; rw [ht]; exact hP⟩, hS.F ht⟩) hS.2.2 dX6_lays_15

set_option maxRecDepth 100000 in
set_option maxHeartbeats 4000000 in
theorem k_X6_book (l : Launch) (D : va_G) (cI cL cS : ClassId) (b : Nat → Nat) (co gu : Int32) (kn fo sp ki pl ea to qu : FI) (fd : FI) (mo : FI) (tr : FI) (b1 : FI) (tp : FI) (tm : Int32) (so : Int32) (bg : Int32) (te : Int32) (wd : Int64) (va : Int32) (gd : Int32) (bo : FI) (sz : FI) (le : FJ) (im : FI) (bf : FI) (ik : Int32) (num : Nat → FJ) (x0 : Int32) (x1 : Int32) (dj : va_D (fun _ => True) (dj0 b 13)) (ok : okT gu kn fo sp (whC gu pl) ki pl) (oe : okE ea to qu) (oh : okH bo sz) : Met l yX6_book wsX6_book { frames := 6, cells := 0, slots := 0, locals := 138 } (PcR D vwCl (tyG cI cL cS) [.ref (b 0), .int x0, .int x1] (mdw cI cL b (enc co gu kn fo sp ki pl ea to qu) fd mo tr b1 tp tm so bg te wd va gd bo sz (flat4 num) le im bf ik)) (va_Qi (fun (r : Int32) (u : FI × FI × (Nat → FJ) × FI) => (r, u.2.2.1, u.2.2.2) = sBook bo sz num (co, gu, kn, fo, sp, ki, pl, ea, to, qu) fd x0 x1) (fun u t => va_P D vwCl (mdw cI cL b (enc co gu kn fo sp ki pl ea to qu) u.2.2.2 u.1 u.2.1 b1 tp tm so bg te wd va gd bo sz (flat4 u.2.2.1) le im bf ik) t.heap) (Aof (mdw cI cL b (enc co gu kn fo sp ki pl ea to qu) fd mo tr b1 tp tm so bg te wd va gd bo sz (flat4 num) le im bf ik))) 0 0 (Aof (mdw cI cL b (enc co gu kn fo sp ki pl ea to qu) fd mo tr b1 tp tm so bg te wd va gd bo sz (flat4 num) le im bf ik)) := by
  refine Met.ofW (cc := cX6_book) (maxL := 5) (ret := (some .int)) (by decide) rfl ?_
  intro p e s m args below meth c s₁ B hml hv
  obtain ⟨rfl, hP, hK⟩ := hv
  have hx := B.exec
  have hb := B.bytes
  have hr := B.returns
  have hts := atoms_spec (ws := wsX6_book) B.pre
  have hown : s.vm.findClass RX6 = some m.cls := findClass_of_methodNamed B.named
  have hlocks := B.notSynchronized
  obtain ⟨A, hAe⟩ : ∃ A, A = Aof (mdw cI cL b (enc co gu kn fo sp ki pl ea to qu) fd mo tr b1 tp tm so bg te wd va gd bo sz (flat4 num) le im bf ik) := ⟨_, rfl⟩
  rw [← hAe]
  have hD : ∀ ws' : va_W, ws'.map Prod.fst = (mdw cI cL b (enc co gu kn fo sp ki pl ea to qu) fd mo tr b1 tp tm so bg te wd va gd bo sz (flat4 num) le im bf ik).map Prod.fst → va_D A ws' := fun ws' e => by rw [hAe]; exact va_D_adr (va_D_self (va_D_adr dj rfl)) e
  have hS : va_S A s.heap s.heap [] := va_S.rf
  have hP : va_P D vwCl (mdw cI cL b (enc co gu kn fo sp ki pl ea to qu) fd mo tr b1 tp tm so bg te wd va gd bo sz (flat4 num) le im bf ik) s.heap := hP
  have hl := lv_entry ([.ref (b 0), .int x0, .int x1]) (n := 5) (Nat.le_of_ble_eq_true rfl)
  rw [lg_entry_eq]
  generalize (lg_sl ([.ref (b 0), .int x0, .int x1]) ++ List.replicate (5 - (lg_sl ([.ref (b 0), .int x0, .int x1])).length) Slot.unset).toArray = ls at hl ⊢
  have hl : lv_has ls 5 [(0, .ref (b 0)), (1, .int x0), (2, .int x1)] := hl
  have f19 := hts (.fieldLink RX6 19 "KnivesLaidModel" "tried" "[I") (List.mem_of_getElem? (i := 2) rfl)
  have inX6 : ∀ w ∈ u_ws RX6 TX6 20, w ∈ wsX6_book := in_at 103 _ _ rfl
  have f31 := hts (.fieldLink RX6 31 "KnivesLaidModel" "sizeOf" "[I") (List.mem_of_getElem? (i := 3) rfl)
  have f34 := hts (.fieldLink RX6 34 "KnivesLaidModel" "sheets" "[J") (List.mem_of_getElem? (i := 4) rfl)
  have k47 := hts (.constant RX6 47 (-1000000001)) (List.mem_of_getElem? (i := 1) rfl)
  skip
  refine lv_aload_n hx hb dX6_book_0 rfl (lv_at hl 0 rfl) ?_
  refine lv_iload_n hx hb dX6_book_1 rfl (lv_at hl 1 rfl) ?_
  refine callE (W.runV (As := [.int x0]) (rest := []) ⟨hx, hb, hml, hown, hts⟩ (k_X6_badSheet l D cI cL cS b co gu kn fo sp ki pl ea to qu fd mo tr b1 tp tm so bg te wd va gd bo sz (flat4 num) le im bf ik x0) (cwV 1 hts gX6_book_X6_badSheet rfl rfl rfl (by decide +kernel) ⟨Nat.le_of_ble_eq_true rfl, Nat.le_of_ble_eq_true rfl⟩) ⟨PcR_fb, va_recv hK hP (ci := 4) (q0 := 0) rfl rfl, PcR_pre hP hK⟩ rfl rfl hl.1 rfl (lv_room (Nat.le_of_ble_eq_true rfl)) dX6_book_2 ⟨Nat.zero_le _, Nat.zero_le _⟩) ?_
  refine lv_istore_n (lv' := [(3, .int (sBad bo x0)), (0, .ref (b 0)), (1, .int x0), (2, .int x1)]) hx hb dX6_book_5 rfl hl (by decide) rfl (fun ls hl => ?_)
  refine lv_iload_n hx hb dX6_book_6 rfl (lv_at hl 0 rfl) ?_
  refine lv_if_eq (tgt := 16) hx hb dX6_book_7 (by decide) (fun c_1 => ?_) (fun c_1 => ?_)
  · skip
    have hb0 := bad_0 c_1
    obtain ⟨hs, hbz⟩ := hb0
    have hb0 := bad_0 c_1
    have hq := sz_of (oh _ (ix_lt (by decide) hs)).1
    refine lv_aload_n hx hb dX6_book_16 rfl (lv_at hl 1 rfl) ?_
    refine lv_iload_n hx hb dX6_book_17 rfl (lv_at hl 3 rfl) ?_
    refine callE (W.runV (As := [.int x1]) (rest := []) ⟨hx, hb, hml, hown, hts⟩ (k_X6_isOne l D cI cL cS b co gu kn fo sp ki pl ea to qu fd mo tr b1 tp tm so bg te wd va gd bo sz (flat4 num) le im bf ik x1 ok.gu) (cwV 1 hts gX6_book_X6_isOne rfl rfl rfl (by decide +kernel) ⟨Nat.le_of_ble_eq_true rfl, Nat.le_of_ble_eq_true rfl⟩) ⟨PcR_fb, va_recv hK hP (ci := 4) (q0 := 0) rfl rfl, PcR_pre hP hK⟩ rfl rfl hl.1 rfl (lv_room (Nat.le_of_ble_eq_true rfl)) dX6_book_18 ⟨Nat.zero_le _, Nat.zero_le _⟩) ?_
    refine lv_if_ne (tgt := 31) hx hb dX6_book_21 (by decide) (fun c_2 => ?_) (fun c_2 => ?_)
    · skip
      have c_2b := bI_n c_2
      have h1n := c_2b
      have h8 : vp_in x1 8 := in_8 ok.gu h1n
      refine lv_aload_n hx hb dX6_book_31 rfl (lv_at hl 1 rfl) ?_
      refine lv_iconst (v := 1) hx hb dX6_book_32 (by decide) ?_
      refine lv_aload_n hx hb dX6_book_33 rfl (lv_at hl 1 rfl) ?_
      refine va_get (ci := 4) (v := .ref (b 4)) (C := RX6) (T := TX6) (N := 20) hx hb hts inX6 hown hK hP 0 rfl rfl 3 (by decide) f19 (fun _ h9 => h9) rfl dX6_book_34 ?_
      refine callMv (va_runV (As := [.int 1, .ref (b 4)]) (rest := []) ⟨hx, hb, hml, hown, hts⟩ (k_X6_moveAll_tr1 l D cI cL cS b co gu kn fo sp ki pl ea to qu fd mo tr b1 tp tm so bg te wd va gd bo sz (flat4 num) le im bf ik (va_DT (hD _ rfl) rfl)) (cwV 2 hts gX6_book_X6_moveAll rfl rfl rfl (by decide +kernel) ⟨Nat.le_of_ble_eq_true rfl, Nat.le_of_ble_eq_true rfl⟩) ⟨PcR_fb, va_recv hK hP (ci := 4) (q0 := 0) rfl rfl, PcR_pre hP hK⟩ rfl rfl hl.1 rfl (lv_room (Nat.le_of_ble_eq_true rfl)) dX6_book_37 ⟨Nat.zero_le _, Nat.zero_le _⟩) hP (hD _ rfl) hS 0 13 rfl (fun u_3 H locs hu_3 hP hS => ?_)
      have hP : va_P D vwCl (mdw cI cL b (enc co gu kn fo sp ki pl ea to qu) fd mo (enc co gu kn fo sp ki pl ea to qu) b1 tp tm so bg te wd va gd bo sz (flat4 num) le im bf ik) H := hP
      have hP : va_P D vwCl (mdw cI cL b (enc (sCo (sPass 0 (co, gu, kn, fo, sp, ki, pl, ea, to, qu))) (sGu (sPass 0 (co, gu, kn, fo, sp, ki, pl, ea, to, qu))) (sKn (sPass 0 (co, gu, kn, fo, sp, ki, pl, ea, to, qu))) (sFo (sPass 0 (co, gu, kn, fo, sp, ki, pl, ea, to, qu))) (sSp (sPass 0 (co, gu, kn, fo, sp, ki, pl, ea, to, qu))) (sKi (sPass 0 (co, gu, kn, fo, sp, ki, pl, ea, to, qu))) (sPl (sPass 0 (co, gu, kn, fo, sp, ki, pl, ea, to, qu))) (sEa (sPass 0 (co, gu, kn, fo, sp, ki, pl, ea, to, qu))) (sTo (sPass 0 (co, gu, kn, fo, sp, ki, pl, ea, to, qu))) (sQu (sPass 0 (co, gu, kn, fo, sp, ki, pl, ea, to, qu)))) fd mo (enc co gu kn fo sp ki pl ea to qu) b1 tp tm so bg te wd va gd bo sz (flat4 (va_up num (ix x0) (fa_fill (fBook (co, gu, kn, fo, sp, ki, pl, ea, to, qu) x1) (num (ix x0)) 0))) le im bf ik) H := by rw [fa_fill_0, va_up_id]; exact hP
      refine lv_iconst (v := 0) hx hb dX6_book_40 (by decide) ?_
      refine lv_istore (lv' := [(4, .int 0), (3, .int (sBad bo x0)), (0, .ref (b 0)), (1, .int x0), (2, .int x1)]) hx hb dX6_book_41 hl (by decide) rfl (fun ls hl => ?_)
      refine lpW (fun n (u : Nat × FI) H locs ls => (u.1 + n = ix (sz (ix x0))) ∧ va_P D vwCl (mdw cI cL b (enc (sCo (sPass u.1 (co, gu, kn, fo, sp, ki, pl, ea, to, qu))) (sGu (sPass u.1 (co, gu, kn, fo, sp, ki, pl, ea, to, qu))) (sKn (sPass u.1 (co, gu, kn, fo, sp, ki, pl, ea, to, qu))) (sFo (sPass u.1 (co, gu, kn, fo, sp, ki, pl, ea, to, qu))) (sSp (sPass u.1 (co, gu, kn, fo, sp, ki, pl, ea, to, qu))) (sKi (sPass u.1 (co, gu, kn, fo, sp, ki, pl, ea, to, qu))) (sPl (sPass u.1 (co, gu, kn, fo, sp, ki, pl, ea, to, qu))) (sEa (sPass u.1 (co, gu, kn, fo, sp, ki, pl, ea, to, qu))) (sTo (sPass u.1 (co, gu, kn, fo, sp, ki, pl, ea, to, qu))) (sQu (sPass u.1 (co, gu, kn, fo, sp, ki, pl, ea, to, qu)))) fd u.2 (enc co gu kn fo sp ki pl ea to qu) b1 tp tm so bg te wd va gd bo sz (flat4 (va_up num (ix x0) (fa_fill (fBook (co, gu, kn, fo, sp, ki, pl, ea, to, qu) x1) (num (ix x0)) u.1))) le im bf ik) H ∧ va_S A s.heap H locs ∧ lv_has ls 5 [(0, .ref (b 0)), (1, .int x0), (2, .int x1), (4, .int (nI u.1))]) (ix (sz (ix x0))) ((0, mo)) ⟨by omega, hP, hS, lv_sub hl [2, 3, 4, 0] rfl⟩ (fun n ih u H locs ls hI => ?_)
      obtain ⟨i, mo1⟩ := u
      obtain ⟨hi0, hP, hS, hl⟩ := hI
      have hi0 : i + n = ix (sz (ix x0)) := hi0
      have hl : lv_has ls 5 [(0, .ref (b 0)), (1, .int x0), (2, .int x1), (4, .int (nI i))] := hl
      have hP : va_P D vwCl (mdw cI cL b (enc (sCo (sPass i (co, gu, kn, fo, sp, ki, pl, ea, to, qu))) (sGu (sPass i (co, gu, kn, fo, sp, ki, pl, ea, to, qu))) (sKn (sPass i (co, gu, kn, fo, sp, ki, pl, ea, to, qu))) (sFo (sPass i (co, gu, kn, fo, sp, ki, pl, ea, to, qu))) (sSp (sPass i (co, gu, kn, fo, sp, ki, pl, ea, to, qu))) (sKi (sPass i (co, gu, kn, fo, sp, ki, pl, ea, to, qu))) (sPl (sPass i (co, gu, kn, fo, sp, ki, pl, ea, to, qu))) (sEa (sPass i (co, gu, kn, fo, sp, ki, pl, ea, to, qu))) (sTo (sPass i (co, gu, kn, fo, sp, ki, pl, ea, to, qu))) (sQu (sPass i (co, gu, kn, fo, sp, ki, pl, ea, to, qu)))) fd mo1 (enc co gu kn fo sp ki pl ea to qu) b1 tp tm so bg te wd va gd bo sz (flat4 (va_up num (ix x0) (fa_fill (fBook (co, gu, kn, fo, sp, ki, pl, ea, to, qu) x1) (num (ix x0)) i))) le im bf ik) H := hP
      refine lv_iload hx hb dX6_book_43 (lv_at hl 3 rfl) ?_
      refine lv_aload_n hx hb dX6_book_45 rfl (lv_at hl 0 rfl) ?_
      refine va_get (ci := 4) (v := .ref (b 8)) (C := RX6) (T := TX6) (N := 20) hx hb hts inX6 hown hK hP 0 rfl rfl 14 (by decide) f31 (fun _ h9 => h9) rfl dX6_book_46 ?_
      refine lv_iload_n hx hb dX6_book_49 rfl (lv_at hl 1 rfl) ?_
      refine va_iald hx hb hK hP 8 0 rfl rfl hs dX6_book_50 ?_
      refine lv_icmp_ge (tgt := 83) hx hb dX6_book_51 (by decide) (fun c_5 => ?_) (fun c_5 => ?_)
      · skip
        have c_5n := (cmp_le (a := ix (sz (ix x0))) (b := i) hq.1 rfl (by omega) (by omega)).mp c_5
        refine lv_aload_n hx hb dX6_book_83 rfl (lv_at hl 0 rfl) ?_
        refine lv_iconst (v := 0) hx hb dX6_book_84 (by decide) ?_
        refine lv_aload_n hx hb dX6_book_85 rfl (lv_at hl 0 rfl) ?_
        refine va_get (ci := 4) (v := .ref (b 4)) (C := RX6) (T := TX6) (N := 20) hx hb hts inX6 hown hK hP 0 rfl rfl 3 (by decide) f19 (fun _ h9 => h9) rfl dX6_book_86 ?_
        refine callMv (va_runV (As := [.int 0, .ref (b 4)]) (rest := []) ⟨hx, hb, hml, hown, hts⟩ (k_X6_moveAll_tr0 l D cI cL cS b (sCo (sPass i (co, gu, kn, fo, sp, ki, pl, ea, to, qu))) (sGu (sPass i (co, gu, kn, fo, sp, ki, pl, ea, to, qu))) (sKn (sPass i (co, gu, kn, fo, sp, ki, pl, ea, to, qu))) (sFo (sPass i (co, gu, kn, fo, sp, ki, pl, ea, to, qu))) (sSp (sPass i (co, gu, kn, fo, sp, ki, pl, ea, to, qu))) (sKi (sPass i (co, gu, kn, fo, sp, ki, pl, ea, to, qu))) (sPl (sPass i (co, gu, kn, fo, sp, ki, pl, ea, to, qu))) (sEa (sPass i (co, gu, kn, fo, sp, ki, pl, ea, to, qu))) (sTo (sPass i (co, gu, kn, fo, sp, ki, pl, ea, to, qu))) (sQu (sPass i (co, gu, kn, fo, sp, ki, pl, ea, to, qu))) fd mo1 b1 tp tm so bg te wd va gd bo sz (flat4 (va_up num (ix x0) (fa_fill (fBook (co, gu, kn, fo, sp, ki, pl, ea, to, qu) x1) (num (ix x0)) i))) le im bf ik co gu kn fo sp ki pl ea to qu (va_DT (hD _ rfl) rfl)) (cwV 2 hts gX6_book_X6_moveAll rfl rfl rfl (by decide +kernel) ⟨Nat.le_of_ble_eq_true rfl, Nat.le_of_ble_eq_true rfl⟩) ⟨PcR_fb, va_recv hK hP (ci := 4) (q0 := 0) rfl rfl, PcR_pre hP hK⟩ rfl rfl hl.1 rfl (lv_room (Nat.le_of_ble_eq_true rfl)) dX6_book_89 ⟨Nat.zero_le _, Nat.zero_le _⟩) hP (hD _ rfl) hS 0 13 rfl (fun u_6 H locs hu_6 hP hS => ?_)
        have hP : va_P D vwCl (mdw cI cL b (enc co gu kn fo sp ki pl ea to qu) fd mo1 (enc co gu kn fo sp ki pl ea to qu) b1 tp tm so bg te wd va gd bo sz (flat4 (va_up num (ix x0) (fa_fill (fBook (co, gu, kn, fo, sp, ki, pl, ea, to, qu) x1) (num (ix x0)) i))) le im bf ik) H := hP
        refine lv_aload_n hx hb dX6_book_92 rfl (lv_at hl 0 rfl) ?_
        refine va_get (ci := 4) (v := .ref (b 8)) (C := RX6) (T := TX6) (N := 20) hx hb hts inX6 hown hK hP 0 rfl rfl 14 (by decide) f31 (fun _ h9 => h9) rfl dX6_book_93 ?_
        refine lv_iload_n hx hb dX6_book_96 rfl (lv_at hl 1 rfl) ?_
        refine va_iald hx hb hK hP 8 0 rfl rfl hs dX6_book_97 ?_
        exact W.iret hx hb hr (fun t ht hW => ⟨⟨_, (mo1, enc co gu kn fo sp ki pl ea to qu, (va_up num (ix x0) (fa_fill (fBook (co, gu, kn, fo, sp, ki, pl, ea, to, qu) x1) (num (ix x0)) i)), fd), rfl, (by refine Eq.symm ((iF_t ((fob_one hb0).1 h1n)).trans ?_); rw [show ix (sz (ix x0)) = i by omega]), by dsimp only; rw [ht]; exact hP⟩, hS.F ht⟩) hS.2.2 dX6_book_98
      · skip
        have c_5n := mt (cmp_le (a := ix (sz (ix x0))) (b := i) hq.1 rfl (by omega) (by omega)).mpr c_5
        refine lv_aload_n hx hb dX6_book_54 rfl (lv_at hl 0 rfl) ?_
        refine va_get (ci := 4) (v := .ref (b 9)) (C := RX6) (T := TX6) (N := 20) hx hb hts inX6 hown hK hP 0 rfl rfl 15 (by decide) f34 (fun _ h9 => h9) rfl dX6_book_55 ?_
        refine lv_bipush (v := 40) hx hb dX6_book_58 (by decide) ?_
        refine lv_iload_n hx hb dX6_book_60 rfl (lv_at hl 1 rfl) ?_
        refine lv_imul hx hb dX6_book_61 ?_
        refine lv_iload hx hb dX6_book_62 (lv_at hl 3 rfl) ?_
        refine lv_iadd hx hb dX6_book_64 ?_
        refine lv_aload_n hx hb dX6_book_65 rfl (lv_at hl 0 rfl) ?_
        refine lv_iload_n hx hb dX6_book_66 rfl (lv_at hl 2 rfl) ?_
        refine lv_iconst (v := 2) hx hb dX6_book_67 (by decide) ?_
        refine callE (W.runV (As := [.int x1, .int 2]) (rest := [.int ((40 * x0) + (nI i)), .ref (b 9)]) ⟨hx, hb, hml, hown, hts⟩ (k_X6_its2 l D cI cL cS b (sCo (sPass i (co, gu, kn, fo, sp, ki, pl, ea, to, qu))) (sGu (sPass i (co, gu, kn, fo, sp, ki, pl, ea, to, qu))) (sKn (sPass i (co, gu, kn, fo, sp, ki, pl, ea, to, qu))) (sFo (sPass i (co, gu, kn, fo, sp, ki, pl, ea, to, qu))) (sSp (sPass i (co, gu, kn, fo, sp, ki, pl, ea, to, qu))) (sKi (sPass i (co, gu, kn, fo, sp, ki, pl, ea, to, qu))) (sPl (sPass i (co, gu, kn, fo, sp, ki, pl, ea, to, qu))) (sEa (sPass i (co, gu, kn, fo, sp, ki, pl, ea, to, qu))) (sTo (sPass i (co, gu, kn, fo, sp, ki, pl, ea, to, qu))) (sQu (sPass i (co, gu, kn, fo, sp, ki, pl, ea, to, qu))) fd mo1 (enc co gu kn fo sp ki pl ea to qu) b1 tp tm so bg te wd va gd bo sz (flat4 (va_up num (ix x0) (fa_fill (fBook (co, gu, kn, fo, sp, ki, pl, ea, to, qu) x1) (num (ix x0)) i))) le im bf ik x1 (by assumption)) (cwV 2 hts gX6_book_X6_its rfl rfl rfl (by decide +kernel) ⟨Nat.le_of_ble_eq_true rfl, Nat.le_of_ble_eq_true rfl⟩) ⟨PcR_fb, va_recv hK hP (ci := 4) (q0 := 0) rfl rfl, PcR_pre hP hK⟩ rfl rfl hl.1 rfl (lv_room (Nat.le_of_ble_eq_true rfl)) dX6_book_68 ⟨Nat.zero_le _, Nat.zero_le _⟩) ?_
        refine lv_i2l (v := ((sEa (sPass i (co, gu, kn, fo, sp, ki, pl, ea, to, qu))) (ix x1)).toInt64) hx hb dX6_book_71 rfl ?_
        refine va_last hx hb hK hP (hD _ rfl) hS 9 1 rfl rfl ((ix40 hs (vp_in_nI (by omega) (by decide))).2) dX6_book_72 (fun H locs hP _ hS => ?_)
        have hP : va_P D vwCl (mdw cI cL b (enc (sCo (sPass i (co, gu, kn, fo, sp, ki, pl, ea, to, qu))) (sGu (sPass i (co, gu, kn, fo, sp, ki, pl, ea, to, qu))) (sKn (sPass i (co, gu, kn, fo, sp, ki, pl, ea, to, qu))) (sFo (sPass i (co, gu, kn, fo, sp, ki, pl, ea, to, qu))) (sSp (sPass i (co, gu, kn, fo, sp, ki, pl, ea, to, qu))) (sKi (sPass i (co, gu, kn, fo, sp, ki, pl, ea, to, qu))) (sPl (sPass i (co, gu, kn, fo, sp, ki, pl, ea, to, qu))) (sEa (sPass i (co, gu, kn, fo, sp, ki, pl, ea, to, qu))) (sTo (sPass i (co, gu, kn, fo, sp, ki, pl, ea, to, qu))) (sQu (sPass i (co, gu, kn, fo, sp, ki, pl, ea, to, qu)))) fd mo1 (enc co gu kn fo sp ki pl ea to qu) b1 tp tm so bg te wd va gd bo sz (flat4 (va_up num (ix x0) (fa_fill (fBook (co, gu, kn, fo, sp, ki, pl, ea, to, qu) x1) (num (ix x0)) (i + 1)))) le im bf ik) H := by rw [← flat_step hs (by omega)]; exact hP
        refine lv_aload_n hx hb dX6_book_73 rfl (lv_at hl 0 rfl) ?_
        refine callMv (va_runV (As := []) (rest := []) ⟨hx, hb, hml, hown, hts⟩ (k_X6_oneCourse l D cI cL cS b (sCo (sPass i (co, gu, kn, fo, sp, ki, pl, ea, to, qu))) (sGu (sPass i (co, gu, kn, fo, sp, ki, pl, ea, to, qu))) (sKn (sPass i (co, gu, kn, fo, sp, ki, pl, ea, to, qu))) (sFo (sPass i (co, gu, kn, fo, sp, ki, pl, ea, to, qu))) (sSp (sPass i (co, gu, kn, fo, sp, ki, pl, ea, to, qu))) (sKi (sPass i (co, gu, kn, fo, sp, ki, pl, ea, to, qu))) (sPl (sPass i (co, gu, kn, fo, sp, ki, pl, ea, to, qu))) (sEa (sPass i (co, gu, kn, fo, sp, ki, pl, ea, to, qu))) (sTo (sPass i (co, gu, kn, fo, sp, ki, pl, ea, to, qu))) (sQu (sPass i (co, gu, kn, fo, sp, ki, pl, ea, to, qu))) fd mo1 (enc co gu kn fo sp ki pl ea to qu) b1 tp tm so bg te wd va gd bo sz (flat4 (va_up num (ix x0) (fa_fill (fBook (co, gu, kn, fo, sp, ki, pl, ea, to, qu) x1) (num (ix x0)) (i + 1)))) le im bf ik (va_DT (hD _ rfl) rfl) ((okS_pass (σ := (co, gu, kn, fo, sp, ki, pl, ea, to, qu)) ⟨ok, oe⟩ i).1.cC) ((okS_pass (σ := (co, gu, kn, fo, sp, ki, pl, ea, to, qu)) ⟨ok, oe⟩ i).2)) (cwV 0 hts gX6_book_X6_oneCourse rfl rfl rfl (by decide +kernel) ⟨Nat.le_of_ble_eq_true rfl, Nat.le_of_ble_eq_true rfl⟩) ⟨PcR_fb, va_recv hK hP (ci := 4) (q0 := 0) rfl rfl, PcR_pre hP hK⟩ rfl rfl hl.1 rfl (lv_room (Nat.le_of_ble_eq_true rfl)) dX6_book_74 ⟨Nat.zero_le _, Nat.zero_le _⟩) hP (hD _ rfl) hS 0 13 rfl (fun u_8 H locs hu_8 hP hS => ?_)
        obtain ⟨mo_10, rfl⟩ : ∃ z, z = u_8 := ⟨_, rfl⟩
        have hP : va_P D vwCl (mdw cI cL b (enc ((sCo (sPass i (co, gu, kn, fo, sp, ki, pl, ea, to, qu))) + 1) (sGu (sPass i (co, gu, kn, fo, sp, ki, pl, ea, to, qu))) (sKn (sPass i (co, gu, kn, fo, sp, ki, pl, ea, to, qu))) (sFo (sPass i (co, gu, kn, fo, sp, ki, pl, ea, to, qu))) (sSp (sPass i (co, gu, kn, fo, sp, ki, pl, ea, to, qu))) (sKi (sPass i (co, gu, kn, fo, sp, ki, pl, ea, to, qu))) (sPl (sPass i (co, gu, kn, fo, sp, ki, pl, ea, to, qu))) (cEa (sGu (sPass i (co, gu, kn, fo, sp, ki, pl, ea, to, qu))) (sKn (sPass i (co, gu, kn, fo, sp, ki, pl, ea, to, qu))) (sFo (sPass i (co, gu, kn, fo, sp, ki, pl, ea, to, qu))) (sSp (sPass i (co, gu, kn, fo, sp, ki, pl, ea, to, qu))) (sKi (sPass i (co, gu, kn, fo, sp, ki, pl, ea, to, qu))) (sPl (sPass i (co, gu, kn, fo, sp, ki, pl, ea, to, qu))) (sEa (sPass i (co, gu, kn, fo, sp, ki, pl, ea, to, qu)))) (cTo (sGu (sPass i (co, gu, kn, fo, sp, ki, pl, ea, to, qu))) (sSp (sPass i (co, gu, kn, fo, sp, ki, pl, ea, to, qu))) (sKi (sPass i (co, gu, kn, fo, sp, ki, pl, ea, to, qu))) (sPl (sPass i (co, gu, kn, fo, sp, ki, pl, ea, to, qu))) (sEa (sPass i (co, gu, kn, fo, sp, ki, pl, ea, to, qu))) (sTo (sPass i (co, gu, kn, fo, sp, ki, pl, ea, to, qu)))) (cQu (sGu (sPass i (co, gu, kn, fo, sp, ki, pl, ea, to, qu))) (sKi (sPass i (co, gu, kn, fo, sp, ki, pl, ea, to, qu))) (sPl (sPass i (co, gu, kn, fo, sp, ki, pl, ea, to, qu))) (cEa (sGu (sPass i (co, gu, kn, fo, sp, ki, pl, ea, to, qu))) (sKn (sPass i (co, gu, kn, fo, sp, ki, pl, ea, to, qu))) (sFo (sPass i (co, gu, kn, fo, sp, ki, pl, ea, to, qu))) (sSp (sPass i (co, gu, kn, fo, sp, ki, pl, ea, to, qu))) (sKi (sPass i (co, gu, kn, fo, sp, ki, pl, ea, to, qu))) (sPl (sPass i (co, gu, kn, fo, sp, ki, pl, ea, to, qu))) (sEa (sPass i (co, gu, kn, fo, sp, ki, pl, ea, to, qu)))) (sQu (sPass i (co, gu, kn, fo, sp, ki, pl, ea, to, qu))))) fd mo_10 (enc co gu kn fo sp ki pl ea to qu) b1 tp tm so bg te wd va gd bo sz (flat4 (va_up num (ix x0) (fa_fill (fBook (co, gu, kn, fo, sp, ki, pl, ea, to, qu) x1) (num (ix x0)) (i + 1)))) le im bf ik) H := hP
        refine lv_iinc (v := nI (i + 1)) (lv' := [(4, .int (nI (i + 1))), (0, .ref (b 0)), (1, .int x0), (2, .int x1)]) hx hb dX6_book_77 hl (k := 3) rfl (nI_1 _) (by decide) rfl (fun ls hl => ?_)
        refine lv_goto (tgt := 43) hx hb dX6_book_80 (by decide) ?_
        have hP : va_P D vwCl (mdw cI cL b (enc (sCo (sPass (i + 1) (co, gu, kn, fo, sp, ki, pl, ea, to, qu))) (sGu (sPass (i + 1) (co, gu, kn, fo, sp, ki, pl, ea, to, qu))) (sKn (sPass (i + 1) (co, gu, kn, fo, sp, ki, pl, ea, to, qu))) (sFo (sPass (i + 1) (co, gu, kn, fo, sp, ki, pl, ea, to, qu))) (sSp (sPass (i + 1) (co, gu, kn, fo, sp, ki, pl, ea, to, qu))) (sKi (sPass (i + 1) (co, gu, kn, fo, sp, ki, pl, ea, to, qu))) (sPl (sPass (i + 1) (co, gu, kn, fo, sp, ki, pl, ea, to, qu))) (sEa (sPass (i + 1) (co, gu, kn, fo, sp, ki, pl, ea, to, qu))) (sTo (sPass (i + 1) (co, gu, kn, fo, sp, ki, pl, ea, to, qu))) (sQu (sPass (i + 1) (co, gu, kn, fo, sp, ki, pl, ea, to, qu)))) fd mo_10 (enc co gu kn fo sp ki pl ea to qu) b1 tp tm so bg te wd va gd bo sz (flat4 (va_up num (ix x0) (fa_fill (fBook (co, gu, kn, fo, sp, ki, pl, ea, to, qu) x1) (num (ix x0)) (i + 1)))) le im bf ik) H := by exact hP
        exact ih (n - 1) (by omega) ((i + 1, mo_10)) H locs ls ⟨by omega, hP, hS, lv_sub hl [1, 2, 3, 0] rfl⟩
    · skip
      have c_2b := bI_0 c_2
      refine lv_aload_n hx hb dX6_book_24 rfl (lv_at hl 1 rfl) ?_
      refine lv_ldc hx hb hown k47 dX6_book_25 ?_
      refine callMi (va_runV (As := [.int (-1000000001)]) (rest := []) ⟨hx, hb, hml, hown, hts⟩ (k_X6_finds l D cI cL cS b co gu kn fo sp ki pl ea to qu fd mo tr b1 tp tm so bg te wd va gd bo sz (flat4 num) le im bf ik (-1000000001) (va_DT (hD _ rfl) rfl) (vp_in_iff.mpr (by decide))) (cwV 1 hts gX6_book_X6_finds rfl rfl rfl (by decide +kernel) ⟨Nat.le_of_ble_eq_true rfl, Nat.le_of_ble_eq_true rfl⟩) ⟨PcR_fb, va_recv hK hP (ci := 4) (q0 := 0) rfl rfl, PcR_pre hP hK⟩ rfl rfl hl.1 rfl (lv_room (Nat.le_of_ble_eq_true rfl)) dX6_book_27 ⟨Nat.zero_le _, Nat.zero_le _⟩) hP (hD _ rfl) hS 0 13 rfl (fun r_12 u_11 H locs hu_11 hP hS => ?_)
      obtain ⟨hu_11r, hu_11⟩ := hu_11
      subst hu_11r
      have hP : va_P D vwCl (mdw cI cL b (enc co gu kn fo sp ki pl ea to qu) (bump fd (-1000000001)) mo tr b1 tp tm so bg te wd va gd bo sz (flat4 num) le im bf ik) H := hP
      exact W.iret hx hb hr (fun t ht hW => ⟨⟨_, (mo, tr, num, bump fd (-1000000001)), rfl, (by have q := (fob_one (σ := (co, gu, kn, fo, sp, ki, pl, ea, to, qu)) (g := x1) hb0).2 c_2b; exact ((iF_f (by rw [q]; decide)).trans (by rw [q])).symm), by dsimp only; rw [ht]; exact hP⟩, hS.F ht⟩) hS.2.2 dX6_book_30
  · skip
    refine lv_aload_n hx hb dX6_book_10 rfl (lv_at hl 1 rfl) ?_
    refine lv_iload_n hx hb dX6_book_11 rfl (lv_at hl 0 rfl) ?_
    refine callMi (va_runV (As := [.int (sBad bo x0)]) (rest := []) ⟨hx, hb, hml, hown, hts⟩ (k_X6_finds l D cI cL cS b co gu kn fo sp ki pl ea to qu fd mo tr b1 tp tm so bg te wd va gd bo sz (flat4 num) le im bf ik (sBad bo x0) (va_DT (hD _ rfl) rfl) (bad_in c_1)) (cwV 1 hts gX6_book_X6_finds rfl rfl rfl (by decide +kernel) ⟨Nat.le_of_ble_eq_true rfl, Nat.le_of_ble_eq_true rfl⟩) ⟨PcR_fb, va_recv hK hP (ci := 4) (q0 := 0) rfl rfl, PcR_pre hP hK⟩ rfl rfl hl.1 rfl (lv_room (Nat.le_of_ble_eq_true rfl)) dX6_book_12 ⟨Nat.zero_le _, Nat.zero_le _⟩) hP (hD _ rfl) hS 0 13 rfl (fun r_14 u_13 H locs hu_13 hP hS => ?_)
    obtain ⟨hu_13r, hu_13⟩ := hu_13
    subst hu_13r
    have hP : va_P D vwCl (mdw cI cL b (enc co gu kn fo sp ki pl ea to qu) (bump fd (sBad bo x0)) mo tr b1 tp tm so bg te wd va gd bo sz (flat4 num) le im bf ik) H := hP
    exact W.iret hx hb hr (fun t ht hW => ⟨⟨_, (mo, tr, num, bump fd (sBad bo x0)), rfl, (by have q := bad_fob (σ := (co, gu, kn, fo, sp, ki, pl, ea, to, qu)) (g := x1) c_1; exact ((iF_f q.2).trans (by rw [q.1])).symm), by dsimp only; rw [ht]; exact hP⟩, hS.F ht⟩) hS.2.2 dX6_book_15
