set_option maxRecDepth 100000 in
set_option maxHeartbeats 4000000 in
theorem k_X6_byteAt (l : Launch) (D : va_G) (cI cL cS : ClassId) (b : Nat → Nat) (co gu : Int32) (kn fo sp ki pl ea to qu : FI) (fd mo tr b1 tp : FI) (tm so bg te : Int32) (wd : Int64) (va gd : Int32) (bo sz : FI) (sh le : FJ) (im bf : FI) (ik : Int32) (x0 : Int32) (h0 : vp_in x0 121) (ol : vp_in tm 121) : Met l yX6_byteAt wsX6_byteAt { frames := 0, cells := 0, slots := 0, locals := 0 } (PcR D vwCl (tyG cI cL cS) [.ref (b 0), .int x0] (mdw cI cL b (enc co gu kn fo sp ki pl ea to qu) fd mo tr b1 tp tm so bg te wd va gd bo sz sh le im bf ik)) (vp_Si (fun r => r = bA tp (ix tm) (ix x0))) 0 0 (fun _ => False) := by
  refine Met.ofW (cc := cX6_byteAt) (maxL := 2) (ret := (some .int)) (by decide) rfl ?_
  intro p e s m args below meth c s₁ B hml hv
  obtain ⟨rfl, hP, hK⟩ := hv
  have hx := B.exec
  have hb := B.bytes
  have hr := B.returns
  have hts := atoms_spec (ws := wsX6_byteAt) B.pre
  have hown : s.vm.findClass RX6 = some m.cls := findClass_of_methodNamed B.named
  have hlocks := B.notSynchronized
  have hl := lv_entry ([.ref (b 0), .int x0]) (n := 2) (Nat.le_of_ble_eq_true rfl)
  rw [lg_entry_eq]
  generalize (lg_sl ([.ref (b 0), .int x0]) ++ List.replicate (2 - (lg_sl ([.ref (b 0), .int x0])).length) Slot.unset).toArray = ls at hl ⊢
  have hl : lv_has ls 2 [(0, .ref (b 0)), (1, .int x0)] := hl
  have f160 := hts (.fieldLink RX6 160 "KnivesLaidModel" "tapeMany" "I") (List.mem_of_getElem? (i := 1) rfl)
  have inX6 : ∀ w ∈ u_ws RX6 TX6 20, w ∈ wsX6_byteAt := in_at 3 _ _ rfl
  have f25 := hts (.fieldLink RX6 25 "KnivesLaidModel" "tape" "[I") (List.mem_of_getElem? (i := 2) rfl)
  have hln := ln_of ol
  have hl120 := hln.2
  have hlnn := hln.1
  have h0x := ln_of h0
  have h0n := h0x.1
  have h0l := h0x.2
  refine lv_iload_n hx hb dX6_byteAt_0 rfl (lv_at hl 1 rfl) ?_
  refine lv_aload_n hx hb dX6_byteAt_1 rfl (lv_at hl 0 rfl) ?_
  refine va_get (ci := 4) (v := .int tm) (C := RX6) (T := TX6) (N := 20) hx hb hts inX6 hown hK hP 0 rfl rfl 6 (by decide) f160 (fun _ h9 => h9) rfl dX6_byteAt_2 ?_
  refine lv_icmp_ge (tgt := 17) hx hb dX6_byteAt_5 (by decide) (fun c_1 => ?_) (fun c_1 => ?_)
  · skip
    have c_1n := (cmp_le (a := (ix tm)) (b := (ix x0)) hlnn h0n (by omega) (by omega)).mp c_1
    refine lv_iconst (v := (-1)) hx hb dX6_byteAt_17 (by decide) ?_
    exact W.iret hx hb hr (fun t ht hW => ⟨_, rfl, (by exact (iF_f (by omega)).symm), ht⟩) (fun _ h => absurd h List.not_mem_nil) dX6_byteAt_18
  · skip
    have c_1n := mt (cmp_le (a := (ix tm)) (b := (ix x0)) hlnn h0n (by omega) (by omega)).mpr c_1
    refine lv_aload_n hx hb dX6_byteAt_8 rfl (lv_at hl 0 rfl) ?_
    refine va_get (ci := 4) (v := .ref (b 6)) (C := RX6) (T := TX6) (N := 20) hx hb hts inX6 hown hK hP 0 rfl rfl 5 (by decide) f25 (fun _ h9 => h9) rfl dX6_byteAt_9 ?_
    refine lv_iload_n hx hb dX6_byteAt_12 rfl (lv_at hl 1 rfl) ?_
    refine va_iald hx hb hK hP 6 0 rfl rfl (ln_in h0 (by omega)) dX6_byteAt_13 ?_
    refine lv_goto (tgt := 18) hx hb dX6_byteAt_14 (by decide) ?_
    exact W.iret hx hb hr (fun t ht hW => ⟨_, rfl, (by exact (iF_t (by omega)).symm), ht⟩) (fun _ h => absurd h List.not_mem_nil) dX6_byteAt_18

set_option maxRecDepth 100000 in
set_option maxHeartbeats 4000000 in
theorem k_X6_isWord (l : Launch) (D : va_G) (cI cL cS : ClassId) (b : Nat → Nat) (co gu : Int32) (kn fo sp ki pl ea to qu : FI) (fd mo tr b1 tp : FI) (tm so bg te : Int32) (wd : Int64) (va gd : Int32) (bo sz : FI) (sh le : FJ) (im bf : FI) (ik : Int32) (x0 : Int64)  : Met l yX6_isWord wsX6_isWord { frames := 0, cells := 0, slots := 0, locals := 0 } (PcR D vwCl (tyG cI cL cS) [.ref (b 0), .long x0] (mdw cI cL b (enc co gu kn fo sp ki pl ea to qu) fd mo tr b1 tp tm so bg te wd va gd bo sz sh le im bf ik)) (vp_Si (fun r => r = bI (so = 1 ∧ wd = x0))) 0 0 (fun _ => False) := by
  refine Met.ofW (cc := cX6_isWord) (maxL := 3) (ret := (some .boolean)) (by decide) rfl ?_
  intro p e s m args below meth c s₁ B hml hv
  obtain ⟨rfl, hP, hK⟩ := hv
  have hx := B.exec
  have hb := B.bytes
  have hr := B.returns
  have hts := atoms_spec (ws := wsX6_isWord) B.pre
  have hown : s.vm.findClass RX6 = some m.cls := findClass_of_methodNamed B.named
  have hlocks := B.notSynchronized
  have hl := lv_entry ([.ref (b 0), .long x0]) (n := 3) (Nat.le_of_ble_eq_true rfl)
  rw [lg_entry_eq]
  generalize (lg_sl ([.ref (b 0), .long x0]) ++ List.replicate (3 - (lg_sl ([.ref (b 0), .long x0])).length) Slot.unset).toArray = ls at hl ⊢
  have hl : lv_has ls 3 [(0, .ref (b 0)), (1, .long x0)] := hl
  have f179 := hts (.fieldLink RX6 179 "KnivesLaidModel" "sort" "I") (List.mem_of_getElem? (i := 1) rfl)
  have inX6 : ∀ w ∈ u_ws RX6 TX6 20, w ∈ wsX6_isWord := in_at 3 _ _ rfl
  have f182 := hts (.fieldLink RX6 182 "KnivesLaidModel" "word" "J") (List.mem_of_getElem? (i := 2) rfl)
  refine lv_aload_n hx hb dX6_isWord_0 rfl (lv_at hl 0 rfl) ?_
  refine va_get (ci := 4) (v := .int so) (C := RX6) (T := TX6) (N := 20) hx hb hts inX6 hown hK hP 0 rfl rfl 7 (by decide) f179 (fun _ h9 => h9) rfl dX6_isWord_1 ?_
  refine lv_iconst (v := 1) hx hb dX6_isWord_4 (by decide) ?_
  refine lv_icmp_ne (tgt := 21) hx hb dX6_isWord_5 (by decide) (fun c_1 => ?_) (fun c_1 => ?_)
  · skip
    refine lv_iconst (v := 0) hx hb dX6_isWord_21 (by decide) ?_
    exact W.zret (ty := .boolean) hx hb hr rfl (fun t ht hW => ⟨_, rfl, (by exact (bI_f (fun h => c_1 h.1)).symm), ht⟩) (fun _ h => absurd h List.not_mem_nil) dX6_isWord_22
  · skip
    refine lv_aload_n hx hb dX6_isWord_8 rfl (lv_at hl 0 rfl) ?_
    refine va_get (ci := 4) (v := .long wd) (C := RX6) (T := TX6) (N := 20) hx hb hts inX6 hown hK hP 0 rfl rfl 10 (by decide) f182 (fun _ h9 => h9) rfl dX6_isWord_9 ?_
    refine lv_lload_n hx hb dX6_isWord_12 rfl (lv_at hl 1 rfl) ?_
    refine W.lcmp hx hb dX6_isWord_13 ?_
    refine lv_if_ne (tgt := 21) hx hb dX6_isWord_14 (by decide) (fun c_2 => ?_) (fun c_2 => ?_)
    · skip
      refine lv_iconst (v := 0) hx hb dX6_isWord_21 (by decide) ?_
      exact W.zret (ty := .boolean) hx hb hr rfl (fun t ht hW => ⟨_, rfl, (by exact (bI_f (fun h => c_2 ((lg_cmp_eq _ _).mpr h.2))).symm), ht⟩) (fun _ h => absurd h List.not_mem_nil) dX6_isWord_22
    · skip
      refine lv_iconst (v := 1) hx hb dX6_isWord_17 (by decide) ?_
      refine lv_goto (tgt := 22) hx hb dX6_isWord_18 (by decide) ?_
      exact W.zret (ty := .boolean) hx hb hr rfl (fun t ht hW => ⟨_, rfl, (by exact (bI_t ⟨c_1, (lg_cmp_eq _ _).mp c_2⟩).symm), ht⟩) (fun _ h => absurd h List.not_mem_nil) dX6_isWord_22

set_option maxRecDepth 100000 in
set_option maxHeartbeats 4000000 in
theorem k_X6_advance (l : Launch) (D : va_G) (cI cL cS : ClassId) (b : Nat → Nat) (co gu : Int32) (kn fo sp ki pl ea to qu : FI) (fd mo tr b1 tp : FI) (tm so bg te : Int32) (wd : Int64) (va gd : Int32) (bo sz : FI) (sh le : FJ) (im bf : FI) (ik : Int32) (dj : va_D (fun _ => True) (dj0 b 13)) (cu : Nat) (ol : vp_in tm 121) (hB : ∀ j, j < ix tm → ¬ tp j < 0) (he : te = nI cu) (hc : cu ≤ ix tm) : Met l yX6_advance wsX6_advance { frames := 2, cells := 0, slots := 0, locals := 42 } (PcR D vwCl (tyG cI cL cS) [.ref (b 0)] (mdw cI cL b (enc co gu kn fo sp ki pl ea to qu) fd mo tr b1 tp tm so bg te wd va gd bo sz sh le im bf ik)) (va_Qv (fun (u : Int32 × Int32 × Int32 × Int64 × Int32) => MTok tp (ix tm) cu u.1 u.2.1 u.2.2.1 u.2.2.2.1 u.2.2.2.2) (fun u t => va_P D vwCl (mdw cI cL b (enc co gu kn fo sp ki pl ea to qu) fd mo tr b1 tp tm u.1 u.2.1 u.2.2.1 u.2.2.2.1 u.2.2.2.2 gd bo sz sh le im bf ik) t.heap) (Aof (mdw cI cL b (enc co gu kn fo sp ki pl ea to qu) fd mo tr b1 tp tm so bg te wd va gd bo sz sh le im bf ik))) 0 0 (Aof (mdw cI cL b (enc co gu kn fo sp ki pl ea to qu) fd mo tr b1 tp tm so bg te wd va gd bo sz sh le im bf ik)) := by
  refine Met.ofW (cc := cX6_advance) (maxL := 2) (ret := none) (by decide) rfl ?_
  intro p e s m args below meth c s₁ B hml hv
  obtain ⟨rfl, hP, hK⟩ := hv
  have hx := B.exec
  have hb := B.bytes
  have hr := B.returns
  have hts := atoms_spec (ws := wsX6_advance) B.pre
  have hown : s.vm.findClass RX6 = some m.cls := findClass_of_methodNamed B.named
  have hlocks := B.notSynchronized
  obtain ⟨A, hAe⟩ : ∃ A, A = Aof (mdw cI cL b (enc co gu kn fo sp ki pl ea to qu) fd mo tr b1 tp tm so bg te wd va gd bo sz sh le im bf ik) := ⟨_, rfl⟩
  rw [← hAe]
  have hD : ∀ ws' : va_W, ws'.map Prod.fst = (mdw cI cL b (enc co gu kn fo sp ki pl ea to qu) fd mo tr b1 tp tm so bg te wd va gd bo sz sh le im bf ik).map Prod.fst → va_D A ws' := fun ws' e => by rw [hAe]; exact va_D_adr (va_D_self (va_D_adr dj rfl)) e
  have hS : va_S A s.heap s.heap [] := va_S.rf
  have hP : va_P D vwCl (mdw cI cL b (enc co gu kn fo sp ki pl ea to qu) fd mo tr b1 tp tm so bg te wd va gd bo sz sh le im bf ik) s.heap := hP
  have hl := lv_entry ([.ref (b 0)]) (n := 2) (Nat.le_of_ble_eq_true rfl)
  rw [lg_entry_eq]
  generalize (lg_sl ([.ref (b 0)]) ++ List.replicate (2 - (lg_sl ([.ref (b 0)])).length) Slot.unset).toArray = ls at hl ⊢
  have hl : lv_has ls 2 [(0, .ref (b 0))] := hl
  have f164 := hts (.fieldLink RX6 164 "KnivesLaidModel" "tokenEnds" "I") (List.mem_of_getElem? (i := 1) rfl)
  have inX6 : ∀ w ∈ u_ws RX6 TX6 20, w ∈ wsX6_advance := in_at 25 _ _ rfl
  have f167 := hts (.fieldLink RX6 167 "KnivesLaidModel" "begins" "I") (List.mem_of_getElem? (i := 2) rfl)
  have f179 := hts (.fieldLink RX6 179 "KnivesLaidModel" "sort" "I") (List.mem_of_getElem? (i := 3) rfl)
  have f182 := hts (.fieldLink RX6 182 "KnivesLaidModel" "word" "J") (List.mem_of_getElem? (i := 4) rfl)
  have f186 := hts (.fieldLink RX6 186 "KnivesLaidModel" "value" "I") (List.mem_of_getElem? (i := 5) rfl)
  have k193 := hts (.constantLong RX6 193 (-1)) (List.mem_of_getElem? (i := 8) rfl)
  have k189 := hts (.constantLong RX6 189 (27)) (List.mem_of_getElem? (i := 6) rfl)
  have k191 := hts (.constantLong RX6 191 (96)) (List.mem_of_getElem? (i := 7) rfl)
  skip
  have hln := ln_of ol
  have hl120 := hln.2
  have hlnn := hln.1
  refine lv_aload_n hx hb dX6_advance_0 rfl (lv_at hl 0 rfl) ?_
  refine lv_aload_n hx hb dX6_advance_1 rfl (lv_at hl 0 rfl) ?_
  refine va_get (ci := 4) (v := .int te) (C := RX6) (T := TX6) (N := 20) hx hb hts inX6 hown hK hP 0 rfl rfl 9 (by decide) f164 (fun _ h9 => h9) rfl dX6_advance_2 ?_
  refine va_put (ci := 4) (v := .int te) (ty := .int) (C := RX6) (T := TX6) (N := 20) hx hb hts inX6 tyX6 tyX6_ok nmX6 hown hK hP (hD _ rfl) hS 0 rfl rfl 8 (by decide) f167 (fun _ h9 => h9) rfl rfl rfl rfl (Nat.le_of_ble_eq_true rfl) dX6_advance_5 (fun H locs hP _ hS => ?_)
  have hP : va_P D vwCl (mdw cI cL b (enc co gu kn fo sp ki pl ea to qu) fd mo tr b1 tp tm so te te wd va gd bo sz sh le im bf ik) H := hP
  have hP : va_P D vwCl (mdw cI cL b (enc co gu kn fo sp ki pl ea to qu) fd mo tr b1 tp tm so (nI cu) te wd va gd bo sz sh le im bf ik) H := by rw [← he]; exact hP
  refine lpW (fun n (u : Nat) H locs ls => (u + n = 121) ∧ (u ≤ ix tm) ∧ (sT tp (ix tm) cu = sT tp (ix tm) u) ∧ va_P D vwCl (mdw cI cL b (enc co gu kn fo sp ki pl ea to qu) fd mo tr b1 tp tm so (nI u) te wd va gd bo sz sh le im bf ik) H ∧ va_S A s.heap H locs ∧ lv_has ls 2 [(0, .ref (b 0))]) (121 - cu) (cu) ⟨by omega, hc, rfl, hP, hS, lv_sub hl [0] rfl⟩ (fun n ih u H locs ls hI => ?_)
  obtain ⟨i, rfl⟩ : ∃ z, z = u := ⟨_, rfl⟩
  obtain ⟨hi0, hi1, hi2, hP, hS, hl⟩ := hI
  have hi0 : i + n = 121 := hi0
  have hi1 : i ≤ ix tm := hi1
  have hi2 : sT tp (ix tm) cu = sT tp (ix tm) i := hi2
  have hl : lv_has ls 2 [(0, .ref (b 0))] := hl
  have hP : va_P D vwCl (mdw cI cL b (enc co gu kn fo sp ki pl ea to qu) fd mo tr b1 tp tm so (nI i) te wd va gd bo sz sh le im bf ik) H := hP
  have hix : ix (nI i) = i := ix_nI (by omega)
  refine lv_aload_n hx hb dX6_advance_8 rfl (lv_at hl 0 rfl) ?_
  refine lv_aload_n hx hb dX6_advance_9 rfl (lv_at hl 0 rfl) ?_
  refine va_get (ci := 4) (v := .int (nI i)) (C := RX6) (T := TX6) (N := 20) hx hb hts inX6 hown hK hP 0 rfl rfl 8 (by decide) f167 (fun _ h9 => h9) rfl dX6_advance_10 ?_
  refine callE (W.runV (As := [.int (nI i)]) (rest := []) ⟨hx, hb, hml, hown, hts⟩ (k_X6_byteAt l D cI cL cS b co gu kn fo sp ki pl ea to qu fd mo tr b1 tp tm so (nI i) te wd va gd bo sz sh le im bf ik (nI i) (vp_in_nI (by omega) (by decide)) ol) (cwV 1 hts gX6_advance_X6_byteAt rfl rfl rfl (by decide +kernel) ⟨Nat.le_of_ble_eq_true rfl, Nat.le_of_ble_eq_true rfl⟩) ⟨PcR_fb, va_recv hK hP (ci := 4) (q0 := 0) rfl rfl, PcR_pre hP hK⟩ rfl rfl hl.1 rfl (lv_room (Nat.le_of_ble_eq_true rfl)) dX6_advance_13 ⟨Nat.zero_le _, Nat.zero_le _⟩) ?_
  refine lv_to (y := bA tp (ix tm) i) (by rw [hix]) ?_
  refine lv_bipush (v := 32) hx hb dX6_advance_16 (by decide) ?_
  refine lv_icmp_ne (tgt := 34) hx hb dX6_advance_18 (by decide) (fun c_1 => ?_) (fun c_1 => ?_)
  · skip
    have hsi : sT tp (ix tm) cu = i := hi2.trans (sT_n (bA_n32 c_1))
    refine lv_aload_n hx hb dX6_advance_34 rfl (lv_at hl 0 rfl) ?_
    refine lv_aload_n hx hb dX6_advance_35 rfl (lv_at hl 0 rfl) ?_
    refine va_get (ci := 4) (v := .int (nI i)) (C := RX6) (T := TX6) (N := 20) hx hb hts inX6 hown hK hP 0 rfl rfl 8 (by decide) f167 (fun _ h9 => h9) rfl dX6_advance_36 ?_
    refine va_put (ci := 4) (v := .int (nI i)) (ty := .int) (C := RX6) (T := TX6) (N := 20) hx hb hts inX6 tyX6 tyX6_ok nmX6 hown hK hP (hD _ rfl) hS 0 rfl rfl 9 (by decide) f164 (fun _ h9 => h9) rfl rfl rfl rfl (Nat.le_of_ble_eq_true rfl) dX6_advance_39 (fun H locs hP _ hS => ?_)
    have hP : va_P D vwCl (mdw cI cL b (enc co gu kn fo sp ki pl ea to qu) fd mo tr b1 tp tm so (nI i) (nI i) wd va gd bo sz sh le im bf ik) H := hP
    refine lv_aload_n hx hb dX6_advance_42 rfl (lv_at hl 0 rfl) ?_
    refine lv_aload_n hx hb dX6_advance_43 rfl (lv_at hl 0 rfl) ?_
    refine va_get (ci := 4) (v := .int (nI i)) (C := RX6) (T := TX6) (N := 20) hx hb hts inX6 hown hK hP 0 rfl rfl 8 (by decide) f167 (fun _ h9 => h9) rfl dX6_advance_44 ?_
    refine callE (W.runV (As := [.int (nI i)]) (rest := []) ⟨hx, hb, hml, hown, hts⟩ (k_X6_byteAt l D cI cL cS b co gu kn fo sp ki pl ea to qu fd mo tr b1 tp tm so (nI i) (nI i) wd va gd bo sz sh le im bf ik (nI i) (vp_in_nI (by omega) (by decide)) ol) (cwV 1 hts gX6_advance_X6_byteAt rfl rfl rfl (by decide +kernel) ⟨Nat.le_of_ble_eq_true rfl, Nat.le_of_ble_eq_true rfl⟩) ⟨PcR_fb, va_recv hK hP (ci := 4) (q0 := 0) rfl rfl, PcR_pre hP hK⟩ rfl rfl hl.1 rfl (lv_room (Nat.le_of_ble_eq_true rfl)) dX6_advance_47 ⟨Nat.zero_le _, Nat.zero_le _⟩) ?_
    refine lv_to (y := bA tp (ix tm) i) (by rw [hix]) ?_
    refine lv_istore_n (lv' := [(1, .int (bA tp (ix tm) i)), (0, .ref (b 0))]) hx hb dX6_advance_50 rfl hl (by decide) rfl (fun ls hl => ?_)
    refine lv_aload_n hx hb dX6_advance_51 rfl (lv_at hl 1 rfl) ?_
    refine lv_iload_n hx hb dX6_advance_52 rfl (lv_at hl 0 rfl) ?_
    refine lv_if_ge (tgt := 60) hx hb dX6_advance_53 (by decide) (fun c_2 => ?_) (fun c_2 => ?_)
    · skip
      have hiL := bA_ge c_2
      rw [bA_t hiL] at hl
      refine lv_iload_n hx hb dX6_advance_60 rfl (lv_at hl 0 rfl) ?_
      refine callE (W.runS (As := [.int (tp i)]) (rest := [.ref (b 0)]) ⟨hx, hb, hml, hown, hts⟩ (k_X6_isLetter l (tp i)) (va_cwS 1 hts gX6_advance_X6_isLetter rfl rfl rfl (by decide +kernel) ⟨Nat.le_of_ble_eq_true rfl, Nat.le_of_ble_eq_true rfl⟩) ⟨PcP_fb, fun U _ _ => ⟨rfl, trivial⟩⟩ rfl rfl hl.1 rfl (lv_room (Nat.le_of_ble_eq_true rfl)) dX6_advance_61 ⟨Nat.zero_le _, Nat.zero_le _⟩) ?_
      refine lv_if_eq (tgt := 71) hx hb dX6_advance_64 (by decide) (fun c_3 => ?_) (fun c_3 => ?_)
      · skip
        have c_3b := bI_0 c_3
        refine lv_iload_n hx hb dX6_advance_71 rfl (lv_at hl 0 rfl) ?_
        refine callE (W.runS (As := [.int (tp i)]) (rest := [.ref (b 0)]) ⟨hx, hb, hml, hown, hts⟩ (k_X6_isDigit l (tp i)) (va_cwS 1 hts gX6_advance_X6_isDigit rfl rfl rfl (by decide +kernel) ⟨Nat.le_of_ble_eq_true rfl, Nat.le_of_ble_eq_true rfl⟩) ⟨PcP_fb, fun U _ _ => ⟨rfl, trivial⟩⟩ rfl rfl hl.1 rfl (lv_room (Nat.le_of_ble_eq_true rfl)) dX6_advance_72 ⟨Nat.zero_le _, Nat.zero_le _⟩) ?_
        refine lv_if_eq (tgt := 82) hx hb dX6_advance_75 (by decide) (fun c_4 => ?_) (fun c_4 => ?_)
        · skip
          have c_4b := bI_0 c_4
          refine lv_iconst (v := 3) hx hb dX6_advance_82 (by decide) ?_
          refine va_put (ci := 4) (v := .int 3) (ty := .int) (C := RX6) (T := TX6) (N := 20) hx hb hts inX6 tyX6 tyX6_ok nmX6 hown hK hP (hD _ rfl) hS 0 rfl rfl 7 (by decide) f179 (fun _ h9 => h9) rfl rfl rfl rfl (Nat.le_of_ble_eq_true rfl) dX6_advance_83 (fun H locs hP _ hS => ?_)
          have hP : va_P D vwCl (mdw cI cL b (enc co gu kn fo sp ki pl ea to qu) fd mo tr b1 tp tm 3 (nI i) (nI i) wd va gd bo sz sh le im bf ik) H := hP
          refine lv_aload_n hx hb dX6_advance_86 rfl (lv_at hl 1 rfl) ?_
          refine lv_lconst (v := 0) hx hb dX6_advance_87 (by decide) ?_
          refine va_put (ci := 4) (v := .long 0) (ty := .long) (C := RX6) (T := TX6) (N := 20) hx hb hts inX6 tyX6 tyX6_ok nmX6 hown hK hP (hD _ rfl) hS 0 rfl rfl 10 (by decide) f182 (fun _ h9 => h9) rfl rfl rfl rfl (Nat.le_of_ble_eq_true rfl) dX6_advance_88 (fun H locs hP _ hS => ?_)
          have hP : va_P D vwCl (mdw cI cL b (enc co gu kn fo sp ki pl ea to qu) fd mo tr b1 tp tm 3 (nI i) (nI i) 0 va gd bo sz sh le im bf ik) H := hP
          refine lv_aload_n hx hb dX6_advance_91 rfl (lv_at hl 1 rfl) ?_
          refine lv_aload_n hx hb dX6_advance_92 rfl (lv_at hl 1 rfl) ?_
          refine va_get (ci := 4) (v := .int 3) (C := RX6) (T := TX6) (N := 20) hx hb hts inX6 hown hK hP 0 rfl rfl 7 (by decide) f179 (fun _ h9 => h9) rfl dX6_advance_93 ?_
          refine lv_iconst (v := 2) hx hb dX6_advance_96 (by decide) ?_
          refine lv_icmp_ne (tgt := 104) hx hb dX6_advance_97 (by decide) (fun c_5 => ?_) (fun c_5 => ?_)
          · skip
            have c_5n := mt (cmp_eq (a := 3) (b := 2) rfl rfl (by omega) (by omega)).mpr c_5
            refine lv_iload_n hx hb dX6_advance_104 rfl (lv_at hl 0 rfl) ?_
            refine va_put (ci := 4) (v := .int (tp i)) (ty := .int) (C := RX6) (T := TX6) (N := 20) hx hb hts inX6 tyX6 tyX6_ok nmX6 hown hK hP (hD _ rfl) hS 0 rfl rfl 11 (by decide) f186 (fun _ h9 => h9) rfl rfl rfl rfl (Nat.le_of_ble_eq_true rfl) dX6_advance_105 (fun H locs hP _ hS => ?_)
            have hP : va_P D vwCl (mdw cI cL b (enc co gu kn fo sp ki pl ea to qu) fd mo tr b1 tp tm 3 (nI i) (nI i) 0 (tp i) gd bo sz sh le im bf ik) H := hP
            refine lv_aload_n hx hb dX6_advance_108 rfl (lv_at hl 1 rfl) ?_
            refine va_get (ci := 4) (v := .int 3) (C := RX6) (T := TX6) (N := 20) hx hb hts inX6 hown hK hP 0 rfl rfl 7 (by decide) f179 (fun _ h9 => h9) rfl dX6_advance_109 ?_
            refine lv_iconst (v := 3) hx hb dX6_advance_112 (by decide) ?_
            refine lv_icmp_ne (tgt := 126) hx hb dX6_advance_113 (by decide) (fun c_6 => ?_) (fun c_6 => ?_)
            · skip
              have c_6n := mt (cmp_eq (a := 3) (b := 3) rfl rfl (by omega) (by omega)).mpr c_6
              exact absurd (by decide) c_6
            · skip
              have c_6n := (cmp_eq (a := 3) (b := 3) rfl rfl (by omega) (by omega)).mp c_6
              refine lv_aload_n hx hb dX6_advance_116 rfl (lv_at hl 1 rfl) ?_
              refine lv_dup hx hb dX6_advance_117 rfl ?_
              refine va_get (ci := 4) (v := .int (nI i)) (C := RX6) (T := TX6) (N := 20) hx hb hts inX6 hown hK hP 0 rfl rfl 9 (by decide) f164 (fun _ h9 => h9) rfl dX6_advance_118 ?_
              refine lv_iconst (v := 1) hx hb dX6_advance_121 (by decide) ?_
              refine lv_iadd hx hb dX6_advance_122 ?_
              refine va_put (ci := 4) (v := .int ((nI i) + 1)) (ty := .int) (C := RX6) (T := TX6) (N := 20) hx hb hts inX6 tyX6 tyX6_ok nmX6 hown hK hP (hD _ rfl) hS 0 rfl rfl 9 (by decide) f164 (fun _ h9 => h9) rfl rfl rfl rfl (Nat.le_of_ble_eq_true rfl) dX6_advance_123 (fun H locs hP _ hS => ?_)
              have hP : va_P D vwCl (mdw cI cL b (enc co gu kn fo sp ki pl ea to qu) fd mo tr b1 tp tm 3 (nI i) ((nI i) + 1) 0 (tp i) gd bo sz sh le im bf ik) H := hP
              refine lv_aload_n hx hb dX6_advance_126 rfl (lv_at hl 1 rfl) ?_
              refine va_get (ci := 4) (v := .int 3) (C := RX6) (T := TX6) (N := 20) hx hb hts inX6 hown hK hP 0 rfl rfl 7 (by decide) f179 (fun _ h9 => h9) rfl dX6_advance_127 ?_
              refine lv_iconst (v := 1) hx hb dX6_advance_130 (by decide) ?_
              refine lv_icmp_ne (tgt := 207) hx hb dX6_advance_131 (by decide) (fun c_7 => ?_) (fun c_7 => ?_)
              · skip
                have c_7n := mt (cmp_eq (a := 3) (b := 1) rfl rfl (by omega) (by omega)).mpr c_7
                refine lv_aload_n hx hb dX6_advance_207 rfl (lv_at hl 1 rfl) ?_
                refine va_get (ci := 4) (v := .int 3) (C := RX6) (T := TX6) (N := 20) hx hb hts inX6 hown hK hP 0 rfl rfl 7 (by decide) f179 (fun _ h9 => h9) rfl dX6_advance_208 ?_
                refine lv_iconst (v := 2) hx hb dX6_advance_211 (by decide) ?_
                refine lv_icmp_ne (tgt := 281) hx hb dX6_advance_212 (by decide) (fun c_8 => ?_) (fun c_8 => ?_)
                · skip
                  have c_8n := mt (cmp_eq (a := 3) (b := 2) rfl rfl (by omega) (by omega)).mpr c_8
                  exact W.vret hx hb hr (fun t ht hW => ⟨⟨(3, nI i, ((nI i) + 1), 0, (tp i)), rfl, (by rw [nI_1]; exact mtok_3 hc hl120 hsi hiL c_3b c_4b), by dsimp only; rw [ht]; exact hP⟩, hS.F ht⟩) hS.2.2 dX6_advance_281
                · skip
                  have c_8n := (cmp_eq (a := 3) (b := 2) rfl rfl (by omega) (by omega)).mp c_8
                  exact absurd c_8 (by decide)
              · skip
                have c_7n := (cmp_eq (a := 3) (b := 1) rfl rfl (by omega) (by omega)).mp c_7
                exact absurd c_7 (by decide)
          · skip
            have c_5n := (cmp_eq (a := 3) (b := 2) rfl rfl (by omega) (by omega)).mp c_5
            exact absurd c_5 (by decide)
        · skip
          have c_4b := bI_n c_4
          refine lv_iconst (v := 2) hx hb dX6_advance_78 (by decide) ?_
          refine lv_goto (tgt := 83) hx hb dX6_advance_79 (by decide) ?_
          refine va_put (ci := 4) (v := .int 2) (ty := .int) (C := RX6) (T := TX6) (N := 20) hx hb hts inX6 tyX6 tyX6_ok nmX6 hown hK hP (hD _ rfl) hS 0 rfl rfl 7 (by decide) f179 (fun _ h9 => h9) rfl rfl rfl rfl (Nat.le_of_ble_eq_true rfl) dX6_advance_83 (fun H locs hP _ hS => ?_)
          have hP : va_P D vwCl (mdw cI cL b (enc co gu kn fo sp ki pl ea to qu) fd mo tr b1 tp tm 2 (nI i) (nI i) wd va gd bo sz sh le im bf ik) H := hP
          refine lv_aload_n hx hb dX6_advance_86 rfl (lv_at hl 1 rfl) ?_
          refine lv_lconst (v := 0) hx hb dX6_advance_87 (by decide) ?_
          refine va_put (ci := 4) (v := .long 0) (ty := .long) (C := RX6) (T := TX6) (N := 20) hx hb hts inX6 tyX6 tyX6_ok nmX6 hown hK hP (hD _ rfl) hS 0 rfl rfl 10 (by decide) f182 (fun _ h9 => h9) rfl rfl rfl rfl (Nat.le_of_ble_eq_true rfl) dX6_advance_88 (fun H locs hP _ hS => ?_)
          have hP : va_P D vwCl (mdw cI cL b (enc co gu kn fo sp ki pl ea to qu) fd mo tr b1 tp tm 2 (nI i) (nI i) 0 va gd bo sz sh le im bf ik) H := hP
          refine lv_aload_n hx hb dX6_advance_91 rfl (lv_at hl 1 rfl) ?_
          refine lv_aload_n hx hb dX6_advance_92 rfl (lv_at hl 1 rfl) ?_
          refine va_get (ci := 4) (v := .int 2) (C := RX6) (T := TX6) (N := 20) hx hb hts inX6 hown hK hP 0 rfl rfl 7 (by decide) f179 (fun _ h9 => h9) rfl dX6_advance_93 ?_
          refine lv_iconst (v := 2) hx hb dX6_advance_96 (by decide) ?_
          refine lv_icmp_ne (tgt := 104) hx hb dX6_advance_97 (by decide) (fun c_9 => ?_) (fun c_9 => ?_)
          · skip
            have c_9n := mt (cmp_eq (a := 2) (b := 2) rfl rfl (by omega) (by omega)).mpr c_9
            exact absurd (by decide) c_9
          · skip
            have c_9n := (cmp_eq (a := 2) (b := 2) rfl rfl (by omega) (by omega)).mp c_9
            refine lv_iconst (v := 0) hx hb dX6_advance_100 (by decide) ?_
            refine lv_goto (tgt := 105) hx hb dX6_advance_101 (by decide) ?_
            refine va_put (ci := 4) (v := .int 0) (ty := .int) (C := RX6) (T := TX6) (N := 20) hx hb hts inX6 tyX6 tyX6_ok nmX6 hown hK hP (hD _ rfl) hS 0 rfl rfl 11 (by decide) f186 (fun _ h9 => h9) rfl rfl rfl rfl (Nat.le_of_ble_eq_true rfl) dX6_advance_105 (fun H locs hP _ hS => ?_)
            have hP : va_P D vwCl (mdw cI cL b (enc co gu kn fo sp ki pl ea to qu) fd mo tr b1 tp tm 2 (nI i) (nI i) 0 0 gd bo sz sh le im bf ik) H := hP
            refine lv_aload_n hx hb dX6_advance_108 rfl (lv_at hl 1 rfl) ?_
            refine va_get (ci := 4) (v := .int 2) (C := RX6) (T := TX6) (N := 20) hx hb hts inX6 hown hK hP 0 rfl rfl 7 (by decide) f179 (fun _ h9 => h9) rfl dX6_advance_109 ?_
            refine lv_iconst (v := 3) hx hb dX6_advance_112 (by decide) ?_
            refine lv_icmp_ne (tgt := 126) hx hb dX6_advance_113 (by decide) (fun c_10 => ?_) (fun c_10 => ?_)
            · skip
              have c_10n := mt (cmp_eq (a := 2) (b := 3) rfl rfl (by omega) (by omega)).mpr c_10
              refine lv_aload_n hx hb dX6_advance_126 rfl (lv_at hl 1 rfl) ?_
              refine va_get (ci := 4) (v := .int 2) (C := RX6) (T := TX6) (N := 20) hx hb hts inX6 hown hK hP 0 rfl rfl 7 (by decide) f179 (fun _ h9 => h9) rfl dX6_advance_127 ?_
              refine lv_iconst (v := 1) hx hb dX6_advance_130 (by decide) ?_
              refine lv_icmp_ne (tgt := 207) hx hb dX6_advance_131 (by decide) (fun c_11 => ?_) (fun c_11 => ?_)
              · skip
                have c_11n := mt (cmp_eq (a := 2) (b := 1) rfl rfl (by omega) (by omega)).mpr c_11
                refine lpW (fun n (u : Nat × Nat × Int32) H locs ls => (u.1 + n = 121) ∧ (i ≤ u.1) ∧ (u.1 ≤ ix tm) ∧ (u.2.1 ≤ 1000) ∧ (dE tp (ix tm) i = dE tp (ix tm) u.1) ∧ (nVs tp (dE tp (ix tm) i - i) i 0 = nVs tp (dE tp (ix tm) u.1 - u.1) u.1 u.2.1) ∧ (mV u.2.1 u.2.2) ∧ va_P D vwCl (mdw cI cL b (enc co gu kn fo sp ki pl ea to qu) fd mo tr b1 tp tm 2 (nI i) (nI u.1) 0 u.2.2 gd bo sz sh le im bf ik) H ∧ va_S A s.heap H locs ∧ lv_has ls 2 [(0, .ref (b 0)), (1, .int (tp i))]) (121 - i) ((i, 0, 0)) ⟨by omega, Nat.le_refl i, by omega, Nat.zero_le _, rfl, rfl, mV_0, hP, hS, lv_sub hl [1, 0] rfl⟩ (fun n ih u H locs ls hI => ?_)
                obtain ⟨j, v, va9⟩ := u
                obtain ⟨hj0, hj1, hj2, hj3, hj4, hj5, hj6, hP, hS, hl⟩ := hI
                have hj0 : j + n = 121 := hj0
                have hj1 : i ≤ j := hj1
                have hj2 : j ≤ ix tm := hj2
                have hj3 : v ≤ 1000 := hj3
                have hj4 : dE tp (ix tm) i = dE tp (ix tm) j := hj4
                have hj5 : nVs tp (dE tp (ix tm) i - i) i 0 = nVs tp (dE tp (ix tm) j - j) j v := hj5
                have hj6 : mV v va9 := hj6
                have hl : lv_has ls 2 [(0, .ref (b 0)), (1, .int (tp i))] := hl
                have hP : va_P D vwCl (mdw cI cL b (enc co gu kn fo sp ki pl ea to qu) fd mo tr b1 tp tm 2 (nI i) (nI j) 0 va9 gd bo sz sh le im bf ik) H := hP
                have hjx : ix (nI j) = j := ix_nI (by omega)
                refine lv_aload_n hx hb dX6_advance_207 rfl (lv_at hl 0 rfl) ?_
                refine va_get (ci := 4) (v := .int 2) (C := RX6) (T := TX6) (N := 20) hx hb hts inX6 hown hK hP 0 rfl rfl 7 (by decide) f179 (fun _ h9 => h9) rfl dX6_advance_208 ?_
                refine lv_iconst (v := 2) hx hb dX6_advance_211 (by decide) ?_
                refine lv_icmp_ne (tgt := 281) hx hb dX6_advance_212 (by decide) (fun c_12 => ?_) (fun c_12 => ?_)
                · skip
                  have c_12n := mt (cmp_eq (a := 2) (b := 2) rfl rfl (by omega) (by omega)).mpr c_12
                  exact absurd (by decide) c_12
                · skip
                  have c_12n := (cmp_eq (a := 2) (b := 2) rfl rfl (by omega) (by omega)).mp c_12
                  refine lv_aload_n hx hb dX6_advance_215 rfl (lv_at hl 0 rfl) ?_
                  refine lv_aload_n hx hb dX6_advance_216 rfl (lv_at hl 0 rfl) ?_
                  refine va_get (ci := 4) (v := .int (nI j)) (C := RX6) (T := TX6) (N := 20) hx hb hts inX6 hown hK hP 0 rfl rfl 9 (by decide) f164 (fun _ h9 => h9) rfl dX6_advance_217 ?_
                  refine callE (W.runV (As := [.int (nI j)]) (rest := []) ⟨hx, hb, hml, hown, hts⟩ (k_X6_byteAt l D cI cL cS b co gu kn fo sp ki pl ea to qu fd mo tr b1 tp tm 2 (nI i) (nI j) 0 va9 gd bo sz sh le im bf ik (nI j) (vp_in_nI (by omega) (by decide)) ol) (cwV 1 hts gX6_advance_X6_byteAt rfl rfl rfl (by decide +kernel) ⟨Nat.le_of_ble_eq_true rfl, Nat.le_of_ble_eq_true rfl⟩) ⟨PcR_fb, va_recv hK hP (ci := 4) (q0 := 0) rfl rfl, PcR_pre hP hK⟩ rfl rfl hl.1 rfl (lv_room (Nat.le_of_ble_eq_true rfl)) dX6_advance_220 ⟨Nat.zero_le _, Nat.zero_le _⟩) ?_
                  refine lv_to (y := bA tp (ix tm) j) (by rw [hjx]) ?_
                  refine callE (W.runS (As := [.int (bA tp (ix tm) j)]) (rest := []) ⟨hx, hb, hml, hown, hts⟩ (k_X6_isDigit l (bA tp (ix tm) j)) (va_cwS 1 hts gX6_advance_X6_isDigit rfl rfl rfl (by decide +kernel) ⟨Nat.le_of_ble_eq_true rfl, Nat.le_of_ble_eq_true rfl⟩) ⟨PcP_fb, fun U _ _ => ⟨rfl, trivial⟩⟩ rfl rfl hl.1 rfl (lv_room (Nat.le_of_ble_eq_true rfl)) dX6_advance_223 ⟨Nat.zero_le _, Nat.zero_le _⟩) ?_
                  refine lv_if_eq (tgt := 281) hx hb dX6_advance_226 (by decide) (fun c_13 => ?_) (fun c_13 => ?_)
                  · skip
                    have c_13b := bI_0 c_13
                    have hxd := c_13b
                    exact W.vret hx hb hr (fun t ht hW => ⟨⟨(2, nI i, nI j, 0, va9), rfl, (by exact mtok_2 hc hl120 hsi hiL c_3b c_4b (hj4.trans (rn_n (bA_ndg hxd))) (hj5.trans (nVs_e (bA_ndg hxd))) hj6), by dsimp only; rw [ht]; exact hP⟩, hS.F ht⟩) hS.2.2 dX6_advance_281
                  · skip
                    have c_13b := bI_n c_13
                    obtain ⟨hjL, hdj⟩ := bA_dg c_13b
                    refine lv_aload_n hx hb dX6_advance_229 rfl (lv_at hl 0 rfl) ?_
                    refine lv_aload_n hx hb dX6_advance_230 rfl (lv_at hl 0 rfl) ?_
                    refine va_get (ci := 4) (v := .int va9) (C := RX6) (T := TX6) (N := 20) hx hb hts inX6 hown hK hP 0 rfl rfl 11 (by decide) f186 (fun _ h9 => h9) rfl dX6_advance_231 ?_
                    refine lv_sipush (v := 999) hx hb dX6_advance_234 (by decide) ?_
                    refine jn (fun v_14 : Int32 => v_14 = (if va9 ≤ 999 then (((10 * va9) + (bA tp (ix tm) (ix (nI j)))) - 48) else 10000 : Int32)) (fun v_14 => F0 m 265 ls [.int v_14, .ref (b 0)]) (fun Jv_14 => ?_) (fun v_14 ev_14 => ?_)
                    · skip
                      refine lv_icmp_le (tgt := 246) hx hb dX6_advance_237 (by decide) (fun c_15 => ?_) (fun c_15 => ?_)
                      · skip
                        refine lv_bipush (v := 10) hx hb dX6_advance_246 (by decide) ?_
                        refine lv_aload_n hx hb dX6_advance_248 rfl (lv_at hl 0 rfl) ?_
                        refine va_get (ci := 4) (v := .int va9) (C := RX6) (T := TX6) (N := 20) hx hb hts inX6 hown hK hP 0 rfl rfl 11 (by decide) f186 (fun _ h9 => h9) rfl dX6_advance_249 ?_
                        refine lv_imul hx hb dX6_advance_252 ?_
                        refine lv_aload_n hx hb dX6_advance_253 rfl (lv_at hl 0 rfl) ?_
                        refine lv_aload_n hx hb dX6_advance_254 rfl (lv_at hl 0 rfl) ?_
                        refine va_get (ci := 4) (v := .int (nI j)) (C := RX6) (T := TX6) (N := 20) hx hb hts inX6 hown hK hP 0 rfl rfl 9 (by decide) f164 (fun _ h9 => h9) rfl dX6_advance_255 ?_
                        refine callE (W.runV (As := [.int (nI j)]) (rest := [.int (10 * va9), .ref (b 0)]) ⟨hx, hb, hml, hown, hts⟩ (k_X6_byteAt l D cI cL cS b co gu kn fo sp ki pl ea to qu fd mo tr b1 tp tm 2 (nI i) (nI j) 0 va9 gd bo sz sh le im bf ik (nI j) (vp_in_nI (by omega) (by decide)) ol) (cwV 1 hts gX6_advance_X6_byteAt rfl rfl rfl (by decide +kernel) ⟨Nat.le_of_ble_eq_true rfl, Nat.le_of_ble_eq_true rfl⟩) ⟨PcR_fb, va_recv hK hP (ci := 4) (q0 := 0) rfl rfl, PcR_pre hP hK⟩ rfl rfl hl.1 rfl (lv_room (Nat.le_of_ble_eq_true rfl)) dX6_advance_258 ⟨Nat.zero_le _, Nat.zero_le _⟩) ?_
                        refine lv_iadd hx hb dX6_advance_261 ?_
                        refine lv_bipush (v := 48) hx hb dX6_advance_262 (by decide) ?_
                        refine lv_isub hx hb dX6_advance_264 ?_
                        exact Jv_14 _ (by rw [if_pos c_15])
                      · skip
                        refine lv_sipush (v := 10000) hx hb dX6_advance_240 (by decide) ?_
                        refine lv_goto (tgt := 265) hx hb dX6_advance_243 (by decide) ?_
                        exact Jv_14 _ (by rw [if_neg c_15])
                    subst ev_14
                    refine va_put (ci := 4) (v := .int (if va9 ≤ 999 then (((10 * va9) + (bA tp (ix tm) (ix (nI j)))) - 48) else 10000 : Int32)) (ty := .int) (C := RX6) (T := TX6) (N := 20) hx hb hts inX6 tyX6 tyX6_ok nmX6 hown hK hP (hD _ rfl) hS 0 rfl rfl 11 (by decide) f186 (fun _ h9 => h9) rfl rfl rfl rfl (Nat.le_of_ble_eq_true rfl) dX6_advance_265 (fun H locs hP _ hS => ?_)
                    have hP : va_P D vwCl (mdw cI cL b (enc co gu kn fo sp ki pl ea to qu) fd mo tr b1 tp tm 2 (nI i) (nI j) 0 (if va9 ≤ 999 then (((10 * va9) + (bA tp (ix tm) (ix (nI j)))) - 48) else 10000 : Int32) gd bo sz sh le im bf ik) H := hP
                    refine lv_aload_n hx hb dX6_advance_268 rfl (lv_at hl 0 rfl) ?_
                    refine lv_dup hx hb dX6_advance_269 rfl ?_
                    refine va_get (ci := 4) (v := .int (nI j)) (C := RX6) (T := TX6) (N := 20) hx hb hts inX6 hown hK hP 0 rfl rfl 9 (by decide) f164 (fun _ h9 => h9) rfl dX6_advance_270 ?_
                    refine lv_iconst (v := 1) hx hb dX6_advance_273 (by decide) ?_
                    refine lv_iadd hx hb dX6_advance_274 ?_
                    refine va_put (ci := 4) (v := .int ((nI j) + 1)) (ty := .int) (C := RX6) (T := TX6) (N := 20) hx hb hts inX6 tyX6 tyX6_ok nmX6 hown hK hP (hD _ rfl) hS 0 rfl rfl 9 (by decide) f164 (fun _ h9 => h9) rfl rfl rfl rfl (Nat.le_of_ble_eq_true rfl) dX6_advance_275 (fun H locs hP _ hS => ?_)
                    have hP : va_P D vwCl (mdw cI cL b (enc co gu kn fo sp ki pl ea to qu) fd mo tr b1 tp tm 2 (nI i) ((nI j) + 1) 0 (if va9 ≤ 999 then (((10 * va9) + (bA tp (ix tm) (ix (nI j)))) - 48) else 10000 : Int32) gd bo sz sh le im bf ik) H := hP
                    refine lv_goto (tgt := 207) hx hb dX6_advance_278 (by decide) ?_
                    have hP : va_P D vwCl (mdw cI cL b (enc co gu kn fo sp ki pl ea to qu) fd mo tr b1 tp tm 2 (nI i) (nI (j + 1)) 0 (if va9 ≤ 999 then 10 * va9 + tp j - 48 else 10000) gd bo sz sh le im bf ik) H := by rw [hjx, bA_t hjL, nI_1 j] at hP; exact hP
                    exact ih (n - 1) (by omega) ((j + 1, min 1000 (10 * v + (ix (tp j) - 48)), (if va9 ≤ 999 then 10 * va9 + tp j - 48 else 10000))) H locs ls ⟨by omega, by omega, by omega, Nat.min_le_left 1000 _, by rw [hj4]; exact rn_y hjL hdj, by rw [hj5]; exact nVs_s hjL hdj, mV_s hj6 hdj, hP, hS, lv_sub hl [0, 1] rfl⟩
              · skip
                have c_11n := (cmp_eq (a := 2) (b := 1) rfl rfl (by omega) (by omega)).mp c_11
                exact absurd c_11 (by decide)
            · skip
              have c_10n := (cmp_eq (a := 2) (b := 3) rfl rfl (by omega) (by omega)).mp c_10
              exact absurd c_10 (by decide)
      · skip
        have c_3b := bI_n c_3
        refine lv_iconst (v := 1) hx hb dX6_advance_67 (by decide) ?_
        refine lv_goto (tgt := 83) hx hb dX6_advance_68 (by decide) ?_
        refine va_put (ci := 4) (v := .int 1) (ty := .int) (C := RX6) (T := TX6) (N := 20) hx hb hts inX6 tyX6 tyX6_ok nmX6 hown hK hP (hD _ rfl) hS 0 rfl rfl 7 (by decide) f179 (fun _ h9 => h9) rfl rfl rfl rfl (Nat.le_of_ble_eq_true rfl) dX6_advance_83 (fun H locs hP _ hS => ?_)
        have hP : va_P D vwCl (mdw cI cL b (enc co gu kn fo sp ki pl ea to qu) fd mo tr b1 tp tm 1 (nI i) (nI i) wd va gd bo sz sh le im bf ik) H := hP
        refine lv_aload_n hx hb dX6_advance_86 rfl (lv_at hl 1 rfl) ?_
        refine lv_lconst (v := 0) hx hb dX6_advance_87 (by decide) ?_
        refine va_put (ci := 4) (v := .long 0) (ty := .long) (C := RX6) (T := TX6) (N := 20) hx hb hts inX6 tyX6 tyX6_ok nmX6 hown hK hP (hD _ rfl) hS 0 rfl rfl 10 (by decide) f182 (fun _ h9 => h9) rfl rfl rfl rfl (Nat.le_of_ble_eq_true rfl) dX6_advance_88 (fun H locs hP _ hS => ?_)
        have hP : va_P D vwCl (mdw cI cL b (enc co gu kn fo sp ki pl ea to qu) fd mo tr b1 tp tm 1 (nI i) (nI i) 0 va gd bo sz sh le im bf ik) H := hP
        refine lv_aload_n hx hb dX6_advance_91 rfl (lv_at hl 1 rfl) ?_
        refine lv_aload_n hx hb dX6_advance_92 rfl (lv_at hl 1 rfl) ?_
        refine va_get (ci := 4) (v := .int 1) (C := RX6) (T := TX6) (N := 20) hx hb hts inX6 hown hK hP 0 rfl rfl 7 (by decide) f179 (fun _ h9 => h9) rfl dX6_advance_93 ?_
        refine lv_iconst (v := 2) hx hb dX6_advance_96 (by decide) ?_
        refine lv_icmp_ne (tgt := 104) hx hb dX6_advance_97 (by decide) (fun c_16 => ?_) (fun c_16 => ?_)
        · skip
          have c_16n := mt (cmp_eq (a := 1) (b := 2) rfl rfl (by omega) (by omega)).mpr c_16
          refine lv_iload_n hx hb dX6_advance_104 rfl (lv_at hl 0 rfl) ?_
          refine va_put (ci := 4) (v := .int (tp i)) (ty := .int) (C := RX6) (T := TX6) (N := 20) hx hb hts inX6 tyX6 tyX6_ok nmX6 hown hK hP (hD _ rfl) hS 0 rfl rfl 11 (by decide) f186 (fun _ h9 => h9) rfl rfl rfl rfl (Nat.le_of_ble_eq_true rfl) dX6_advance_105 (fun H locs hP _ hS => ?_)
          have hP : va_P D vwCl (mdw cI cL b (enc co gu kn fo sp ki pl ea to qu) fd mo tr b1 tp tm 1 (nI i) (nI i) 0 (tp i) gd bo sz sh le im bf ik) H := hP
          refine lv_aload_n hx hb dX6_advance_108 rfl (lv_at hl 1 rfl) ?_
          refine va_get (ci := 4) (v := .int 1) (C := RX6) (T := TX6) (N := 20) hx hb hts inX6 hown hK hP 0 rfl rfl 7 (by decide) f179 (fun _ h9 => h9) rfl dX6_advance_109 ?_
          refine lv_iconst (v := 3) hx hb dX6_advance_112 (by decide) ?_
          refine lv_icmp_ne (tgt := 126) hx hb dX6_advance_113 (by decide) (fun c_17 => ?_) (fun c_17 => ?_)
          · skip
            have c_17n := mt (cmp_eq (a := 1) (b := 3) rfl rfl (by omega) (by omega)).mpr c_17
            refine lpW (fun n (u : Nat × Int64) H locs ls => (u.1 + n = 121) ∧ (i ≤ u.1) ∧ (u.1 ≤ ix tm) ∧ (wE tp (ix tm) i = wE tp (ix tm) u.1) ∧ (∀ k, i ≤ k → k < u.1 → isLt (tp k)) ∧ (mW tp i u.1 u.2) ∧ va_P D vwCl (mdw cI cL b (enc co gu kn fo sp ki pl ea to qu) fd mo tr b1 tp tm 1 (nI i) (nI u.1) u.2 (tp i) gd bo sz sh le im bf ik) H ∧ va_S A s.heap H locs ∧ lv_has ls 2 [(0, .ref (b 0)), (1, .int (tp i))]) (121 - i) ((i, 0)) ⟨by omega, Nat.le_refl i, by omega, rfl, fun k h1 h2 => absurd h1 (by omega), mW_0 tp i, hP, hS, lv_sub hl [1, 0] rfl⟩ (fun n ih u H locs ls hI => ?_)
            obtain ⟨j, wd9⟩ := u
            obtain ⟨hj0, hj1, hj2, hj3, hj4, hj5, hP, hS, hl⟩ := hI
            have hj0 : j + n = 121 := hj0
            have hj1 : i ≤ j := hj1
            have hj2 : j ≤ ix tm := hj2
            have hj3 : wE tp (ix tm) i = wE tp (ix tm) j := hj3
            have hj4 : ∀ k, i ≤ k → k < j → isLt (tp k) := hj4
            have hj5 : mW tp i j wd9 := hj5
            have hl : lv_has ls 2 [(0, .ref (b 0)), (1, .int (tp i))] := hl
            have hP : va_P D vwCl (mdw cI cL b (enc co gu kn fo sp ki pl ea to qu) fd mo tr b1 tp tm 1 (nI i) (nI j) wd9 (tp i) gd bo sz sh le im bf ik) H := hP
            have hjx : ix (nI j) = j := ix_nI (by omega)
            refine lv_aload_n hx hb dX6_advance_126 rfl (lv_at hl 0 rfl) ?_
            refine va_get (ci := 4) (v := .int 1) (C := RX6) (T := TX6) (N := 20) hx hb hts inX6 hown hK hP 0 rfl rfl 7 (by decide) f179 (fun _ h9 => h9) rfl dX6_advance_127 ?_
            refine lv_iconst (v := 1) hx hb dX6_advance_130 (by decide) ?_
            refine lv_icmp_ne (tgt := 207) hx hb dX6_advance_131 (by decide) (fun c_18 => ?_) (fun c_18 => ?_)
            · skip
              have c_18n := mt (cmp_eq (a := 1) (b := 1) rfl rfl (by omega) (by omega)).mpr c_18
              exact absurd (by decide) c_18
            · skip
              have c_18n := (cmp_eq (a := 1) (b := 1) rfl rfl (by omega) (by omega)).mp c_18
              refine lv_aload_n hx hb dX6_advance_134 rfl (lv_at hl 0 rfl) ?_
              refine lv_aload_n hx hb dX6_advance_135 rfl (lv_at hl 0 rfl) ?_
              refine va_get (ci := 4) (v := .int (nI j)) (C := RX6) (T := TX6) (N := 20) hx hb hts inX6 hown hK hP 0 rfl rfl 9 (by decide) f164 (fun _ h9 => h9) rfl dX6_advance_136 ?_
              refine callE (W.runV (As := [.int (nI j)]) (rest := []) ⟨hx, hb, hml, hown, hts⟩ (k_X6_byteAt l D cI cL cS b co gu kn fo sp ki pl ea to qu fd mo tr b1 tp tm 1 (nI i) (nI j) wd9 (tp i) gd bo sz sh le im bf ik (nI j) (vp_in_nI (by omega) (by decide)) ol) (cwV 1 hts gX6_advance_X6_byteAt rfl rfl rfl (by decide +kernel) ⟨Nat.le_of_ble_eq_true rfl, Nat.le_of_ble_eq_true rfl⟩) ⟨PcR_fb, va_recv hK hP (ci := 4) (q0 := 0) rfl rfl, PcR_pre hP hK⟩ rfl rfl hl.1 rfl (lv_room (Nat.le_of_ble_eq_true rfl)) dX6_advance_139 ⟨Nat.zero_le _, Nat.zero_le _⟩) ?_
              refine lv_to (y := bA tp (ix tm) j) (by rw [hjx]) ?_
              refine callE (W.runS (As := [.int (bA tp (ix tm) j)]) (rest := []) ⟨hx, hb, hml, hown, hts⟩ (k_X6_isLetter l (bA tp (ix tm) j)) (va_cwS 1 hts gX6_advance_X6_isLetter rfl rfl rfl (by decide +kernel) ⟨Nat.le_of_ble_eq_true rfl, Nat.le_of_ble_eq_true rfl⟩) ⟨PcP_fb, fun U _ _ => ⟨rfl, trivial⟩⟩ rfl rfl hl.1 rfl (lv_room (Nat.le_of_ble_eq_true rfl)) dX6_advance_142 ⟨Nat.zero_le _, Nat.zero_le _⟩) ?_
              refine lv_if_eq (tgt := 207) hx hb dX6_advance_145 (by decide) (fun c_19 => ?_) (fun c_19 => ?_)
              · skip
                have c_19b := bI_0 c_19
                have hxl := c_19b
                refine lv_aload_n hx hb dX6_advance_207 rfl (lv_at hl 0 rfl) ?_
                refine va_get (ci := 4) (v := .int 1) (C := RX6) (T := TX6) (N := 20) hx hb hts inX6 hown hK hP 0 rfl rfl 7 (by decide) f179 (fun _ h9 => h9) rfl dX6_advance_208 ?_
                refine lv_iconst (v := 2) hx hb dX6_advance_211 (by decide) ?_
                refine lv_icmp_ne (tgt := 281) hx hb dX6_advance_212 (by decide) (fun c_20 => ?_) (fun c_20 => ?_)
                · skip
                  have c_20n := mt (cmp_eq (a := 1) (b := 2) rfl rfl (by omega) (by omega)).mpr c_20
                  exact W.vret hx hb hr (fun t ht hW => ⟨⟨(1, nI i, nI j, wd9, (tp i)), rfl, (by exact mtok_1 hc hl120 hsi hiL c_3b (hj3.trans (rn_n (bA_nlt hxl))) hj5), by dsimp only; rw [ht]; exact hP⟩, hS.F ht⟩) hS.2.2 dX6_advance_281
                · skip
                  have c_20n := (cmp_eq (a := 1) (b := 2) rfl rfl (by omega) (by omega)).mp c_20
                  exact absurd c_20 (by decide)
              · skip
                have c_19b := bI_n c_19
                obtain ⟨hjL, hlj⟩ := bA_lt c_19b
                refine lv_aload_n hx hb dX6_advance_148 rfl (lv_at hl 0 rfl) ?_
                refine lv_aload_n hx hb dX6_advance_149 rfl (lv_at hl 0 rfl) ?_
                refine va_get (ci := 4) (v := .int (nI j)) (C := RX6) (T := TX6) (N := 20) hx hb hts inX6 hown hK hP 0 rfl rfl 9 (by decide) f164 (fun _ h9 => h9) rfl dX6_advance_150 ?_
                refine lv_aload_n hx hb dX6_advance_153 rfl (lv_at hl 0 rfl) ?_
                refine va_get (ci := 4) (v := .int (nI i)) (C := RX6) (T := TX6) (N := 20) hx hb hts inX6 hown hK hP 0 rfl rfl 8 (by decide) f167 (fun _ h9 => h9) rfl dX6_advance_154 ?_
                refine lv_isub hx hb dX6_advance_157 ?_
                refine lv_bipush (v := 12) hx hb dX6_advance_158 (by decide) ?_
                refine jn (fun v_21 : Int64 => v_21 = (if 12 ≤ ((nI j) - (nI i)) then (-1) else (((27 * wd9) + ((bA tp (ix tm) (ix (nI j))).toInt64)) - 96) : Int64)) (fun v_21 => F0 m 191 ls [.long v_21, .ref (b 0)]) (fun Jv_21 => ?_) (fun v_21 ev_21 => ?_)
                · skip
                  refine lv_icmp_ge (tgt := 188) hx hb dX6_advance_160 (by decide) (fun c_22 => ?_) (fun c_22 => ?_)
                  · skip
                    refine lv_ldc2 hx hb hown k193 dX6_advance_188 ?_
                    exact Jv_21 _ (by rw [if_pos c_22])
                  · skip
                    refine lv_ldc2 hx hb hown k189 dX6_advance_163 ?_
                    refine lv_aload_n hx hb dX6_advance_166 rfl (lv_at hl 0 rfl) ?_
                    refine va_get (ci := 4) (v := .long wd9) (C := RX6) (T := TX6) (N := 20) hx hb hts inX6 hown hK hP 0 rfl rfl 10 (by decide) f182 (fun _ h9 => h9) rfl dX6_advance_167 ?_
                    refine lv_lmul hx hb dX6_advance_170 ?_
                    refine lv_aload_n hx hb dX6_advance_171 rfl (lv_at hl 0 rfl) ?_
                    refine lv_aload_n hx hb dX6_advance_172 rfl (lv_at hl 0 rfl) ?_
                    refine va_get (ci := 4) (v := .int (nI j)) (C := RX6) (T := TX6) (N := 20) hx hb hts inX6 hown hK hP 0 rfl rfl 9 (by decide) f164 (fun _ h9 => h9) rfl dX6_advance_173 ?_
                    refine callE (W.runV (As := [.int (nI j)]) (rest := [.long (27 * wd9), .ref (b 0)]) ⟨hx, hb, hml, hown, hts⟩ (k_X6_byteAt l D cI cL cS b co gu kn fo sp ki pl ea to qu fd mo tr b1 tp tm 1 (nI i) (nI j) wd9 (tp i) gd bo sz sh le im bf ik (nI j) (vp_in_nI (by omega) (by decide)) ol) (cwV 1 hts gX6_advance_X6_byteAt rfl rfl rfl (by decide +kernel) ⟨Nat.le_of_ble_eq_true rfl, Nat.le_of_ble_eq_true rfl⟩) ⟨PcR_fb, va_recv hK hP (ci := 4) (q0 := 0) rfl rfl, PcR_pre hP hK⟩ rfl rfl hl.1 rfl (lv_room (Nat.le_of_ble_eq_true rfl)) dX6_advance_176 ⟨Nat.zero_le _, Nat.zero_le _⟩) ?_
                    refine lv_i2l (v := (bA tp (ix tm) (ix (nI j))).toInt64) hx hb dX6_advance_179 rfl ?_
                    refine lv_ladd hx hb dX6_advance_180 ?_
                    refine lv_ldc2 hx hb hown k191 dX6_advance_181 ?_
                    refine lv_lsub hx hb dX6_advance_184 ?_
                    refine lv_goto (tgt := 191) hx hb dX6_advance_185 (by decide) ?_
                    exact Jv_21 _ (by rw [if_neg c_22])
                subst ev_21
                refine va_put (ci := 4) (v := .long (if 12 ≤ ((nI j) - (nI i)) then (-1) else (((27 * wd9) + ((bA tp (ix tm) (ix (nI j))).toInt64)) - 96) : Int64)) (ty := .long) (C := RX6) (T := TX6) (N := 20) hx hb hts inX6 tyX6 tyX6_ok nmX6 hown hK hP (hD _ rfl) hS 0 rfl rfl 10 (by decide) f182 (fun _ h9 => h9) rfl rfl rfl rfl (Nat.le_of_ble_eq_true rfl) dX6_advance_191 (fun H locs hP _ hS => ?_)
                have hP : va_P D vwCl (mdw cI cL b (enc co gu kn fo sp ki pl ea to qu) fd mo tr b1 tp tm 1 (nI i) (nI j) (if 12 ≤ ((nI j) - (nI i)) then (-1) else (((27 * wd9) + ((bA tp (ix tm) (ix (nI j))).toInt64)) - 96) : Int64) (tp i) gd bo sz sh le im bf ik) H := hP
                refine lv_aload_n hx hb dX6_advance_194 rfl (lv_at hl 0 rfl) ?_
                refine lv_dup hx hb dX6_advance_195 rfl ?_
                refine va_get (ci := 4) (v := .int (nI j)) (C := RX6) (T := TX6) (N := 20) hx hb hts inX6 hown hK hP 0 rfl rfl 9 (by decide) f164 (fun _ h9 => h9) rfl dX6_advance_196 ?_
                refine lv_iconst (v := 1) hx hb dX6_advance_199 (by decide) ?_
                refine lv_iadd hx hb dX6_advance_200 ?_
                refine va_put (ci := 4) (v := .int ((nI j) + 1)) (ty := .int) (C := RX6) (T := TX6) (N := 20) hx hb hts inX6 tyX6 tyX6_ok nmX6 hown hK hP (hD _ rfl) hS 0 rfl rfl 9 (by decide) f164 (fun _ h9 => h9) rfl rfl rfl rfl (Nat.le_of_ble_eq_true rfl) dX6_advance_201 (fun H locs hP _ hS => ?_)
                have hP : va_P D vwCl (mdw cI cL b (enc co gu kn fo sp ki pl ea to qu) fd mo tr b1 tp tm 1 (nI i) ((nI j) + 1) (if 12 ≤ ((nI j) - (nI i)) then (-1) else (((27 * wd9) + ((bA tp (ix tm) (ix (nI j))).toInt64)) - 96) : Int64) (tp i) gd bo sz sh le im bf ik) H := hP
                refine lv_goto (tgt := 126) hx hb dX6_advance_204 (by decide) ?_
                have hP : va_P D vwCl (mdw cI cL b (enc co gu kn fo sp ki pl ea to qu) fd mo tr b1 tp tm 1 (nI i) (nI (j + 1)) (if (12 : Int32) ≤ nI j - nI i then -1 else 27 * wd9 + (tp j).toInt64 - 96) (tp i) gd bo sz sh le im bf ik) H := by rw [hjx, bA_t hjL, nI_1 j] at hP; exact hP
                exact ih (n - 1) (by omega) ((j + 1, (if (12 : Int32) ≤ nI j - nI i then -1 else 27 * wd9 + (tp j).toInt64 - 96))) H locs ls ⟨by omega, by omega, by omega, by rw [hj3]; exact rn_y hjL hlj, fun k h1 h2 => by by_cases q : k = j; (· rw [q]; exact hlj); (· exact hj4 k h1 (by omega)), mW_s hj1 (by omega) hj4 hlj hj5, hP, hS, lv_sub hl [0, 1] rfl⟩
          · skip
            have c_17n := (cmp_eq (a := 1) (b := 3) rfl rfl (by omega) (by omega)).mp c_17
            exact absurd c_17 (by decide)
        · skip
          have c_16n := (cmp_eq (a := 1) (b := 2) rfl rfl (by omega) (by omega)).mp c_16
          exact absurd c_16 (by decide)
    · skip
      have hiN := bA_lt0 hB c_2
      refine lv_iconst (v := 0) hx hb dX6_advance_56 (by decide) ?_
      refine lv_goto (tgt := 83) hx hb dX6_advance_57 (by decide) ?_
      refine va_put (ci := 4) (v := .int 0) (ty := .int) (C := RX6) (T := TX6) (N := 20) hx hb hts inX6 tyX6 tyX6_ok nmX6 hown hK hP (hD _ rfl) hS 0 rfl rfl 7 (by decide) f179 (fun _ h9 => h9) rfl rfl rfl rfl (Nat.le_of_ble_eq_true rfl) dX6_advance_83 (fun H locs hP _ hS => ?_)
      have hP : va_P D vwCl (mdw cI cL b (enc co gu kn fo sp ki pl ea to qu) fd mo tr b1 tp tm 0 (nI i) (nI i) wd va gd bo sz sh le im bf ik) H := hP
      refine lv_aload_n hx hb dX6_advance_86 rfl (lv_at hl 1 rfl) ?_
      refine lv_lconst (v := 0) hx hb dX6_advance_87 (by decide) ?_
      refine va_put (ci := 4) (v := .long 0) (ty := .long) (C := RX6) (T := TX6) (N := 20) hx hb hts inX6 tyX6 tyX6_ok nmX6 hown hK hP (hD _ rfl) hS 0 rfl rfl 10 (by decide) f182 (fun _ h9 => h9) rfl rfl rfl rfl (Nat.le_of_ble_eq_true rfl) dX6_advance_88 (fun H locs hP _ hS => ?_)
      have hP : va_P D vwCl (mdw cI cL b (enc co gu kn fo sp ki pl ea to qu) fd mo tr b1 tp tm 0 (nI i) (nI i) 0 va gd bo sz sh le im bf ik) H := hP
      refine lv_aload_n hx hb dX6_advance_91 rfl (lv_at hl 1 rfl) ?_
      refine lv_aload_n hx hb dX6_advance_92 rfl (lv_at hl 1 rfl) ?_
      refine va_get (ci := 4) (v := .int 0) (C := RX6) (T := TX6) (N := 20) hx hb hts inX6 hown hK hP 0 rfl rfl 7 (by decide) f179 (fun _ h9 => h9) rfl dX6_advance_93 ?_
      refine lv_iconst (v := 2) hx hb dX6_advance_96 (by decide) ?_
      refine lv_icmp_ne (tgt := 104) hx hb dX6_advance_97 (by decide) (fun c_23 => ?_) (fun c_23 => ?_)
      · skip
        have c_23n := mt (cmp_eq (a := 0) (b := 2) rfl rfl (by omega) (by omega)).mpr c_23
        refine lv_iload_n hx hb dX6_advance_104 rfl (lv_at hl 0 rfl) ?_
        refine va_put (ci := 4) (v := .int (bA tp (ix tm) i)) (ty := .int) (C := RX6) (T := TX6) (N := 20) hx hb hts inX6 tyX6 tyX6_ok nmX6 hown hK hP (hD _ rfl) hS 0 rfl rfl 11 (by decide) f186 (fun _ h9 => h9) rfl rfl rfl rfl (Nat.le_of_ble_eq_true rfl) dX6_advance_105 (fun H locs hP _ hS => ?_)
        have hP : va_P D vwCl (mdw cI cL b (enc co gu kn fo sp ki pl ea to qu) fd mo tr b1 tp tm 0 (nI i) (nI i) 0 (bA tp (ix tm) i) gd bo sz sh le im bf ik) H := hP
        refine lv_aload_n hx hb dX6_advance_108 rfl (lv_at hl 1 rfl) ?_
        refine va_get (ci := 4) (v := .int 0) (C := RX6) (T := TX6) (N := 20) hx hb hts inX6 hown hK hP 0 rfl rfl 7 (by decide) f179 (fun _ h9 => h9) rfl dX6_advance_109 ?_
        refine lv_iconst (v := 3) hx hb dX6_advance_112 (by decide) ?_
        refine lv_icmp_ne (tgt := 126) hx hb dX6_advance_113 (by decide) (fun c_24 => ?_) (fun c_24 => ?_)
        · skip
          have c_24n := mt (cmp_eq (a := 0) (b := 3) rfl rfl (by omega) (by omega)).mpr c_24
          refine lv_aload_n hx hb dX6_advance_126 rfl (lv_at hl 1 rfl) ?_
          refine va_get (ci := 4) (v := .int 0) (C := RX6) (T := TX6) (N := 20) hx hb hts inX6 hown hK hP 0 rfl rfl 7 (by decide) f179 (fun _ h9 => h9) rfl dX6_advance_127 ?_
          refine lv_iconst (v := 1) hx hb dX6_advance_130 (by decide) ?_
          refine lv_icmp_ne (tgt := 207) hx hb dX6_advance_131 (by decide) (fun c_25 => ?_) (fun c_25 => ?_)
          · skip
            have c_25n := mt (cmp_eq (a := 0) (b := 1) rfl rfl (by omega) (by omega)).mpr c_25
            refine lv_aload_n hx hb dX6_advance_207 rfl (lv_at hl 1 rfl) ?_
            refine va_get (ci := 4) (v := .int 0) (C := RX6) (T := TX6) (N := 20) hx hb hts inX6 hown hK hP 0 rfl rfl 7 (by decide) f179 (fun _ h9 => h9) rfl dX6_advance_208 ?_
            refine lv_iconst (v := 2) hx hb dX6_advance_211 (by decide) ?_
            refine lv_icmp_ne (tgt := 281) hx hb dX6_advance_212 (by decide) (fun c_26 => ?_) (fun c_26 => ?_)
            · skip
              have c_26n := mt (cmp_eq (a := 0) (b := 2) rfl rfl (by omega) (by omega)).mpr c_26
              exact W.vret hx hb hr (fun t ht hW => ⟨⟨(0, nI i, nI i, 0, (bA tp (ix tm) i)), rfl, (by exact mtok_0 hc hl120 hsi hiN), by dsimp only; rw [ht]; exact hP⟩, hS.F ht⟩) hS.2.2 dX6_advance_281
            · skip
              have c_26n := (cmp_eq (a := 0) (b := 2) rfl rfl (by omega) (by omega)).mp c_26
              exact absurd c_26 (by decide)
          · skip
            have c_25n := (cmp_eq (a := 0) (b := 1) rfl rfl (by omega) (by omega)).mp c_25
            exact absurd c_25 (by decide)
        · skip
          have c_24n := (cmp_eq (a := 0) (b := 3) rfl rfl (by omega) (by omega)).mp c_24
          exact absurd c_24 (by decide)
      · skip
        have c_23n := (cmp_eq (a := 0) (b := 2) rfl rfl (by omega) (by omega)).mp c_23
        exact absurd c_23 (by decide)
  · skip
    have h32 := bA_32 c_1
    refine lv_aload_n hx hb dX6_advance_21 rfl (lv_at hl 0 rfl) ?_
    refine lv_dup hx hb dX6_advance_22 rfl ?_
    refine va_get (ci := 4) (v := .int (nI i)) (C := RX6) (T := TX6) (N := 20) hx hb hts inX6 hown hK hP 0 rfl rfl 8 (by decide) f167 (fun _ h9 => h9) rfl dX6_advance_23 ?_
    refine lv_iconst (v := 1) hx hb dX6_advance_26 (by decide) ?_
    refine lv_iadd hx hb dX6_advance_27 ?_
    refine va_put (ci := 4) (v := .int ((nI i) + 1)) (ty := .int) (C := RX6) (T := TX6) (N := 20) hx hb hts inX6 tyX6 tyX6_ok nmX6 hown hK hP (hD _ rfl) hS 0 rfl rfl 8 (by decide) f167 (fun _ h9 => h9) rfl rfl rfl rfl (Nat.le_of_ble_eq_true rfl) dX6_advance_28 (fun H locs hP _ hS => ?_)
    have hP : va_P D vwCl (mdw cI cL b (enc co gu kn fo sp ki pl ea to qu) fd mo tr b1 tp tm so ((nI i) + 1) te wd va gd bo sz sh le im bf ik) H := hP
    refine lv_goto (tgt := 8) hx hb dX6_advance_31 (by decide) ?_
    have hP : va_P D vwCl (mdw cI cL b (enc co gu kn fo sp ki pl ea to qu) fd mo tr b1 tp tm so (nI (i + 1)) te wd va gd bo sz sh le im bf ik) H := by rw [← nI_1]; exact hP
    exact ih (n - 1) (by omega) (i + 1) H locs ls ⟨by omega, by omega, by rw [hi2]; exact sT_y h32.1 h32.2, hP, hS, lv_sub hl [0] rfl⟩

set_option maxRecDepth 100000 in
set_option maxHeartbeats 4000000 in
theorem k_X6_kindHere (l : Launch) (D : va_G) (cI cL cS : ClassId) (b : Nat → Nat) (co gu : Int32) (kn fo sp ki pl ea to qu : FI) (fd mo tr b1 tp : FI) (tm so bg te : Int32) (wd : Int64) (va gd : Int32) (bo sz : FI) (sh le : FJ) (im bf : FI) (ik : Int32) (cu : Nat) (hT : MTok tp (ix tm) cu so bg te wd va) : Met l yX6_kindHere wsX6_kindHere { frames := 1, cells := 0, slots := 0, locals := 22 } (PcR D vwCl (tyG cI cL cS) [.ref (b 0)] (mdw cI cL b (enc co gu kn fo sp ki pl ea to qu) fd mo tr b1 tp tm so bg te wd va gd bo sz sh le im bf ik)) (vp_Si (fun r => r = tKd tp (ix tm) cu)) 0 0 (fun _ => False) := by
  refine Met.ofW (cc := cX6_kindHere) (maxL := 1) (ret := (some .int)) (by decide) rfl ?_
  intro p e s m args below meth c s₁ B hml hv
  obtain ⟨rfl, hP, hK⟩ := hv
  have hx := B.exec
  have hb := B.bytes
  have hr := B.returns
  have hts := atoms_spec (ws := wsX6_kindHere) B.pre
  have hown : s.vm.findClass RX6 = some m.cls := findClass_of_methodNamed B.named
  have hlocks := B.notSynchronized
  have hl := lv_entry ([.ref (b 0)]) (n := 1) (Nat.le_of_ble_eq_true rfl)
  rw [lg_entry_eq]
  generalize (lg_sl ([.ref (b 0)]) ++ List.replicate (1 - (lg_sl ([.ref (b 0)])).length) Slot.unset).toArray = ls at hl ⊢
  have hl : lv_has ls 1 [(0, .ref (b 0))] := hl
  have k195 := hts (.constantLong RX6 195 (4137608)) (List.mem_of_getElem? (i := 1) rfl)
  have k201 := hts (.constantLong RX6 201 (33861013)) (List.mem_of_getElem? (i := 2) rfl)
  have k203 := hts (.constantLong RX6 203 (237058)) (List.mem_of_getElem? (i := 3) rfl)
  have k205 := hts (.constantLong RX6 205 (2949235)) (List.mem_of_getElem? (i := 4) rfl)
  have k207 := hts (.constantLong RX6 207 (32029073580)) (List.mem_of_getElem? (i := 5) rfl)
  have k209 := hts (.constantLong RX6 209 (1423850)) (List.mem_of_getElem? (i := 6) rfl)
  refine lv_aload_n hx hb dX6_kindHere_0 rfl (lv_at hl 0 rfl) ?_
  refine lv_ldc2 hx hb hown k195 dX6_kindHere_1 ?_
  refine callE (W.runV (As := [.long 4137608]) (rest := []) ⟨hx, hb, hml, hown, hts⟩ (k_X6_isWord l D cI cL cS b co gu kn fo sp ki pl ea to qu fd mo tr b1 tp tm so bg te wd va gd bo sz sh le im bf ik 4137608) (cwV 1 hts gX6_kindHere_X6_isWord rfl rfl rfl (by decide +kernel) ⟨Nat.le_of_ble_eq_true rfl, Nat.le_of_ble_eq_true rfl⟩) ⟨PcR_fb, va_recv hK hP (ci := 4) (q0 := 0) rfl rfl, PcR_pre hP hK⟩ rfl rfl hl.1 rfl (lv_room (Nat.le_of_ble_eq_true rfl)) dX6_kindHere_4 ⟨Nat.zero_le _, Nat.zero_le _⟩) ?_
  refine lv_if_eq (tgt := 14) hx hb dX6_kindHere_7 (by decide) (fun c_1 => ?_) (fun c_1 => ?_)
  · skip
    have c_1b := bI_0 c_1
    refine lv_aload_n hx hb dX6_kindHere_14 rfl (lv_at hl 0 rfl) ?_
    refine lv_ldc2 hx hb hown k201 dX6_kindHere_15 ?_
    refine callE (W.runV (As := [.long 33861013]) (rest := []) ⟨hx, hb, hml, hown, hts⟩ (k_X6_isWord l D cI cL cS b co gu kn fo sp ki pl ea to qu fd mo tr b1 tp tm so bg te wd va gd bo sz sh le im bf ik 33861013) (cwV 1 hts gX6_kindHere_X6_isWord rfl rfl rfl (by decide +kernel) ⟨Nat.le_of_ble_eq_true rfl, Nat.le_of_ble_eq_true rfl⟩) ⟨PcR_fb, va_recv hK hP (ci := 4) (q0 := 0) rfl rfl, PcR_pre hP hK⟩ rfl rfl hl.1 rfl (lv_room (Nat.le_of_ble_eq_true rfl)) dX6_kindHere_18 ⟨Nat.zero_le _, Nat.zero_le _⟩) ?_
    refine lv_if_eq (tgt := 28) hx hb dX6_kindHere_21 (by decide) (fun c_2 => ?_) (fun c_2 => ?_)
    · skip
      have c_2b := bI_0 c_2
      refine lv_aload_n hx hb dX6_kindHere_28 rfl (lv_at hl 0 rfl) ?_
      refine lv_ldc2 hx hb hown k203 dX6_kindHere_29 ?_
      refine callE (W.runV (As := [.long 237058]) (rest := []) ⟨hx, hb, hml, hown, hts⟩ (k_X6_isWord l D cI cL cS b co gu kn fo sp ki pl ea to qu fd mo tr b1 tp tm so bg te wd va gd bo sz sh le im bf ik 237058) (cwV 1 hts gX6_kindHere_X6_isWord rfl rfl rfl (by decide +kernel) ⟨Nat.le_of_ble_eq_true rfl, Nat.le_of_ble_eq_true rfl⟩) ⟨PcR_fb, va_recv hK hP (ci := 4) (q0 := 0) rfl rfl, PcR_pre hP hK⟩ rfl rfl hl.1 rfl (lv_room (Nat.le_of_ble_eq_true rfl)) dX6_kindHere_32 ⟨Nat.zero_le _, Nat.zero_le _⟩) ?_
      refine lv_if_eq (tgt := 42) hx hb dX6_kindHere_35 (by decide) (fun c_3 => ?_) (fun c_3 => ?_)
      · skip
        have c_3b := bI_0 c_3
        refine lv_aload_n hx hb dX6_kindHere_42 rfl (lv_at hl 0 rfl) ?_
        refine lv_ldc2 hx hb hown k205 dX6_kindHere_43 ?_
        refine callE (W.runV (As := [.long 2949235]) (rest := []) ⟨hx, hb, hml, hown, hts⟩ (k_X6_isWord l D cI cL cS b co gu kn fo sp ki pl ea to qu fd mo tr b1 tp tm so bg te wd va gd bo sz sh le im bf ik 2949235) (cwV 1 hts gX6_kindHere_X6_isWord rfl rfl rfl (by decide +kernel) ⟨Nat.le_of_ble_eq_true rfl, Nat.le_of_ble_eq_true rfl⟩) ⟨PcR_fb, va_recv hK hP (ci := 4) (q0 := 0) rfl rfl, PcR_pre hP hK⟩ rfl rfl hl.1 rfl (lv_room (Nat.le_of_ble_eq_true rfl)) dX6_kindHere_46 ⟨Nat.zero_le _, Nat.zero_le _⟩) ?_
        refine lv_if_eq (tgt := 56) hx hb dX6_kindHere_49 (by decide) (fun c_4 => ?_) (fun c_4 => ?_)
        · skip
          have c_4b := bI_0 c_4
          refine lv_aload_n hx hb dX6_kindHere_56 rfl (lv_at hl 0 rfl) ?_
          refine lv_ldc2 hx hb hown k207 dX6_kindHere_57 ?_
          refine callE (W.runV (As := [.long 32029073580]) (rest := []) ⟨hx, hb, hml, hown, hts⟩ (k_X6_isWord l D cI cL cS b co gu kn fo sp ki pl ea to qu fd mo tr b1 tp tm so bg te wd va gd bo sz sh le im bf ik 32029073580) (cwV 1 hts gX6_kindHere_X6_isWord rfl rfl rfl (by decide +kernel) ⟨Nat.le_of_ble_eq_true rfl, Nat.le_of_ble_eq_true rfl⟩) ⟨PcR_fb, va_recv hK hP (ci := 4) (q0 := 0) rfl rfl, PcR_pre hP hK⟩ rfl rfl hl.1 rfl (lv_room (Nat.le_of_ble_eq_true rfl)) dX6_kindHere_60 ⟨Nat.zero_le _, Nat.zero_le _⟩) ?_
          refine lv_if_eq (tgt := 70) hx hb dX6_kindHere_63 (by decide) (fun c_5 => ?_) (fun c_5 => ?_)
          · skip
            have c_5b := bI_0 c_5
            refine lv_aload_n hx hb dX6_kindHere_70 rfl (lv_at hl 0 rfl) ?_
            refine lv_ldc2 hx hb hown k209 dX6_kindHere_71 ?_
            refine callE (W.runV (As := [.long 1423850]) (rest := []) ⟨hx, hb, hml, hown, hts⟩ (k_X6_isWord l D cI cL cS b co gu kn fo sp ki pl ea to qu fd mo tr b1 tp tm so bg te wd va gd bo sz sh le im bf ik 1423850) (cwV 1 hts gX6_kindHere_X6_isWord rfl rfl rfl (by decide +kernel) ⟨Nat.le_of_ble_eq_true rfl, Nat.le_of_ble_eq_true rfl⟩) ⟨PcR_fb, va_recv hK hP (ci := 4) (q0 := 0) rfl rfl, PcR_pre hP hK⟩ rfl rfl hl.1 rfl (lv_room (Nat.le_of_ble_eq_true rfl)) dX6_kindHere_74 ⟨Nat.zero_le _, Nat.zero_le _⟩) ?_
            refine lv_if_eq (tgt := 84) hx hb dX6_kindHere_77 (by decide) (fun c_6 => ?_) (fun c_6 => ?_)
            · skip
              have c_6b := bI_0 c_6
              refine lv_iconst (v := (-1)) hx hb dX6_kindHere_84 (by decide) ?_
              exact W.iret hx hb hr (fun t ht hW => ⟨_, rfl, (by rw [tKd_eq, iF_f (mt (hT.w (i := 0) (by decide)).mpr c_1b), iF_f (mt (hT.w (i := 1) (by decide)).mpr c_2b), iF_f (mt (hT.w (i := 2) (by decide)).mpr c_3b), iF_f (mt (hT.w (i := 3) (by decide)).mpr c_4b), iF_f (mt (hT.w (i := 4) (by decide)).mpr c_5b), iF_f (mt (hT.w (i := 5) (by decide)).mpr c_6b)]), ht⟩) (fun _ h => absurd h List.not_mem_nil) dX6_kindHere_85
            · skip
              have c_6b := bI_n c_6
              refine lv_iconst (v := 5) hx hb dX6_kindHere_80 (by decide) ?_
              refine lv_goto (tgt := 85) hx hb dX6_kindHere_81 (by decide) ?_
              exact W.iret hx hb hr (fun t ht hW => ⟨_, rfl, (by rw [tKd_eq, iF_f (mt (hT.w (i := 0) (by decide)).mpr c_1b), iF_f (mt (hT.w (i := 1) (by decide)).mpr c_2b), iF_f (mt (hT.w (i := 2) (by decide)).mpr c_3b), iF_f (mt (hT.w (i := 3) (by decide)).mpr c_4b), iF_f (mt (hT.w (i := 4) (by decide)).mpr c_5b), iF_t ((hT.w (i := 5) (by decide)).mp c_6b)]), ht⟩) (fun _ h => absurd h List.not_mem_nil) dX6_kindHere_85
          · skip
            have c_5b := bI_n c_5
            refine lv_iconst (v := 4) hx hb dX6_kindHere_66 (by decide) ?_
            refine lv_goto (tgt := 85) hx hb dX6_kindHere_67 (by decide) ?_
            exact W.iret hx hb hr (fun t ht hW => ⟨_, rfl, (by rw [tKd_eq, iF_f (mt (hT.w (i := 0) (by decide)).mpr c_1b), iF_f (mt (hT.w (i := 1) (by decide)).mpr c_2b), iF_f (mt (hT.w (i := 2) (by decide)).mpr c_3b), iF_f (mt (hT.w (i := 3) (by decide)).mpr c_4b), iF_t ((hT.w (i := 4) (by decide)).mp c_5b)]), ht⟩) (fun _ h => absurd h List.not_mem_nil) dX6_kindHere_85
        · skip
          have c_4b := bI_n c_4
          refine lv_iconst (v := 3) hx hb dX6_kindHere_52 (by decide) ?_
          refine lv_goto (tgt := 85) hx hb dX6_kindHere_53 (by decide) ?_
          exact W.iret hx hb hr (fun t ht hW => ⟨_, rfl, (by rw [tKd_eq, iF_f (mt (hT.w (i := 0) (by decide)).mpr c_1b), iF_f (mt (hT.w (i := 1) (by decide)).mpr c_2b), iF_f (mt (hT.w (i := 2) (by decide)).mpr c_3b), iF_t ((hT.w (i := 3) (by decide)).mp c_4b)]), ht⟩) (fun _ h => absurd h List.not_mem_nil) dX6_kindHere_85
      · skip
        have c_3b := bI_n c_3
        refine lv_iconst (v := 2) hx hb dX6_kindHere_38 (by decide) ?_
        refine lv_goto (tgt := 85) hx hb dX6_kindHere_39 (by decide) ?_
        exact W.iret hx hb hr (fun t ht hW => ⟨_, rfl, (by rw [tKd_eq, iF_f (mt (hT.w (i := 0) (by decide)).mpr c_1b), iF_f (mt (hT.w (i := 1) (by decide)).mpr c_2b), iF_t ((hT.w (i := 2) (by decide)).mp c_3b)]), ht⟩) (fun _ h => absurd h List.not_mem_nil) dX6_kindHere_85
    · skip
      have c_2b := bI_n c_2
      refine lv_iconst (v := 1) hx hb dX6_kindHere_24 (by decide) ?_
      refine lv_goto (tgt := 85) hx hb dX6_kindHere_25 (by decide) ?_
      exact W.iret hx hb hr (fun t ht hW => ⟨_, rfl, (by rw [tKd_eq, iF_f (mt (hT.w (i := 0) (by decide)).mpr c_1b), iF_t ((hT.w (i := 1) (by decide)).mp c_2b)]), ht⟩) (fun _ h => absurd h List.not_mem_nil) dX6_kindHere_85
  · skip
    have c_1b := bI_n c_1
    refine lv_iconst (v := 0) hx hb dX6_kindHere_10 (by decide) ?_
    refine lv_goto (tgt := 85) hx hb dX6_kindHere_11 (by decide) ?_
    exact W.iret hx hb hr (fun t ht hW => ⟨_, rfl, (by rw [tKd_eq, iF_t ((hT.w (i := 0) (by decide)).mp c_1b)]), ht⟩) (fun _ h => absurd h List.not_mem_nil) dX6_kindHere_85

set_option maxRecDepth 100000 in
set_option maxHeartbeats 4000000 in
theorem k_X6_wantNumber1 (l : Launch) (D : va_G) (cI cL cS : ClassId) (b : Nat → Nat) (co gu : Int32) (kn fo sp ki pl ea to qu : FI) (fd : FI) (mo : FI) (tr : FI) (b1 : FI) (tp : FI) (tm : Int32) (so : Int32) (bg : Int32) (te : Int32) (wd : Int64) (va : Int32) (bo : FI) (sz : FI) (sh : FJ) (le : FJ) (im : FI) (bf : FI) (ik : Int32) (cu : Nat) (bd : Int32) (x1 : Int32) (dj : va_D (fun _ => True) (dj0 b 13)) (hbd : vp_in bd 11) (hm : x1 = bd - 1) (ol : vp_in tm 121) (hB : ∀ j, j < ix tm → ¬ tp j < 0) (hT : MTok tp (ix tm) cu so bg te wd va) : Met l yX6_wantNumber wsX6_wantNumber { frames := 3, cells := 0, slots := 0, locals := 63 } (PcR D vwCl (tyG cI cL cS) [.ref (b 0), .int 0, .int x1] (mdw cI cL b (enc co gu kn fo sp ki pl ea to qu) fd mo tr b1 tp tm so bg te wd va 1 bo sz sh le im bf ik)) (va_Qi (fun (r : Int32) (u : Int32 × Int32 × Int32 × Int32 × Int64 × Int32) => r = va ∧ u.1 = bI (isN tp (ix tm) cu bd) ∧ MTok tp (ix tm) (iF (isN tp (ix tm) cu bd) (eN tp (ix tm) cu) cu) u.2.1 u.2.2.1 u.2.2.2.1 u.2.2.2.2.1 u.2.2.2.2.2) (fun u t => va_P D vwCl (mdw cI cL b (enc co gu kn fo sp ki pl ea to qu) fd mo tr b1 tp tm u.2.1 u.2.2.1 u.2.2.2.1 u.2.2.2.2.1 u.2.2.2.2.2 u.1 bo sz sh le im bf ik) t.heap) (Aof (mdw cI cL b (enc co gu kn fo sp ki pl ea to qu) fd mo tr b1 tp tm so bg te wd va 1 bo sz sh le im bf ik))) 0 0 (Aof (mdw cI cL b (enc co gu kn fo sp ki pl ea to qu) fd mo tr b1 tp tm so bg te wd va 1 bo sz sh le im bf ik)) := by
  refine Met.ofW (cc := cX6_wantNumber) (maxL := 4) (ret := (some .int)) (by decide) rfl ?_
  intro p e s m args below meth c s₁ B hml hv
  obtain ⟨rfl, hP, hK⟩ := hv
  have hx := B.exec
  have hb := B.bytes
  have hr := B.returns
  have hts := atoms_spec (ws := wsX6_wantNumber) B.pre
  have hown : s.vm.findClass RX6 = some m.cls := findClass_of_methodNamed B.named
  have hlocks := B.notSynchronized
  obtain ⟨A, hAe⟩ : ∃ A, A = Aof (mdw cI cL b (enc co gu kn fo sp ki pl ea to qu) fd mo tr b1 tp tm so bg te wd va 1 bo sz sh le im bf ik) := ⟨_, rfl⟩
  rw [← hAe]
  have hD : ∀ ws' : va_W, ws'.map Prod.fst = (mdw cI cL b (enc co gu kn fo sp ki pl ea to qu) fd mo tr b1 tp tm so bg te wd va 1 bo sz sh le im bf ik).map Prod.fst → va_D A ws' := fun ws' e => by rw [hAe]; exact va_D_adr (va_D_self (va_D_adr dj rfl)) e
  have hS : va_S A s.heap s.heap [] := va_S.rf
  have hP : va_P D vwCl (mdw cI cL b (enc co gu kn fo sp ki pl ea to qu) fd mo tr b1 tp tm so bg te wd va 1 bo sz sh le im bf ik) s.heap := hP
  have hl := lv_entry ([.ref (b 0), .int 0, .int x1]) (n := 4) (Nat.le_of_ble_eq_true rfl)
  rw [lg_entry_eq]
  generalize (lg_sl ([.ref (b 0), .int 0, .int x1]) ++ List.replicate (4 - (lg_sl ([.ref (b 0), .int 0, .int x1])).length) Slot.unset).toArray = ls at hl ⊢
  have hl : lv_has ls 4 [(0, .ref (b 0)), (1, .int 0), (2, .int x1)] := hl
  have f186 := hts (.fieldLink RX6 186 "KnivesLaidModel" "value" "I") (List.mem_of_getElem? (i := 1) rfl)
  have inX6 : ∀ w ∈ u_ws RX6 TX6 20, w ∈ wsX6_wantNumber := in_at 30 _ _ rfl
  have f211 := hts (.fieldLink RX6 211 "KnivesLaidModel" "good" "Z") (List.mem_of_getElem? (i := 2) rfl)
  have f179 := hts (.fieldLink RX6 179 "KnivesLaidModel" "sort" "I") (List.mem_of_getElem? (i := 3) rfl)
  skip
  refine lv_aload_n hx hb dX6_wantNumber_0 rfl (lv_at hl 0 rfl) ?_
  refine va_get (ci := 4) (v := .int va) (C := RX6) (T := TX6) (N := 20) hx hb hts inX6 hown hK hP 0 rfl rfl 11 (by decide) f186 (fun _ h9 => h9) rfl dX6_wantNumber_1 ?_
  refine lv_istore_n (lv' := [(3, .int va), (0, .ref (b 0)), (1, .int 0), (2, .int x1)]) hx hb dX6_wantNumber_4 rfl hl (by decide) rfl (fun ls hl => ?_)
  refine lv_aload_n hx hb dX6_wantNumber_5 rfl (lv_at hl 1 rfl) ?_
  refine lv_aload_n hx hb dX6_wantNumber_6 rfl (lv_at hl 1 rfl) ?_
  refine va_get (ci := 4) (v := .int 1) (C := RX6) (T := TX6) (N := 20) hx hb hts inX6 hown hK hP 0 rfl rfl 12 (by decide) f211 (fun _ h9 => h9) rfl dX6_wantNumber_7 ?_
  refine lv_if_eq (tgt := 34) hx hb dX6_wantNumber_10 (by decide) (fun c_1 => ?_) (fun c_1 => ?_)
  · skip
    have c_1n := (cmp_eq (a := 1) (b := 0) rfl rfl (by omega) (by omega)).mp c_1
    exact absurd c_1 (by decide)
  · skip
    have c_1n := mt (cmp_eq (a := 1) (b := 0) rfl rfl (by omega) (by omega)).mpr c_1
    refine lv_aload_n hx hb dX6_wantNumber_13 rfl (lv_at hl 1 rfl) ?_
    refine va_get (ci := 4) (v := .int so) (C := RX6) (T := TX6) (N := 20) hx hb hts inX6 hown hK hP 0 rfl rfl 7 (by decide) f179 (fun _ h9 => h9) rfl dX6_wantNumber_14 ?_
    refine lv_iconst (v := 2) hx hb dX6_wantNumber_17 (by decide) ?_
    refine lv_icmp_ne (tgt := 34) hx hb dX6_wantNumber_18 (by decide) (fun c_2 => ?_) (fun c_2 => ?_)
    · skip
      have hN : ¬ isN tp (ix tm) cu bd := fun h => c_2 ((hT.n hbd).mpr h).1
      refine lv_iconst (v := 0) hx hb dX6_wantNumber_34 (by decide) ?_
      refine va_put (ci := 4) (v := .int 0) (ty := .boolean) (C := RX6) (T := TX6) (N := 20) hx hb hts inX6 tyX6 tyX6_ok nmX6 hown hK hP (hD _ rfl) hS 0 rfl rfl 12 (by decide) f211 (fun _ h9 => h9) rfl rfl rfl rfl (Nat.le_of_ble_eq_true rfl) dX6_wantNumber_35 (fun H locs hP _ hS => ?_)
      have hP : va_P D vwCl (mdw cI cL b (enc co gu kn fo sp ki pl ea to qu) fd mo tr b1 tp tm so bg te wd va 0 bo sz sh le im bf ik) H := hP
      refine lv_aload_n hx hb dX6_wantNumber_38 rfl (lv_at hl 1 rfl) ?_
      refine va_get (ci := 4) (v := .int 0) (C := RX6) (T := TX6) (N := 20) hx hb hts inX6 hown hK hP 0 rfl rfl 12 (by decide) f211 (fun _ h9 => h9) rfl dX6_wantNumber_39 ?_
      refine lv_if_eq (tgt := 49) hx hb dX6_wantNumber_42 (by decide) (fun c_3 => ?_) (fun c_3 => ?_)
      · skip
        have c_3n := (cmp_eq (a := 0) (b := 0) rfl rfl (by omega) (by omega)).mp c_3
        refine lv_iload_n hx hb dX6_wantNumber_49 rfl (lv_at hl 0 rfl) ?_
        exact W.iret hx hb hr (fun t ht hW => ⟨⟨_, (0, so, bg, te, wd, va), rfl, (by exact ⟨rfl, (bI_f hN).symm, (iF_f hN).symm ▸ hT⟩), by dsimp only; rw [ht]; exact hP⟩, hS.F ht⟩) hS.2.2 dX6_wantNumber_50
      · skip
        have c_3n := mt (cmp_eq (a := 0) (b := 0) rfl rfl (by omega) (by omega)).mpr c_3
        exact absurd (by decide) c_3
    · skip
      refine lv_iload_n hx hb dX6_wantNumber_21 rfl (lv_at hl 0 rfl) ?_
      refine lv_iload_n hx hb dX6_wantNumber_22 rfl (lv_at hl 2 rfl) ?_
      refine lv_iload_n hx hb dX6_wantNumber_23 rfl (lv_at hl 3 rfl) ?_
      refine callE (W.runS (As := [.int va, .int 0, .int x1]) (rest := [.ref (b 0)]) ⟨hx, hb, hml, hown, hts⟩ (k_X6_in l va 0 x1) (va_cwS 3 hts gX6_wantNumber_X6_in rfl rfl rfl (by decide +kernel) ⟨Nat.le_of_ble_eq_true rfl, Nat.le_of_ble_eq_true rfl⟩) ⟨PcP_fb, fun U _ _ => ⟨rfl, trivial⟩⟩ rfl rfl hl.1 rfl (lv_room (Nat.le_of_ble_eq_true rfl)) dX6_wantNumber_24 ⟨Nat.zero_le _, Nat.zero_le _⟩) ?_
      refine lv_if_eq (tgt := 34) hx hb dX6_wantNumber_27 (by decide) (fun c_4 => ?_) (fun c_4 => ?_)
      · skip
        have c_4b := bI_0 c_4
        have hN : ¬ isN tp (ix tm) cu bd := fun h => c_4b ⟨((hT.n hbd).mpr h).2.1, hm ▸ ((hT.n hbd).mpr h).2.2⟩
        refine lv_iconst (v := 0) hx hb dX6_wantNumber_34 (by decide) ?_
        refine va_put (ci := 4) (v := .int 0) (ty := .boolean) (C := RX6) (T := TX6) (N := 20) hx hb hts inX6 tyX6 tyX6_ok nmX6 hown hK hP (hD _ rfl) hS 0 rfl rfl 12 (by decide) f211 (fun _ h9 => h9) rfl rfl rfl rfl (Nat.le_of_ble_eq_true rfl) dX6_wantNumber_35 (fun H locs hP _ hS => ?_)
        have hP : va_P D vwCl (mdw cI cL b (enc co gu kn fo sp ki pl ea to qu) fd mo tr b1 tp tm so bg te wd va 0 bo sz sh le im bf ik) H := hP
        refine lv_aload_n hx hb dX6_wantNumber_38 rfl (lv_at hl 1 rfl) ?_
        refine va_get (ci := 4) (v := .int 0) (C := RX6) (T := TX6) (N := 20) hx hb hts inX6 hown hK hP 0 rfl rfl 12 (by decide) f211 (fun _ h9 => h9) rfl dX6_wantNumber_39 ?_
        refine lv_if_eq (tgt := 49) hx hb dX6_wantNumber_42 (by decide) (fun c_5 => ?_) (fun c_5 => ?_)
        · skip
          have c_5n := (cmp_eq (a := 0) (b := 0) rfl rfl (by omega) (by omega)).mp c_5
          refine lv_iload_n hx hb dX6_wantNumber_49 rfl (lv_at hl 0 rfl) ?_
          exact W.iret hx hb hr (fun t ht hW => ⟨⟨_, (0, so, bg, te, wd, va), rfl, (by exact ⟨rfl, (bI_f hN).symm, (iF_f hN).symm ▸ hT⟩), by dsimp only; rw [ht]; exact hP⟩, hS.F ht⟩) hS.2.2 dX6_wantNumber_50
        · skip
          have c_5n := mt (cmp_eq (a := 0) (b := 0) rfl rfl (by omega) (by omega)).mpr c_5
          exact absurd (by decide) c_5
      · skip
        have c_4b := bI_n c_4
        have hN : isN tp (ix tm) cu bd := (hT.n hbd).mp ⟨c_2, c_4b.1, hm ▸ c_4b.2⟩
        refine lv_iconst (v := 1) hx hb dX6_wantNumber_30 (by decide) ?_
        refine lv_goto (tgt := 35) hx hb dX6_wantNumber_31 (by decide) ?_
        refine va_put (ci := 4) (v := .int 1) (ty := .boolean) (C := RX6) (T := TX6) (N := 20) hx hb hts inX6 tyX6 tyX6_ok nmX6 hown hK hP (hD _ rfl) hS 0 rfl rfl 12 (by decide) f211 (fun _ h9 => h9) rfl rfl rfl rfl (Nat.le_of_ble_eq_true rfl) dX6_wantNumber_35 (fun H locs hP _ hS => ?_)
        have hP : va_P D vwCl (mdw cI cL b (enc co gu kn fo sp ki pl ea to qu) fd mo tr b1 tp tm so bg te wd va 1 bo sz sh le im bf ik) H := hP
        refine lv_aload_n hx hb dX6_wantNumber_38 rfl (lv_at hl 1 rfl) ?_
        refine va_get (ci := 4) (v := .int 1) (C := RX6) (T := TX6) (N := 20) hx hb hts inX6 hown hK hP 0 rfl rfl 12 (by decide) f211 (fun _ h9 => h9) rfl dX6_wantNumber_39 ?_
        refine lv_if_eq (tgt := 49) hx hb dX6_wantNumber_42 (by decide) (fun c_6 => ?_) (fun c_6 => ?_)
        · skip
          have c_6n := (cmp_eq (a := 1) (b := 0) rfl rfl (by omega) (by omega)).mp c_6
          exact absurd c_6 (by decide)
        · skip
          have c_6n := mt (cmp_eq (a := 1) (b := 0) rfl rfl (by omega) (by omega)).mpr c_6
          refine lv_aload_n hx hb dX6_wantNumber_45 rfl (lv_at hl 1 rfl) ?_
          refine callMv (va_runV (As := []) (rest := []) ⟨hx, hb, hml, hown, hts⟩ (k_X6_advance l D cI cL cS b co gu kn fo sp ki pl ea to qu fd mo tr b1 tp tm so bg te wd va 1 bo sz sh le im bf ik (va_DT (hD _ rfl) rfl) (eN tp (ix tm) cu) ol hB hT.2.2.1 hT.le.2.2.1) (cwV 0 hts gX6_wantNumber_X6_advance rfl rfl rfl (by decide +kernel) ⟨Nat.le_of_ble_eq_true rfl, Nat.le_of_ble_eq_true rfl⟩) ⟨PcR_fb, va_recv hK hP (ci := 4) (q0 := 0) rfl rfl, PcR_pre hP hK⟩ rfl rfl hl.1 rfl (lv_room (Nat.le_of_ble_eq_true rfl)) dX6_wantNumber_46 ⟨Nat.zero_le _, Nat.zero_le _⟩) hP (hD _ rfl) hS 0 13 rfl (fun u_7 H locs hu_7 hP hS => ?_)
          obtain ⟨so_9, bg_10, te_11, wd_12, va_13⟩ := u_7
          have hu_7 : MTok tp (ix tm) (eN tp (ix tm) cu) so_9 bg_10 te_11 wd_12 va_13 := hu_7
          have hT := hu_7
          have hP : va_P D vwCl (mdw cI cL b (enc co gu kn fo sp ki pl ea to qu) fd mo tr b1 tp tm so_9 bg_10 te_11 wd_12 va_13 1 bo sz sh le im bf ik) H := hP
          refine lv_iload_n hx hb dX6_wantNumber_49 rfl (lv_at hl 0 rfl) ?_
          exact W.iret hx hb hr (fun t ht hW => ⟨⟨_, (1, so_9, bg_10, te_11, wd_12, va_13), rfl, (by exact ⟨rfl, (bI_t hN).symm, (iF_t hN).symm ▸ hT⟩), by dsimp only; rw [ht]; exact hP⟩, hS.F ht⟩) hS.2.2 dX6_wantNumber_50

set_option maxRecDepth 100000 in
set_option maxHeartbeats 4000000 in
theorem k_X6_wantNumber0 (l : Launch) (D : va_G) (cI cL cS : ClassId) (b : Nat → Nat) (co gu : Int32) (kn fo sp ki pl ea to qu : FI) (fd : FI) (mo : FI) (tr : FI) (b1 : FI) (tp : FI) (tm : Int32) (so : Int32) (bg : Int32) (te : Int32) (wd : Int64) (va : Int32) (bo : FI) (sz : FI) (sh : FJ) (le : FJ) (im : FI) (bf : FI) (ik : Int32) (cu : Nat) (x1 : Int32) (dj : va_D (fun _ => True) (dj0 b 13))  : Met l yX6_wantNumber wsX6_wantNumber { frames := 0, cells := 0, slots := 0, locals := 0 } (PcR D vwCl (tyG cI cL cS) [.ref (b 0), .int 0, .int x1] (mdw cI cL b (enc co gu kn fo sp ki pl ea to qu) fd mo tr b1 tp tm so bg te wd va 0 bo sz sh le im bf ik)) (va_Qi (fun (r : Int32) (u : Unit) => r = va) (fun u t => va_P D vwCl (mdw cI cL b (enc co gu kn fo sp ki pl ea to qu) fd mo tr b1 tp tm so bg te wd va 0 bo sz sh le im bf ik) t.heap) (Aof (mdw cI cL b (enc co gu kn fo sp ki pl ea to qu) fd mo tr b1 tp tm so bg te wd va 0 bo sz sh le im bf ik))) 0 0 (Aof (mdw cI cL b (enc co gu kn fo sp ki pl ea to qu) fd mo tr b1 tp tm so bg te wd va 0 bo sz sh le im bf ik)) := by
  refine Met.ofW (cc := cX6_wantNumber) (maxL := 4) (ret := (some .int)) (by decide) rfl ?_
  intro p e s m args below meth c s₁ B hml hv
  obtain ⟨rfl, hP, hK⟩ := hv
  have hx := B.exec
  have hb := B.bytes
  have hr := B.returns
  have hts := atoms_spec (ws := wsX6_wantNumber) B.pre
  have hown : s.vm.findClass RX6 = some m.cls := findClass_of_methodNamed B.named
  have hlocks := B.notSynchronized
  obtain ⟨A, hAe⟩ : ∃ A, A = Aof (mdw cI cL b (enc co gu kn fo sp ki pl ea to qu) fd mo tr b1 tp tm so bg te wd va 0 bo sz sh le im bf ik) := ⟨_, rfl⟩
  rw [← hAe]
  have hD : ∀ ws' : va_W, ws'.map Prod.fst = (mdw cI cL b (enc co gu kn fo sp ki pl ea to qu) fd mo tr b1 tp tm so bg te wd va 0 bo sz sh le im bf ik).map Prod.fst → va_D A ws' := fun ws' e => by rw [hAe]; exact va_D_adr (va_D_self (va_D_adr dj rfl)) e
  have hS : va_S A s.heap s.heap [] := va_S.rf
  have hP : va_P D vwCl (mdw cI cL b (enc co gu kn fo sp ki pl ea to qu) fd mo tr b1 tp tm so bg te wd va 0 bo sz sh le im bf ik) s.heap := hP
  have hl := lv_entry ([.ref (b 0), .int 0, .int x1]) (n := 4) (Nat.le_of_ble_eq_true rfl)
  rw [lg_entry_eq]
  generalize (lg_sl ([.ref (b 0), .int 0, .int x1]) ++ List.replicate (4 - (lg_sl ([.ref (b 0), .int 0, .int x1])).length) Slot.unset).toArray = ls at hl ⊢
  have hl : lv_has ls 4 [(0, .ref (b 0)), (1, .int 0), (2, .int x1)] := hl
  have f186 := hts (.fieldLink RX6 186 "KnivesLaidModel" "value" "I") (List.mem_of_getElem? (i := 1) rfl)
  have inX6 : ∀ w ∈ u_ws RX6 TX6 20, w ∈ wsX6_wantNumber := in_at 30 _ _ rfl
  have f211 := hts (.fieldLink RX6 211 "KnivesLaidModel" "good" "Z") (List.mem_of_getElem? (i := 2) rfl)
  skip
  refine lv_aload_n hx hb dX6_wantNumber_0 rfl (lv_at hl 0 rfl) ?_
  refine va_get (ci := 4) (v := .int va) (C := RX6) (T := TX6) (N := 20) hx hb hts inX6 hown hK hP 0 rfl rfl 11 (by decide) f186 (fun _ h9 => h9) rfl dX6_wantNumber_1 ?_
  refine lv_istore_n (lv' := [(3, .int va), (0, .ref (b 0)), (1, .int 0), (2, .int x1)]) hx hb dX6_wantNumber_4 rfl hl (by decide) rfl (fun ls hl => ?_)
  refine lv_aload_n hx hb dX6_wantNumber_5 rfl (lv_at hl 1 rfl) ?_
  refine lv_aload_n hx hb dX6_wantNumber_6 rfl (lv_at hl 1 rfl) ?_
  refine va_get (ci := 4) (v := .int 0) (C := RX6) (T := TX6) (N := 20) hx hb hts inX6 hown hK hP 0 rfl rfl 12 (by decide) f211 (fun _ h9 => h9) rfl dX6_wantNumber_7 ?_
  refine lv_if_eq (tgt := 34) hx hb dX6_wantNumber_10 (by decide) (fun c_1 => ?_) (fun c_1 => ?_)
  · skip
    have c_1n := (cmp_eq (a := 0) (b := 0) rfl rfl (by omega) (by omega)).mp c_1
    refine lv_iconst (v := 0) hx hb dX6_wantNumber_34 (by decide) ?_
    refine va_put (ci := 4) (v := .int 0) (ty := .boolean) (C := RX6) (T := TX6) (N := 20) hx hb hts inX6 tyX6 tyX6_ok nmX6 hown hK hP (hD _ rfl) hS 0 rfl rfl 12 (by decide) f211 (fun _ h9 => h9) rfl rfl rfl rfl (Nat.le_of_ble_eq_true rfl) dX6_wantNumber_35 (fun H locs hP _ hS => ?_)
    have hP : va_P D vwCl (mdw cI cL b (enc co gu kn fo sp ki pl ea to qu) fd mo tr b1 tp tm so bg te wd va 0 bo sz sh le im bf ik) H := hP
    refine lv_aload_n hx hb dX6_wantNumber_38 rfl (lv_at hl 1 rfl) ?_
    refine va_get (ci := 4) (v := .int 0) (C := RX6) (T := TX6) (N := 20) hx hb hts inX6 hown hK hP 0 rfl rfl 12 (by decide) f211 (fun _ h9 => h9) rfl dX6_wantNumber_39 ?_
    refine lv_if_eq (tgt := 49) hx hb dX6_wantNumber_42 (by decide) (fun c_2 => ?_) (fun c_2 => ?_)
    · skip
      have c_2n := (cmp_eq (a := 0) (b := 0) rfl rfl (by omega) (by omega)).mp c_2
      refine lv_iload_n hx hb dX6_wantNumber_49 rfl (lv_at hl 0 rfl) ?_
      exact W.iret hx hb hr (fun t ht hW => ⟨⟨_, (), rfl, (by rfl), by dsimp only; rw [ht]; exact hP⟩, hS.F ht⟩) hS.2.2 dX6_wantNumber_50
    · skip
      have c_2n := mt (cmp_eq (a := 0) (b := 0) rfl rfl (by omega) (by omega)).mpr c_2
      exact absurd (by decide) c_2
  · skip
    have c_1n := mt (cmp_eq (a := 0) (b := 0) rfl rfl (by omega) (by omega)).mpr c_1
    exact absurd (by decide) c_1

set_option maxRecDepth 100000 in
set_option maxHeartbeats 4000000 in
theorem k_X6_may1 (l : Launch) (D : va_G) (cI cL cS : ClassId) (b : Nat → Nat) (co gu : Int32) (kn fo sp ki pl ea to qu : FI) (fd : FI) (mo : FI) (tr : FI) (b1 : FI) (tp : FI) (tm : Int32) (so : Int32) (bg : Int32) (te : Int32) (wd : Int64) (va : Int32) (bo : FI) (sz : FI) (sh : FJ) (le : FJ) (im : FI) (bf : FI) (ik : Int32) (cu : Nat) (i : Nat) (x0 : Int64) (dj : va_D (fun _ => True) (dj0 b 13)) (hi : i < 11) (hw : x0 = lN (codS.getD i 0)) (ol : vp_in tm 121) (hB : ∀ j, j < ix tm → ¬ tp j < 0) (hT : MTok tp (ix tm) cu so bg te wd va) : Met l yX6_may wsX6_may { frames := 3, cells := 0, slots := 0, locals := 63 } (PcR D vwCl (tyG cI cL cS) [.ref (b 0), .long x0] (mdw cI cL b (enc co gu kn fo sp ki pl ea to qu) fd mo tr b1 tp tm so bg te wd va 1 bo sz sh le im bf ik)) (va_Qi (fun (r : Int32) (u : Int32 × Int32 × Int32 × Int64 × Int32) => r = bI (isW tp (ix tm) cu i) ∧ MTok tp (ix tm) (tAf tp (ix tm) cu i) u.1 u.2.1 u.2.2.1 u.2.2.2.1 u.2.2.2.2) (fun u t => va_P D vwCl (mdw cI cL b (enc co gu kn fo sp ki pl ea to qu) fd mo tr b1 tp tm u.1 u.2.1 u.2.2.1 u.2.2.2.1 u.2.2.2.2 1 bo sz sh le im bf ik) t.heap) (Aof (mdw cI cL b (enc co gu kn fo sp ki pl ea to qu) fd mo tr b1 tp tm so bg te wd va 1 bo sz sh le im bf ik))) 0 0 (Aof (mdw cI cL b (enc co gu kn fo sp ki pl ea to qu) fd mo tr b1 tp tm so bg te wd va 1 bo sz sh le im bf ik)) := by
  refine Met.ofW (cc := cX6_may) (maxL := 4) (ret := (some .boolean)) (by decide) rfl ?_
  intro p e s m args below meth c s₁ B hml hv
  obtain ⟨rfl, hP, hK⟩ := hv
  have hx := B.exec
  have hb := B.bytes
  have hr := B.returns
  have hts := atoms_spec (ws := wsX6_may) B.pre
  have hown : s.vm.findClass RX6 = some m.cls := findClass_of_methodNamed B.named
  have hlocks := B.notSynchronized
  obtain ⟨A, hAe⟩ : ∃ A, A = Aof (mdw cI cL b (enc co gu kn fo sp ki pl ea to qu) fd mo tr b1 tp tm so bg te wd va 1 bo sz sh le im bf ik) := ⟨_, rfl⟩
  rw [← hAe]
  have hD : ∀ ws' : va_W, ws'.map Prod.fst = (mdw cI cL b (enc co gu kn fo sp ki pl ea to qu) fd mo tr b1 tp tm so bg te wd va 1 bo sz sh le im bf ik).map Prod.fst → va_D A ws' := fun ws' e => by rw [hAe]; exact va_D_adr (va_D_self (va_D_adr dj rfl)) e
  have hS : va_S A s.heap s.heap [] := va_S.rf
  have hP : va_P D vwCl (mdw cI cL b (enc co gu kn fo sp ki pl ea to qu) fd mo tr b1 tp tm so bg te wd va 1 bo sz sh le im bf ik) s.heap := hP
  have hl := lv_entry ([.ref (b 0), .long x0]) (n := 4) (Nat.le_of_ble_eq_true rfl)
  rw [lg_entry_eq]
  generalize (lg_sl ([.ref (b 0), .long x0]) ++ List.replicate (4 - (lg_sl ([.ref (b 0), .long x0])).length) Slot.unset).toArray = ls at hl ⊢
  have hl : lv_has ls 4 [(0, .ref (b 0)), (1, .long x0)] := hl
  have f211 := hts (.fieldLink RX6 211 "KnivesLaidModel" "good" "Z") (List.mem_of_getElem? (i := 1) rfl)
  have inX6 : ∀ w ∈ u_ws RX6 TX6 20, w ∈ wsX6_may := in_at 34 _ _ rfl
  skip
  refine lv_aload_n hx hb dX6_may_0 rfl (lv_at hl 0 rfl) ?_
  refine va_get (ci := 4) (v := .int 1) (C := RX6) (T := TX6) (N := 20) hx hb hts inX6 hown hK hP 0 rfl rfl 12 (by decide) f211 (fun _ h9 => h9) rfl dX6_may_1 ?_
  refine lv_if_eq (tgt := 19) hx hb dX6_may_4 (by decide) (fun c_1 => ?_) (fun c_1 => ?_)
  · skip
    have c_1n := (cmp_eq (a := 1) (b := 0) rfl rfl (by omega) (by omega)).mp c_1
    exact absurd c_1 (by decide)
  · skip
    have c_1n := mt (cmp_eq (a := 1) (b := 0) rfl rfl (by omega) (by omega)).mpr c_1
    refine lv_aload_n hx hb dX6_may_7 rfl (lv_at hl 0 rfl) ?_
    refine lv_lload_n hx hb dX6_may_8 rfl (lv_at hl 1 rfl) ?_
    refine callE (W.runV (As := [.long x0]) (rest := []) ⟨hx, hb, hml, hown, hts⟩ (k_X6_isWord l D cI cL cS b co gu kn fo sp ki pl ea to qu fd mo tr b1 tp tm so bg te wd va 1 bo sz sh le im bf ik x0) (cwV 1 hts gX6_may_X6_isWord rfl rfl rfl (by decide +kernel) ⟨Nat.le_of_ble_eq_true rfl, Nat.le_of_ble_eq_true rfl⟩) ⟨PcR_fb, va_recv hK hP (ci := 4) (q0 := 0) rfl rfl, PcR_pre hP hK⟩ rfl rfl hl.1 rfl (lv_room (Nat.le_of_ble_eq_true rfl)) dX6_may_9 ⟨Nat.zero_le _, Nat.zero_le _⟩) ?_
    refine lv_if_eq (tgt := 19) hx hb dX6_may_12 (by decide) (fun c_2 => ?_) (fun c_2 => ?_)
    · skip
      have c_2b := bI_0 c_2
      have hN : ¬ isW tp (ix tm) cu i := fun h => c_2b (hw ▸ (hT.w hi).mpr h)
      refine lv_iconst (v := 0) hx hb dX6_may_19 (by decide) ?_
      refine lv_istore_n (lv' := [(3, .int 0), (0, .ref (b 0)), (1, .long x0)]) hx hb dX6_may_20 rfl hl (by decide) rfl (fun ls hl => ?_)
      refine lv_iload_n hx hb dX6_may_21 rfl (lv_at hl 0 rfl) ?_
      refine lv_if_eq (tgt := 29) hx hb dX6_may_22 (by decide) (fun c_3 => ?_) (fun c_3 => ?_)
      · skip
        have c_3n := (cmp_eq (a := 0) (b := 0) rfl rfl (by omega) (by omega)).mp c_3
        refine lv_iload_n hx hb dX6_may_29 rfl (lv_at hl 0 rfl) ?_
        exact W.zret (ty := .boolean) hx hb hr rfl (fun t ht hW => ⟨⟨_, (so, bg, te, wd, va), rfl, (by exact ⟨(bI_f hN).symm, (tAf_f hN).symm ▸ hT⟩), by dsimp only; rw [ht]; exact hP⟩, hS.F ht⟩) hS.2.2 dX6_may_30
      · skip
        have c_3n := mt (cmp_eq (a := 0) (b := 0) rfl rfl (by omega) (by omega)).mpr c_3
        exact absurd (by decide) c_3
    · skip
      have c_2b := bI_n c_2
      have hN : isW tp (ix tm) cu i := (hT.w hi).mp (hw ▸ c_2b)
      refine lv_iconst (v := 1) hx hb dX6_may_15 (by decide) ?_
      refine lv_goto (tgt := 20) hx hb dX6_may_16 (by decide) ?_
      refine lv_istore_n (lv' := [(3, .int 1), (0, .ref (b 0)), (1, .long x0)]) hx hb dX6_may_20 rfl hl (by decide) rfl (fun ls hl => ?_)
      refine lv_iload_n hx hb dX6_may_21 rfl (lv_at hl 0 rfl) ?_
      refine lv_if_eq (tgt := 29) hx hb dX6_may_22 (by decide) (fun c_4 => ?_) (fun c_4 => ?_)
      · skip
        have c_4n := (cmp_eq (a := 1) (b := 0) rfl rfl (by omega) (by omega)).mp c_4
        exact absurd c_4 (by decide)
      · skip
        have c_4n := mt (cmp_eq (a := 1) (b := 0) rfl rfl (by omega) (by omega)).mpr c_4
        refine lv_aload_n hx hb dX6_may_25 rfl (lv_at hl 1 rfl) ?_
        refine callMv (va_runV (As := []) (rest := []) ⟨hx, hb, hml, hown, hts⟩ (k_X6_advance l D cI cL cS b co gu kn fo sp ki pl ea to qu fd mo tr b1 tp tm so bg te wd va 1 bo sz sh le im bf ik (va_DT (hD _ rfl) rfl) (eN tp (ix tm) cu) ol hB hT.2.2.1 hT.le.2.2.1) (cwV 0 hts gX6_may_X6_advance rfl rfl rfl (by decide +kernel) ⟨Nat.le_of_ble_eq_true rfl, Nat.le_of_ble_eq_true rfl⟩) ⟨PcR_fb, va_recv hK hP (ci := 4) (q0 := 0) rfl rfl, PcR_pre hP hK⟩ rfl rfl hl.1 rfl (lv_room (Nat.le_of_ble_eq_true rfl)) dX6_may_26 ⟨Nat.zero_le _, Nat.zero_le _⟩) hP (hD _ rfl) hS 0 13 rfl (fun u_5 H locs hu_5 hP hS => ?_)
        obtain ⟨so_7, bg_8, te_9, wd_10, va_11⟩ := u_5
        have hu_5 : MTok tp (ix tm) (eN tp (ix tm) cu) so_7 bg_8 te_9 wd_10 va_11 := hu_5
        have hT := hu_5
        have hP : va_P D vwCl (mdw cI cL b (enc co gu kn fo sp ki pl ea to qu) fd mo tr b1 tp tm so_7 bg_8 te_9 wd_10 va_11 1 bo sz sh le im bf ik) H := hP
        refine lv_iload_n hx hb dX6_may_29 rfl (lv_at hl 0 rfl) ?_
        exact W.zret (ty := .boolean) hx hb hr rfl (fun t ht hW => ⟨⟨_, (so_7, bg_8, te_9, wd_10, va_11), rfl, (by exact ⟨(bI_t hN).symm, (tAf_t hN).symm ▸ hT⟩), by dsimp only; rw [ht]; exact hP⟩, hS.F ht⟩) hS.2.2 dX6_may_30

set_option maxRecDepth 100000 in
set_option maxHeartbeats 4000000 in
theorem k_X6_may0 (l : Launch) (D : va_G) (cI cL cS : ClassId) (b : Nat → Nat) (co gu : Int32) (kn fo sp ki pl ea to qu : FI) (fd : FI) (mo : FI) (tr : FI) (b1 : FI) (tp : FI) (tm : Int32) (so : Int32) (bg : Int32) (te : Int32) (wd : Int64) (va : Int32) (bo : FI) (sz : FI) (sh : FJ) (le : FJ) (im : FI) (bf : FI) (ik : Int32) (cu : Nat) (x0 : Int64) (dj : va_D (fun _ => True) (dj0 b 13))  : Met l yX6_may wsX6_may { frames := 0, cells := 0, slots := 0, locals := 0 } (PcR D vwCl (tyG cI cL cS) [.ref (b 0), .long x0] (mdw cI cL b (enc co gu kn fo sp ki pl ea to qu) fd mo tr b1 tp tm so bg te wd va 0 bo sz sh le im bf ik)) (va_Qi (fun (r : Int32) (u : Unit) => r = 0) (fun u t => va_P D vwCl (mdw cI cL b (enc co gu kn fo sp ki pl ea to qu) fd mo tr b1 tp tm so bg te wd va 0 bo sz sh le im bf ik) t.heap) (Aof (mdw cI cL b (enc co gu kn fo sp ki pl ea to qu) fd mo tr b1 tp tm so bg te wd va 0 bo sz sh le im bf ik))) 0 0 (Aof (mdw cI cL b (enc co gu kn fo sp ki pl ea to qu) fd mo tr b1 tp tm so bg te wd va 0 bo sz sh le im bf ik)) := by
  refine Met.ofW (cc := cX6_may) (maxL := 4) (ret := (some .boolean)) (by decide) rfl ?_
  intro p e s m args below meth c s₁ B hml hv
  obtain ⟨rfl, hP, hK⟩ := hv
  have hx := B.exec
  have hb := B.bytes
  have hr := B.returns
  have hts := atoms_spec (ws := wsX6_may) B.pre
  have hown : s.vm.findClass RX6 = some m.cls := findClass_of_methodNamed B.named
  have hlocks := B.notSynchronized
  obtain ⟨A, hAe⟩ : ∃ A, A = Aof (mdw cI cL b (enc co gu kn fo sp ki pl ea to qu) fd mo tr b1 tp tm so bg te wd va 0 bo sz sh le im bf ik) := ⟨_, rfl⟩
  rw [← hAe]
  have hD : ∀ ws' : va_W, ws'.map Prod.fst = (mdw cI cL b (enc co gu kn fo sp ki pl ea to qu) fd mo tr b1 tp tm so bg te wd va 0 bo sz sh le im bf ik).map Prod.fst → va_D A ws' := fun ws' e => by rw [hAe]; exact va_D_adr (va_D_self (va_D_adr dj rfl)) e
  have hS : va_S A s.heap s.heap [] := va_S.rf
  have hP : va_P D vwCl (mdw cI cL b (enc co gu kn fo sp ki pl ea to qu) fd mo tr b1 tp tm so bg te wd va 0 bo sz sh le im bf ik) s.heap := hP
  have hl := lv_entry ([.ref (b 0), .long x0]) (n := 4) (Nat.le_of_ble_eq_true rfl)
  rw [lg_entry_eq]
  generalize (lg_sl ([.ref (b 0), .long x0]) ++ List.replicate (4 - (lg_sl ([.ref (b 0), .long x0])).length) Slot.unset).toArray = ls at hl ⊢
  have hl : lv_has ls 4 [(0, .ref (b 0)), (1, .long x0)] := hl
  have f211 := hts (.fieldLink RX6 211 "KnivesLaidModel" "good" "Z") (List.mem_of_getElem? (i := 1) rfl)
  have inX6 : ∀ w ∈ u_ws RX6 TX6 20, w ∈ wsX6_may := in_at 34 _ _ rfl
  skip
  refine lv_aload_n hx hb dX6_may_0 rfl (lv_at hl 0 rfl) ?_
  refine va_get (ci := 4) (v := .int 0) (C := RX6) (T := TX6) (N := 20) hx hb hts inX6 hown hK hP 0 rfl rfl 12 (by decide) f211 (fun _ h9 => h9) rfl dX6_may_1 ?_
  refine lv_if_eq (tgt := 19) hx hb dX6_may_4 (by decide) (fun c_1 => ?_) (fun c_1 => ?_)
  · skip
    have c_1n := (cmp_eq (a := 0) (b := 0) rfl rfl (by omega) (by omega)).mp c_1
    refine lv_iconst (v := 0) hx hb dX6_may_19 (by decide) ?_
    refine lv_istore_n (lv' := [(3, .int 0), (0, .ref (b 0)), (1, .long x0)]) hx hb dX6_may_20 rfl hl (by decide) rfl (fun ls hl => ?_)
    refine lv_iload_n hx hb dX6_may_21 rfl (lv_at hl 0 rfl) ?_
    refine lv_if_eq (tgt := 29) hx hb dX6_may_22 (by decide) (fun c_2 => ?_) (fun c_2 => ?_)
    · skip
      have c_2n := (cmp_eq (a := 0) (b := 0) rfl rfl (by omega) (by omega)).mp c_2
      refine lv_iload_n hx hb dX6_may_29 rfl (lv_at hl 0 rfl) ?_
      exact W.zret (ty := .boolean) hx hb hr rfl (fun t ht hW => ⟨⟨_, (), rfl, (by rfl), by dsimp only; rw [ht]; exact hP⟩, hS.F ht⟩) hS.2.2 dX6_may_30
    · skip
      have c_2n := mt (cmp_eq (a := 0) (b := 0) rfl rfl (by omega) (by omega)).mpr c_2
      exact absurd (by decide) c_2
  · skip
    have c_1n := mt (cmp_eq (a := 0) (b := 0) rfl rfl (by omega) (by omega)).mpr c_1
    exact absurd (by decide) c_1

set_option maxRecDepth 100000 in
set_option maxHeartbeats 4000000 in
theorem k_X6_mayWant1 (l : Launch) (D : va_G) (cI cL cS : ClassId) (b : Nat → Nat) (co gu : Int32) (kn fo sp ki pl ea to qu : FI) (fd : FI) (mo : FI) (tr : FI) (b1 : FI) (tp : FI) (tm : Int32) (so : Int32) (bg : Int32) (te : Int32) (wd : Int64) (va : Int32) (bo : FI) (sz : FI) (sh : FJ) (le : FJ) (im : FI) (bf : FI) (ik : Int32) (cu : Nat) (dj : va_D (fun _ => True) (dj0 b 13)) (ol : vp_in tm 121) (hB : ∀ j, j < ix tm → ¬ tp j < 0) (hT : MTok tp (ix tm) cu so bg te wd va) : Met l yX6_mayWant wsX6_mayWant { frames := 4, cells := 0, slots := 0, locals := 86 } (PcR D vwCl (tyG cI cL cS) [.ref (b 0), .long 10423661, .int 0, .int 9, .int 0] (mdw cI cL b (enc co gu kn fo sp ki pl ea to qu) fd mo tr b1 tp tm so bg te wd va 1 bo sz sh le im bf ik)) (va_Qi (fun (r : Int32) (u : Int32 × Int32 × Int32 × Int32 × Int64 × Int32) => MW1 tp (ix tm) cu r u.1 u.2.1 u.2.2.1 u.2.2.2.1 u.2.2.2.2.1 u.2.2.2.2.2) (fun u t => va_P D vwCl (mdw cI cL b (enc co gu kn fo sp ki pl ea to qu) fd mo tr b1 tp tm u.2.1 u.2.2.1 u.2.2.2.1 u.2.2.2.2.1 u.2.2.2.2.2 u.1 bo sz sh le im bf ik) t.heap) (Aof (mdw cI cL b (enc co gu kn fo sp ki pl ea to qu) fd mo tr b1 tp tm so bg te wd va 1 bo sz sh le im bf ik))) 0 0 (Aof (mdw cI cL b (enc co gu kn fo sp ki pl ea to qu) fd mo tr b1 tp tm so bg te wd va 1 bo sz sh le im bf ik)) := by
  refine Met.ofW (cc := cX6_mayWant) (maxL := 6) (ret := (some .int)) (by decide) rfl ?_
  intro p e s m args below meth c s₁ B hml hv
  obtain ⟨rfl, hP, hK⟩ := hv
  have hx := B.exec
  have hb := B.bytes
  have hr := B.returns
  have hts := atoms_spec (ws := wsX6_mayWant) B.pre
  have hown : s.vm.findClass RX6 = some m.cls := findClass_of_methodNamed B.named
  have hlocks := B.notSynchronized
  obtain ⟨A, hAe⟩ : ∃ A, A = Aof (mdw cI cL b (enc co gu kn fo sp ki pl ea to qu) fd mo tr b1 tp tm so bg te wd va 1 bo sz sh le im bf ik) := ⟨_, rfl⟩
  rw [← hAe]
  have hD : ∀ ws' : va_W, ws'.map Prod.fst = (mdw cI cL b (enc co gu kn fo sp ki pl ea to qu) fd mo tr b1 tp tm so bg te wd va 1 bo sz sh le im bf ik).map Prod.fst → va_D A ws' := fun ws' e => by rw [hAe]; exact va_D_adr (va_D_self (va_D_adr dj rfl)) e
  have hS : va_S A s.heap s.heap [] := va_S.rf
  have hP : va_P D vwCl (mdw cI cL b (enc co gu kn fo sp ki pl ea to qu) fd mo tr b1 tp tm so bg te wd va 1 bo sz sh le im bf ik) s.heap := hP
  have hl := lv_entry ([.ref (b 0), .long 10423661, .int 0, .int 9, .int 0]) (n := 6) (Nat.le_of_ble_eq_true rfl)
  rw [lg_entry_eq]
  generalize (lg_sl ([.ref (b 0), .long 10423661, .int 0, .int 9, .int 0]) ++ List.replicate (6 - (lg_sl ([.ref (b 0), .long 10423661, .int 0, .int 9, .int 0])).length) Slot.unset).toArray = ls at hl ⊢
  have hl : lv_has ls 6 [(0, .ref (b 0)), (1, .long 10423661), (3, .int 0), (4, .int 9), (5, .int 0)] := hl
  have f211 := hts (.fieldLink RX6 211 "KnivesLaidModel" "good" "Z") (List.mem_of_getElem? (i := 1) rfl)
  have inX6 : ∀ w ∈ u_ws RX6 TX6 20, w ∈ wsX6_mayWant := in_at 38 _ _ rfl
  skip
  refine lv_aload_n hx hb dX6_mayWant_0 rfl (lv_at hl 0 rfl) ?_
  refine va_get (ci := 4) (v := .int 1) (C := RX6) (T := TX6) (N := 20) hx hb hts inX6 hown hK hP 0 rfl rfl 12 (by decide) f211 (fun _ h9 => h9) rfl dX6_mayWant_1 ?_
  refine lv_if_eq (tgt := 15) hx hb dX6_mayWant_4 (by decide) (fun c_1 => ?_) (fun c_1 => ?_)
  · skip
    have c_1n := (cmp_eq (a := 1) (b := 0) rfl rfl (by omega) (by omega)).mp c_1
    exact absurd c_1 (by decide)
  · skip
    have c_1n := mt (cmp_eq (a := 1) (b := 0) rfl rfl (by omega) (by omega)).mpr c_1
    refine lv_aload_n hx hb dX6_mayWant_7 rfl (lv_at hl 0 rfl) ?_
    refine lv_lload_n hx hb dX6_mayWant_8 rfl (lv_at hl 1 rfl) ?_
    refine callE (W.runV (As := [.long 10423661]) (rest := []) ⟨hx, hb, hml, hown, hts⟩ (k_X6_isWord l D cI cL cS b co gu kn fo sp ki pl ea to qu fd mo tr b1 tp tm so bg te wd va 1 bo sz sh le im bf ik 10423661) (cwV 1 hts gX6_mayWant_X6_isWord rfl rfl rfl (by decide +kernel) ⟨Nat.le_of_ble_eq_true rfl, Nat.le_of_ble_eq_true rfl⟩) ⟨PcR_fb, va_recv hK hP (ci := 4) (q0 := 0) rfl rfl, PcR_pre hP hK⟩ rfl rfl hl.1 rfl (lv_room (Nat.le_of_ble_eq_true rfl)) dX6_mayWant_9 ⟨Nat.zero_le _, Nat.zero_le _⟩) ?_
    refine lv_if_ne (tgt := 18) hx hb dX6_mayWant_12 (by decide) (fun c_2 => ?_) (fun c_2 => ?_)
    · skip
      have c_2b := bI_n c_2
      have hw := (hT.w (i := 10) (by decide)).mp c_2b
      refine lv_aload_n hx hb dX6_mayWant_18 rfl (lv_at hl 0 rfl) ?_
      refine callMv (va_runV (As := []) (rest := []) ⟨hx, hb, hml, hown, hts⟩ (k_X6_advance l D cI cL cS b co gu kn fo sp ki pl ea to qu fd mo tr b1 tp tm so bg te wd va 1 bo sz sh le im bf ik (va_DT (hD _ rfl) rfl) (eN tp (ix tm) cu) ol hB hT.2.2.1 hT.le.2.2.1) (cwV 0 hts gX6_mayWant_X6_advance rfl rfl rfl (by decide +kernel) ⟨Nat.le_of_ble_eq_true rfl, Nat.le_of_ble_eq_true rfl⟩) ⟨PcR_fb, va_recv hK hP (ci := 4) (q0 := 0) rfl rfl, PcR_pre hP hK⟩ rfl rfl hl.1 rfl (lv_room (Nat.le_of_ble_eq_true rfl)) dX6_mayWant_19 ⟨Nat.zero_le _, Nat.zero_le _⟩) hP (hD _ rfl) hS 0 13 rfl (fun u_3 H locs hu_3 hP hS => ?_)
      obtain ⟨so_5, bg_6, te_7, wd_8, va_9⟩ := u_3
      have hu_3 : MTok tp (ix tm) (eN tp (ix tm) cu) so_5 bg_6 te_7 wd_8 va_9 := hu_3
      have hT := hu_3
      have hP : va_P D vwCl (mdw cI cL b (enc co gu kn fo sp ki pl ea to qu) fd mo tr b1 tp tm so_5 bg_6 te_7 wd_8 va_9 1 bo sz sh le im bf ik) H := hP
      have hT1 := hT
      refine lv_aload_n hx hb dX6_mayWant_22 rfl (lv_at hl 0 rfl) ?_
      refine lv_iload_n hx hb dX6_mayWant_23 rfl (lv_at hl 2 rfl) ?_
      refine lv_iload hx hb dX6_mayWant_24 (lv_at hl 3 rfl) ?_
      refine callMi (va_runV (As := [.int 0, .int 9]) (rest := []) ⟨hx, hb, hml, hown, hts⟩ (k_X6_wantNumber1 l D cI cL cS b co gu kn fo sp ki pl ea to qu fd mo tr b1 tp tm so_5 bg_6 te_7 wd_8 va_9 bo sz sh le im bf ik (eN tp (ix tm) cu) 10 9 (va_DT (hD _ rfl) rfl) (vp_in_iff.mpr (by decide)) (by decide) ol hB hT) (cwV 2 hts gX6_mayWant_X6_wantNumber rfl rfl rfl (by decide +kernel) ⟨Nat.le_of_ble_eq_true rfl, Nat.le_of_ble_eq_true rfl⟩) ⟨PcR_fb, va_recv hK hP (ci := 4) (q0 := 0) rfl rfl, PcR_pre hP hK⟩ rfl rfl hl.1 rfl (lv_room (Nat.le_of_ble_eq_true rfl)) dX6_mayWant_26 ⟨Nat.zero_le _, Nat.zero_le _⟩) hP (hD _ rfl) hS 0 13 rfl (fun r_11 u_10 H locs hu_10 hP hS => ?_)
      obtain ⟨gd_12, so_13, bg_14, te_15, wd_16, va_17⟩ := u_10
      have hI : r_11 = va_9 ∧ gd_12 = bI (isN tp (ix tm) (eN tp (ix tm) cu) 10) ∧ MTok tp (ix tm) (iF (isN tp (ix tm) (eN tp (ix tm) cu) 10) (eN tp (ix tm) (eN tp (ix tm) cu)) (eN tp (ix tm) cu)) so_13 bg_14 te_15 wd_16 va_17 := hu_10
      obtain ⟨hIr, hIg, hT⟩ := hI
      have hIr := hIr.symm
      subst hIr
      subst hIg
      have hP : va_P D vwCl (mdw cI cL b (enc co gu kn fo sp ki pl ea to qu) fd mo tr b1 tp tm so_13 bg_14 te_15 wd_16 va_17 (bI (isN tp (ix tm) (eN tp (ix tm) cu) 10)) bo sz sh le im bf ik) H := hP
      exact W.iret hx hb hr (fun t ht hW => ⟨⟨_, ((bI (isN tp (ix tm) (eN tp (ix tm) cu) 10)), so_13, bg_14, te_15, wd_16, va_17), rfl, (by exact mw1_y hw hT1 hT), by dsimp only; rw [ht]; exact hP⟩, hS.F ht⟩) hS.2.2 dX6_mayWant_29
    · skip
      have c_2b := bI_0 c_2
      have hw : ¬ isW tp (ix tm) cu 10 := mt (hT.w (i := 10) (by decide)).mpr c_2b
      refine lv_iload hx hb dX6_mayWant_15 (lv_at hl 4 rfl) ?_
      exact W.iret hx hb hr (fun t ht hW => ⟨⟨_, (1, so, bg, te, wd, va), rfl, (by exact mw1_n hw hT), by dsimp only; rw [ht]; exact hP⟩, hS.F ht⟩) hS.2.2 dX6_mayWant_17

set_option maxRecDepth 100000 in
set_option maxHeartbeats 4000000 in
theorem k_X6_mayWant0 (l : Launch) (D : va_G) (cI cL cS : ClassId) (b : Nat → Nat) (co gu : Int32) (kn fo sp ki pl ea to qu : FI) (fd : FI) (mo : FI) (tr : FI) (b1 : FI) (tp : FI) (tm : Int32) (so : Int32) (bg : Int32) (te : Int32) (wd : Int64) (va : Int32) (bo : FI) (sz : FI) (sh : FJ) (le : FJ) (im : FI) (bf : FI) (ik : Int32) (cu : Nat) (dj : va_D (fun _ => True) (dj0 b 13))  : Met l yX6_mayWant wsX6_mayWant { frames := 0, cells := 0, slots := 0, locals := 0 } (PcR D vwCl (tyG cI cL cS) [.ref (b 0), .long 10423661, .int 0, .int 9, .int 0] (mdw cI cL b (enc co gu kn fo sp ki pl ea to qu) fd mo tr b1 tp tm so bg te wd va 0 bo sz sh le im bf ik)) (va_Qi (fun (r : Int32) (u : Unit) => r = 0) (fun u t => va_P D vwCl (mdw cI cL b (enc co gu kn fo sp ki pl ea to qu) fd mo tr b1 tp tm so bg te wd va 0 bo sz sh le im bf ik) t.heap) (Aof (mdw cI cL b (enc co gu kn fo sp ki pl ea to qu) fd mo tr b1 tp tm so bg te wd va 0 bo sz sh le im bf ik))) 0 0 (Aof (mdw cI cL b (enc co gu kn fo sp ki pl ea to qu) fd mo tr b1 tp tm so bg te wd va 0 bo sz sh le im bf ik)) := by
  refine Met.ofW (cc := cX6_mayWant) (maxL := 6) (ret := (some .int)) (by decide) rfl ?_
  intro p e s m args below meth c s₁ B hml hv
  obtain ⟨rfl, hP, hK⟩ := hv
  have hx := B.exec
  have hb := B.bytes
  have hr := B.returns
  have hts := atoms_spec (ws := wsX6_mayWant) B.pre
  have hown : s.vm.findClass RX6 = some m.cls := findClass_of_methodNamed B.named
  have hlocks := B.notSynchronized
  obtain ⟨A, hAe⟩ : ∃ A, A = Aof (mdw cI cL b (enc co gu kn fo sp ki pl ea to qu) fd mo tr b1 tp tm so bg te wd va 0 bo sz sh le im bf ik) := ⟨_, rfl⟩
  rw [← hAe]
  have hD : ∀ ws' : va_W, ws'.map Prod.fst = (mdw cI cL b (enc co gu kn fo sp ki pl ea to qu) fd mo tr b1 tp tm so bg te wd va 0 bo sz sh le im bf ik).map Prod.fst → va_D A ws' := fun ws' e => by rw [hAe]; exact va_D_adr (va_D_self (va_D_adr dj rfl)) e
  have hS : va_S A s.heap s.heap [] := va_S.rf
  have hP : va_P D vwCl (mdw cI cL b (enc co gu kn fo sp ki pl ea to qu) fd mo tr b1 tp tm so bg te wd va 0 bo sz sh le im bf ik) s.heap := hP
  have hl := lv_entry ([.ref (b 0), .long 10423661, .int 0, .int 9, .int 0]) (n := 6) (Nat.le_of_ble_eq_true rfl)
  rw [lg_entry_eq]
  generalize (lg_sl ([.ref (b 0), .long 10423661, .int 0, .int 9, .int 0]) ++ List.replicate (6 - (lg_sl ([.ref (b 0), .long 10423661, .int 0, .int 9, .int 0])).length) Slot.unset).toArray = ls at hl ⊢
  have hl : lv_has ls 6 [(0, .ref (b 0)), (1, .long 10423661), (3, .int 0), (4, .int 9), (5, .int 0)] := hl
  have f211 := hts (.fieldLink RX6 211 "KnivesLaidModel" "good" "Z") (List.mem_of_getElem? (i := 1) rfl)
  have inX6 : ∀ w ∈ u_ws RX6 TX6 20, w ∈ wsX6_mayWant := in_at 38 _ _ rfl
  skip
  refine lv_aload_n hx hb dX6_mayWant_0 rfl (lv_at hl 0 rfl) ?_
  refine va_get (ci := 4) (v := .int 0) (C := RX6) (T := TX6) (N := 20) hx hb hts inX6 hown hK hP 0 rfl rfl 12 (by decide) f211 (fun _ h9 => h9) rfl dX6_mayWant_1 ?_
  refine lv_if_eq (tgt := 15) hx hb dX6_mayWant_4 (by decide) (fun c_1 => ?_) (fun c_1 => ?_)
  · skip
    have c_1n := (cmp_eq (a := 0) (b := 0) rfl rfl (by omega) (by omega)).mp c_1
    refine lv_iload hx hb dX6_mayWant_15 (lv_at hl 4 rfl) ?_
    exact W.iret hx hb hr (fun t ht hW => ⟨⟨_, (), rfl, (by rfl), by dsimp only; rw [ht]; exact hP⟩, hS.F ht⟩) hS.2.2 dX6_mayWant_17
  · skip
    have c_1n := mt (cmp_eq (a := 0) (b := 0) rfl rfl (by omega) (by omega)).mpr c_1
    exact absurd (by decide) c_1
