set_option maxRecDepth 100000 in
set_option maxHeartbeats 4000000 in
theorem k_X6_wantOne (l : Launch) (D : va_G) (cI cL cS : ClassId) (b : Nat → Nat) (co gu : Int32) (kn fo sp ki pl ea to qu : FI) (fd : FI) (mo : FI) (tr : FI) (b1 : FI) (tp : FI) (tm : Int32) (so : Int32) (bg : Int32) (te : Int32) (wd : Int64) (va : Int32) (gd : Int32) (bo : FI) (sz : FI) (sh : FJ) (le : FJ) (im : FI) (bf : FI) (ik : Int32) (cu : Nat) (x0 : Int32) (dj : va_D (fun _ => True) (dj0 b 13)) (ok : okT gu kn fo sp (whC gu pl) ki pl) (ol : vp_in tm 121) (hB : ∀ j, j < ix tm → ¬ tp j < 0) (hT : MTok tp (ix tm) cu so bg te wd va) : Met l yX6_wantOne wsX6_wantOne { frames := 4, cells := 0, slots := 0, locals := 86 } (PcR D vwCl (tyG cI cL cS) [.ref (b 0), .int x0] (mdw cI cL b (enc co gu kn fo sp ki pl ea to qu) fd mo tr b1 tp tm so bg te wd va gd bo sz sh le im bf ik)) (va_Qv (fun (u : Sg × Int32 × Int32 × Int32 × Int32 × Int64 × Int32) => TMo (iF (8 ≤ sGu (co, gu, kn, fo, sp, ki, pl, ea, to, qu)) (0, (co, gu, kn, fo, sp, ki, pl, ea, to, qu), cu) (tGst tp (ix tm) (co, gu, kn, fo, sp, ki, pl, ea, to, qu) x0 (eN tp (ix tm) cu))) tp (ix tm) u.2.1 u.1 u.2.2.1 u.2.2.2.1 u.2.2.2.2.1 u.2.2.2.2.2.1 u.2.2.2.2.2.2) (fun u t => va_P D vwCl (mdw cI cL b (encS u.1) fd mo tr b1 tp tm u.2.2.1 u.2.2.2.1 u.2.2.2.2.1 u.2.2.2.2.2.1 u.2.2.2.2.2.2 u.2.1 bo sz sh le im bf ik) t.heap) (Aof (mdw cI cL b (enc co gu kn fo sp ki pl ea to qu) fd mo tr b1 tp tm so bg te wd va gd bo sz sh le im bf ik))) 0 0 (Aof (mdw cI cL b (enc co gu kn fo sp ki pl ea to qu) fd mo tr b1 tp tm so bg te wd va gd bo sz sh le im bf ik)) := by
  refine Met.ofW (cc := cX6_wantOne) (maxL := 3) (ret := none) (by decide) rfl ?_
  intro p e s m args below meth c s₁ B hml hv
  obtain ⟨rfl, hP, hK⟩ := hv
  have hx := B.exec
  have hb := B.bytes
  have hr := B.returns
  have hts := atoms_spec (ws := wsX6_wantOne) B.pre
  have hown : s.vm.findClass RX6 = some m.cls := findClass_of_methodNamed B.named
  have hlocks := B.notSynchronized
  obtain ⟨A, hAe⟩ : ∃ A, A = Aof (mdw cI cL b (enc co gu kn fo sp ki pl ea to qu) fd mo tr b1 tp tm so bg te wd va gd bo sz sh le im bf ik) := ⟨_, rfl⟩
  rw [← hAe]
  have hD : ∀ ws' : va_W, ws'.map Prod.fst = (mdw cI cL b (enc co gu kn fo sp ki pl ea to qu) fd mo tr b1 tp tm so bg te wd va gd bo sz sh le im bf ik).map Prod.fst → va_D A ws' := fun ws' e => by rw [hAe]; exact va_D_adr (va_D_self (va_D_adr dj rfl)) e
  have hS : va_S A s.heap s.heap [] := va_S.rf
  have hP : va_P D vwCl (mdw cI cL b (enc co gu kn fo sp ki pl ea to qu) fd mo tr b1 tp tm so bg te wd va gd bo sz sh le im bf ik) s.heap := hP
  have hl := lv_entry ([.ref (b 0), .int x0]) (n := 3) (Nat.le_of_ble_eq_true rfl)
  rw [lg_entry_eq]
  generalize (lg_sl ([.ref (b 0), .int x0]) ++ List.replicate (3 - (lg_sl ([.ref (b 0), .int x0])).length) Slot.unset).toArray = ls at hl ⊢
  have hl : lv_has ls 3 [(0, .ref (b 0)), (1, .int x0)] := hl
  have f7 := hts (.fieldLink RX6 7 "KnivesLaidModel" "row" "[I") (List.mem_of_getElem? (i := 1) rfl)
  have inX6 : ∀ w ∈ u_ws RX6 TX6 20, w ∈ wsX6_wantOne := in_at 54 _ _ rfl
  have f211 := hts (.fieldLink RX6 211 "KnivesLaidModel" "good" "Z") (List.mem_of_getElem? (i := 2) rfl)
  have f179 := hts (.fieldLink RX6 179 "KnivesLaidModel" "sort" "I") (List.mem_of_getElem? (i := 3) rfl)
  have f186 := hts (.fieldLink RX6 186 "KnivesLaidModel" "value" "I") (List.mem_of_getElem? (i := 4) rfl)
  skip
  refine lv_aload_n hx hb dX6_wantOne_0 rfl (lv_at hl 0 rfl) ?_
  refine lv_aload_n hx hb dX6_wantOne_1 rfl (lv_at hl 0 rfl) ?_
  refine va_get (ci := 4) (v := .ref (b 1)) (C := RX6) (T := TX6) (N := 20) hx hb hts inX6 hown hK hP 0 rfl rfl 0 (by decide) f7 (fun _ h9 => h9) rfl dX6_wantOne_2 ?_
  refine lv_iconst (v := 1) hx hb dX6_wantOne_5 (by decide) ?_
  refine va_iald hx hb hK hP 1 0 rfl rfl (vp_in_iff.mpr (by decide)) dX6_wantOne_6 ?_
  refine lv_to (y := gu) rfl ?_
  refine lv_bipush (v := 8) hx hb dX6_wantOne_7 (by decide) ?_
  refine lv_icmp_ge (tgt := 16) hx hb dX6_wantOne_9 (by decide) (fun c_1 => ?_) (fun c_1 => ?_)
  · skip
    refine lv_iconst (v := 0) hx hb dX6_wantOne_16 (by decide) ?_
    refine va_put (ci := 4) (v := .int 0) (ty := .boolean) (C := RX6) (T := TX6) (N := 20) hx hb hts inX6 tyX6 tyX6_ok nmX6 hown hK hP (hD _ rfl) hS 0 rfl rfl 12 (by decide) f211 (fun _ h9 => h9) rfl rfl rfl rfl (Nat.le_of_ble_eq_true rfl) dX6_wantOne_17 (fun H locs hP _ hS => ?_)
    have hP : va_P D vwCl (mdw cI cL b (enc co gu kn fo sp ki pl ea to qu) fd mo tr b1 tp tm so bg te wd va 0 bo sz sh le im bf ik) H := hP
    refine lv_aload_n hx hb dX6_wantOne_20 rfl (lv_at hl 0 rfl) ?_
    refine va_get (ci := 4) (v := .int 0) (C := RX6) (T := TX6) (N := 20) hx hb hts inX6 hown hK hP 0 rfl rfl 12 (by decide) f211 (fun _ h9 => h9) rfl dX6_wantOne_21 ?_
    refine lv_if_ne (tgt := 28) hx hb dX6_wantOne_24 (by decide) (fun c_2 => ?_) (fun c_2 => ?_)
    · skip
      have c_2n := mt (cmp_eq (a := 0) (b := 0) rfl rfl (by omega) (by omega)).mpr c_2
      exact absurd (by decide) c_2
    · skip
      have c_2n := (cmp_eq (a := 0) (b := 0) rfl rfl (by omega) (by omega)).mp c_2
      exact W.vret hx hb hr (fun t ht hW => ⟨⟨((co, gu, kn, fo, sp, ki, pl, ea, to, qu), 0, so, bg, te, wd, va), rfl, (by exact TMo_t c_1 ⟨rfl, rfl, hT⟩), by dsimp only; rw [ht]; exact hP⟩, hS.F ht⟩) hS.2.2 dX6_wantOne_27
  · skip
    have h8 : vp_in gu 8 := gu8_in ok.gu (Int32.not_le.mp c_1)
    refine lv_iconst (v := 1) hx hb dX6_wantOne_12 (by decide) ?_
    refine lv_goto (tgt := 17) hx hb dX6_wantOne_13 (by decide) ?_
    refine va_put (ci := 4) (v := .int 1) (ty := .boolean) (C := RX6) (T := TX6) (N := 20) hx hb hts inX6 tyX6 tyX6_ok nmX6 hown hK hP (hD _ rfl) hS 0 rfl rfl 12 (by decide) f211 (fun _ h9 => h9) rfl rfl rfl rfl (Nat.le_of_ble_eq_true rfl) dX6_wantOne_17 (fun H locs hP _ hS => ?_)
    have hP : va_P D vwCl (mdw cI cL b (enc co gu kn fo sp ki pl ea to qu) fd mo tr b1 tp tm so bg te wd va 1 bo sz sh le im bf ik) H := hP
    refine lv_aload_n hx hb dX6_wantOne_20 rfl (lv_at hl 0 rfl) ?_
    refine va_get (ci := 4) (v := .int 1) (C := RX6) (T := TX6) (N := 20) hx hb hts inX6 hown hK hP 0 rfl rfl 12 (by decide) f211 (fun _ h9 => h9) rfl dX6_wantOne_21 ?_
    refine lv_if_ne (tgt := 28) hx hb dX6_wantOne_24 (by decide) (fun c_3 => ?_) (fun c_3 => ?_)
    · skip
      have c_3n := mt (cmp_eq (a := 1) (b := 0) rfl rfl (by omega) (by omega)).mpr c_3
      refine lv_aload_n hx hb dX6_wantOne_28 rfl (lv_at hl 0 rfl) ?_
      refine callMv (va_runV (As := []) (rest := []) ⟨hx, hb, hml, hown, hts⟩ (k_X6_advance l D cI cL cS b co gu kn fo sp ki pl ea to qu fd mo tr b1 tp tm so bg te wd va 1 bo sz sh le im bf ik (va_DT (hD _ rfl) rfl) (eN tp (ix tm) cu) ol hB hT.2.2.1 hT.le.2.2.1) (cwV 0 hts gX6_wantOne_X6_advance rfl rfl rfl (by decide +kernel) ⟨Nat.le_of_ble_eq_true rfl, Nat.le_of_ble_eq_true rfl⟩) ⟨PcR_fb, va_recv hK hP (ci := 4) (q0 := 0) rfl rfl, PcR_pre hP hK⟩ rfl rfl hl.1 rfl (lv_room (Nat.le_of_ble_eq_true rfl)) dX6_wantOne_29 ⟨Nat.zero_le _, Nat.zero_le _⟩) hP (hD _ rfl) hS 0 13 rfl (fun u_4 H locs hu_4 hP hS => ?_)
      obtain ⟨so_6, bg_7, te_8, wd_9, va_10⟩ := u_4
      have hu_4 : MTok tp (ix tm) (eN tp (ix tm) cu) so_6 bg_7 te_8 wd_9 va_10 := hu_4
      have hT := hu_4
      have hP : va_P D vwCl (mdw cI cL b (enc co gu kn fo sp ki pl ea to qu) fd mo tr b1 tp tm so_6 bg_7 te_8 wd_9 va_10 1 bo sz sh le im bf ik) H := hP
      refine lv_aload_n hx hb dX6_wantOne_32 rfl (lv_at hl 0 rfl) ?_
      refine lv_aload_n hx hb dX6_wantOne_33 rfl (lv_at hl 0 rfl) ?_
      refine va_get (ci := 4) (v := .int so_6) (C := RX6) (T := TX6) (N := 20) hx hb hts inX6 hown hK hP 0 rfl rfl 7 (by decide) f179 (fun _ h9 => h9) rfl dX6_wantOne_34 ?_
      refine lv_iconst (v := 2) hx hb dX6_wantOne_37 (by decide) ?_
      refine lv_icmp_ne (tgt := 66) hx hb dX6_wantOne_38 (by decide) (fun c_11 => ?_) (fun c_11 => ?_)
      · skip
        have hno : ¬ (isN tp (ix tm) (eN tp (ix tm) cu) 10 ∧ sWho (co, gu, kn, fo, sp, ki, pl, ea, to, qu) (nI (nV tp (ix tm) (eN tp (ix tm) cu))) = -1) := fun h => c_11 ((hT.n (vp_in_iff.mpr (by decide))).mpr h.1).1
        refine lv_iconst (v := 0) hx hb dX6_wantOne_66 (by decide) ?_
        refine va_put (ci := 4) (v := .int 0) (ty := .boolean) (C := RX6) (T := TX6) (N := 20) hx hb hts inX6 tyX6 tyX6_ok nmX6 hown hK hP (hD _ rfl) hS 0 rfl rfl 12 (by decide) f211 (fun _ h9 => h9) rfl rfl rfl rfl (Nat.le_of_ble_eq_true rfl) dX6_wantOne_67 (fun H locs hP _ hS => ?_)
        have hP : va_P D vwCl (mdw cI cL b (enc co gu kn fo sp ki pl ea to qu) fd mo tr b1 tp tm so_6 bg_7 te_8 wd_9 va_10 0 bo sz sh le im bf ik) H := hP
        have hT1 := hT
        refine lv_aload_n hx hb dX6_wantOne_70 rfl (lv_at hl 0 rfl) ?_
        refine lv_iconst (v := 0) hx hb dX6_wantOne_71 (by decide) ?_
        refine lv_bipush (v := 9) hx hb dX6_wantOne_72 (by decide) ?_
        refine callMi (va_runV (As := [.int 0, .int 9]) (rest := []) ⟨hx, hb, hml, hown, hts⟩ (k_X6_wantNumber0 l D cI cL cS b co gu kn fo sp ki pl ea to qu fd mo tr b1 tp tm so_6 bg_7 te_8 wd_9 va_10 bo sz sh le im bf ik (eN tp (ix tm) cu) 9 (va_DT (hD _ rfl) rfl)) (cwV 2 hts gX6_wantOne_X6_wantNumber rfl rfl rfl (by decide +kernel) ⟨Nat.le_of_ble_eq_true rfl, Nat.le_of_ble_eq_true rfl⟩) ⟨PcR_fb, va_recv hK hP (ci := 4) (q0 := 0) rfl rfl, PcR_pre hP hK⟩ rfl rfl hl.1 rfl (lv_room (Nat.le_of_ble_eq_true rfl)) dX6_wantOne_74 ⟨Nat.zero_le _, Nat.zero_le _⟩) hP (hD _ rfl) hS 0 13 rfl (fun r_13 u_12 H locs hu_12 hP hS => ?_)
        have hI : r_13 = va_10 := hu_12
        have hI := hI.symm
        subst hI
        have hP : va_P D vwCl (mdw cI cL b (enc co gu kn fo sp ki pl ea to qu) fd mo tr b1 tp tm so_6 bg_7 te_8 wd_9 va_10 0 bo sz sh le im bf ik) H := hP
        refine lv_istore_n (lv' := [(2, .int va_10), (0, .ref (b 0)), (1, .int x0)]) hx hb dX6_wantOne_77 rfl hl (by decide) rfl (fun ls hl => ?_)
        refine lv_aload_n hx hb dX6_wantOne_78 rfl (lv_at hl 1 rfl) ?_
        refine va_get (ci := 4) (v := .int 0) (C := RX6) (T := TX6) (N := 20) hx hb hts inX6 hown hK hP 0 rfl rfl 12 (by decide) f211 (fun _ h9 => h9) rfl dX6_wantOne_79 ?_
        refine lv_if_eq (tgt := 91) hx hb dX6_wantOne_82 (by decide) (fun c_14 => ?_) (fun c_14 => ?_)
        · skip
          have c_14n := (cmp_eq (a := 0) (b := 0) rfl rfl (by omega) (by omega)).mp c_14
          exact W.vret hx hb hr (fun t ht hW => ⟨⟨((co, gu, kn, fo, sp, ki, pl, ea, to, qu), 0, so_6, bg_7, te_8, wd_9, va_10), rfl, (by exact TMo_f c_1 (TMo_f hno ⟨rfl, rfl, hT⟩)), by dsimp only; rw [ht]; exact hP⟩, hS.F ht⟩) hS.2.2 dX6_wantOne_91
        · skip
          have c_14n := mt (cmp_eq (a := 0) (b := 0) rfl rfl (by omega) (by omega)).mpr c_14
          exact absurd (by decide) c_14
      · skip
        refine lv_aload_n hx hb dX6_wantOne_41 rfl (lv_at hl 0 rfl) ?_
        refine va_get (ci := 4) (v := .int va_10) (C := RX6) (T := TX6) (N := 20) hx hb hts inX6 hown hK hP 0 rfl rfl 11 (by decide) f186 (fun _ h9 => h9) rfl dX6_wantOne_42 ?_
        refine callE (W.runS (As := [.int va_10]) (rest := [.ref (b 0)]) ⟨hx, hb, hml, hown, hts⟩ (k_X6_isPlace l va_10) (va_cwS 1 hts gX6_wantOne_X6_isPlace rfl rfl rfl (by decide +kernel) ⟨Nat.le_of_ble_eq_true rfl, Nat.le_of_ble_eq_true rfl⟩) ⟨PcP_fb, fun U _ _ => ⟨rfl, trivial⟩⟩ rfl rfl hl.1 rfl (lv_room (Nat.le_of_ble_eq_true rfl)) dX6_wantOne_45 ⟨Nat.zero_le _, Nat.zero_le _⟩) ?_
        refine lv_if_eq (tgt := 62) hx hb dX6_wantOne_48 (by decide) (fun c_15 => ?_) (fun c_15 => ?_)
        · skip
          have c_15b := bI_0 c_15
          have hwho : isN tp (ix tm) (eN tp (ix tm) cu) 10 → sWho (co, gu, kn, fo, sp, ki, pl, ea, to, qu) (nI (nV tp (ix tm) (eN tp (ix tm) cu))) = -1 := fun h => absurd (hT.v (vp_in_iff.mpr (by decide)) h ▸ isN_10 h) c_15b
          refine lv_iconst (v := 1) hx hb dX6_wantOne_62 (by decide) ?_
          refine lv_goto (tgt := 67) hx hb dX6_wantOne_63 (by decide) ?_
          refine va_put (ci := 4) (v := .int 1) (ty := .boolean) (C := RX6) (T := TX6) (N := 20) hx hb hts inX6 tyX6 tyX6_ok nmX6 hown hK hP (hD _ rfl) hS 0 rfl rfl 12 (by decide) f211 (fun _ h9 => h9) rfl rfl rfl rfl (Nat.le_of_ble_eq_true rfl) dX6_wantOne_67 (fun H locs hP _ hS => ?_)
          have hP : va_P D vwCl (mdw cI cL b (enc co gu kn fo sp ki pl ea to qu) fd mo tr b1 tp tm so_6 bg_7 te_8 wd_9 va_10 1 bo sz sh le im bf ik) H := hP
          have hT1 := hT
          refine lv_aload_n hx hb dX6_wantOne_70 rfl (lv_at hl 0 rfl) ?_
          refine lv_iconst (v := 0) hx hb dX6_wantOne_71 (by decide) ?_
          refine lv_bipush (v := 9) hx hb dX6_wantOne_72 (by decide) ?_
          refine callMi (va_runV (As := [.int 0, .int 9]) (rest := []) ⟨hx, hb, hml, hown, hts⟩ (k_X6_wantNumber1 l D cI cL cS b co gu kn fo sp ki pl ea to qu fd mo tr b1 tp tm so_6 bg_7 te_8 wd_9 va_10 bo sz sh le im bf ik (eN tp (ix tm) cu) 10 9 (va_DT (hD _ rfl) rfl) (vp_in_iff.mpr (by decide)) (by decide) ol hB hT) (cwV 2 hts gX6_wantOne_X6_wantNumber rfl rfl rfl (by decide +kernel) ⟨Nat.le_of_ble_eq_true rfl, Nat.le_of_ble_eq_true rfl⟩) ⟨PcR_fb, va_recv hK hP (ci := 4) (q0 := 0) rfl rfl, PcR_pre hP hK⟩ rfl rfl hl.1 rfl (lv_room (Nat.le_of_ble_eq_true rfl)) dX6_wantOne_74 ⟨Nat.zero_le _, Nat.zero_le _⟩) hP (hD _ rfl) hS 0 13 rfl (fun r_17 u_16 H locs hu_16 hP hS => ?_)
          obtain ⟨gd_18, so_19, bg_20, te_21, wd_22, va_23⟩ := u_16
          have hI : r_17 = va_10 ∧ gd_18 = bI (isN tp (ix tm) (eN tp (ix tm) cu) 10) ∧ MTok tp (ix tm) (iF (isN tp (ix tm) (eN tp (ix tm) cu) 10) (eN tp (ix tm) (eN tp (ix tm) cu)) (eN tp (ix tm) cu)) so_19 bg_20 te_21 wd_22 va_23 := hu_16
          obtain ⟨hIr, hIg, hT⟩ := hI
          have hIr := hIr.symm
          subst hIr
          subst hIg
          have hP : va_P D vwCl (mdw cI cL b (enc co gu kn fo sp ki pl ea to qu) fd mo tr b1 tp tm so_19 bg_20 te_21 wd_22 va_23 (bI (isN tp (ix tm) (eN tp (ix tm) cu) 10)) bo sz sh le im bf ik) H := hP
          by_cases hN : isN tp (ix tm) (eN tp (ix tm) cu) 10
          · skip
            rw [bI_t hN] at hP; rw [iF_t hN] at hT
            have hP : va_P D vwCl (mdw cI cL b (enc co gu kn fo sp ki pl ea to qu) fd mo tr b1 tp tm so_19 bg_20 te_21 wd_22 va_23 1 bo sz sh le im bf ik) H := hP
            refine lv_istore_n (lv' := [(2, .int va_10), (0, .ref (b 0)), (1, .int x0)]) hx hb dX6_wantOne_77 rfl hl (by decide) rfl (fun ls hl => ?_)
            refine lv_aload_n hx hb dX6_wantOne_78 rfl (lv_at hl 1 rfl) ?_
            refine va_get (ci := 4) (v := .int 1) (C := RX6) (T := TX6) (N := 20) hx hb hts inX6 hown hK hP 0 rfl rfl 12 (by decide) f211 (fun _ h9 => h9) rfl dX6_wantOne_79 ?_
            refine lv_if_eq (tgt := 91) hx hb dX6_wantOne_82 (by decide) (fun c_24 => ?_) (fun c_24 => ?_)
            · skip
              have c_24n := (cmp_eq (a := 1) (b := 0) rfl rfl (by omega) (by omega)).mp c_24
              exact absurd c_24 (by decide)
            · skip
              have c_24n := mt (cmp_eq (a := 1) (b := 0) rfl rfl (by omega) (by omega)).mpr c_24
              refine lv_aload_n hx hb dX6_wantOne_85 rfl (lv_at hl 1 rfl) ?_
              refine lv_iload_n hx hb dX6_wantOne_86 rfl (lv_at hl 2 rfl) ?_
              refine lv_iload_n hx hb dX6_wantOne_87 rfl (lv_at hl 0 rfl) ?_
              refine callMv (va_runV (As := [.int x0, .int va_10]) (rest := []) ⟨hx, hb, hml, hown, hts⟩ (k_X6_adds l D cI cL cS b co gu kn fo sp ki pl ea to qu fd mo tr b1 tp tm so_19 bg_20 te_21 wd_22 va_23 1 bo sz sh le im bf ik x0 va_10 (va_DT (hD _ rfl) rfl) h8) (cwV 2 hts gX6_wantOne_X6_adds rfl rfl rfl (by decide +kernel) ⟨Nat.le_of_ble_eq_true rfl, Nat.le_of_ble_eq_true rfl⟩) ⟨PcR_fb, va_recv hK hP (ci := 4) (q0 := 0) rfl rfl, PcR_pre hP hK⟩ rfl rfl hl.1 rfl (lv_room (Nat.le_of_ble_eq_true rfl)) dX6_wantOne_88 ⟨Nat.zero_le _, Nat.zero_le _⟩) hP (hD _ rfl) hS 0 13 rfl (fun u_25 H locs hu_25 hP hS => ?_)
              have hP : va_P D vwCl (mdw cI cL b (enc co (gu + 1) kn fo sp (upd ki (ix gu) x0) (upd pl (ix gu) va_10) (upd ea (ix gu) 0) (upd to (ix gu) 0) (upd qu (ix gu) 0)) fd mo tr b1 tp tm so_19 bg_20 te_21 wd_22 va_23 1 bo sz sh le im bf ik) H := hP
              exact W.vret hx hb hr (fun t ht hW => ⟨⟨((co, gu + 1, kn, fo, sp, upd ki (ix gu) x0, upd pl (ix gu) va_10, upd ea (ix gu) 0, upd to (ix gu) 0, upd qu (ix gu) 0), 1, so_19, bg_20, te_21, wd_22, va_23), rfl, (by exact TMo_f c_1 (TMo_t ⟨hN, hwho hN⟩ ⟨rfl, by rw [hT1.v (vp_in_iff.mpr (by decide)) hN], hT⟩)), by dsimp only; rw [ht]; exact hP⟩, hS.F ht⟩) hS.2.2 dX6_wantOne_91
          · skip
            rw [bI_f hN] at hP; rw [iF_f hN] at hT
            have hP : va_P D vwCl (mdw cI cL b (enc co gu kn fo sp ki pl ea to qu) fd mo tr b1 tp tm so_19 bg_20 te_21 wd_22 va_23 0 bo sz sh le im bf ik) H := hP
            refine lv_istore_n (lv' := [(2, .int va_10), (0, .ref (b 0)), (1, .int x0)]) hx hb dX6_wantOne_77 rfl hl (by decide) rfl (fun ls hl => ?_)
            refine lv_aload_n hx hb dX6_wantOne_78 rfl (lv_at hl 1 rfl) ?_
            refine va_get (ci := 4) (v := .int 0) (C := RX6) (T := TX6) (N := 20) hx hb hts inX6 hown hK hP 0 rfl rfl 12 (by decide) f211 (fun _ h9 => h9) rfl dX6_wantOne_79 ?_
            refine lv_if_eq (tgt := 91) hx hb dX6_wantOne_82 (by decide) (fun c_27 => ?_) (fun c_27 => ?_)
            · skip
              have c_27n := (cmp_eq (a := 0) (b := 0) rfl rfl (by omega) (by omega)).mp c_27
              exact W.vret hx hb hr (fun t ht hW => ⟨⟨((co, gu, kn, fo, sp, ki, pl, ea, to, qu), 0, so_19, bg_20, te_21, wd_22, va_23), rfl, (by exact TMo_f c_1 (TMo_f (fun h => hN h.1) ⟨rfl, rfl, hT⟩)), by dsimp only; rw [ht]; exact hP⟩, hS.F ht⟩) hS.2.2 dX6_wantOne_91
            · skip
              have c_27n := mt (cmp_eq (a := 0) (b := 0) rfl rfl (by omega) (by omega)).mpr c_27
              exact absurd (by decide) c_27
        · skip
          have c_15b := bI_n c_15
          refine lv_aload_n hx hb dX6_wantOne_51 rfl (lv_at hl 0 rfl) ?_
          refine lv_aload_n hx hb dX6_wantOne_52 rfl (lv_at hl 0 rfl) ?_
          refine va_get (ci := 4) (v := .int va_10) (C := RX6) (T := TX6) (N := 20) hx hb hts inX6 hown hK hP 0 rfl rfl 11 (by decide) f186 (fun _ h9 => h9) rfl dX6_wantOne_53 ?_
          refine callE (W.runV (As := [.int va_10]) (rest := [.ref (b 0)]) ⟨hx, hb, hml, hown, hts⟩ (k_X6_whoAt l D cI cL cS b co gu kn fo sp ki pl ea to qu fd mo tr b1 tp tm so_6 bg_7 te_8 wd_9 va_10 1 bo sz sh le im bf ik va_10 ok.gu) (cwV 1 hts gX6_wantOne_X6_whoAt rfl rfl rfl (by decide +kernel) ⟨Nat.le_of_ble_eq_true rfl, Nat.le_of_ble_eq_true rfl⟩) ⟨PcR_fb, va_recv hK hP (ci := 4) (q0 := 0) rfl rfl, PcR_pre hP hK⟩ rfl rfl hl.1 rfl (lv_room (Nat.le_of_ble_eq_true rfl)) dX6_wantOne_56 ⟨Nat.zero_le _, Nat.zero_le _⟩) ?_
          refine lv_if_ge (tgt := 66) hx hb dX6_wantOne_59 (by decide) (fun c_28 => ?_) (fun c_28 => ?_)
          · skip
            have hno : ¬ (isN tp (ix tm) (eN tp (ix tm) cu) 10 ∧ sWho (co, gu, kn, fo, sp, ki, pl, ea, to, qu) (nI (nV tp (ix tm) (eN tp (ix tm) cu))) = -1) := fun h => (who_neg ok.gu).mp (Int32.not_lt.mpr c_28) ((hT.v (vp_in_iff.mpr (by decide)) h.1).symm ▸ h.2)
            refine lv_iconst (v := 0) hx hb dX6_wantOne_66 (by decide) ?_
            refine va_put (ci := 4) (v := .int 0) (ty := .boolean) (C := RX6) (T := TX6) (N := 20) hx hb hts inX6 tyX6 tyX6_ok nmX6 hown hK hP (hD _ rfl) hS 0 rfl rfl 12 (by decide) f211 (fun _ h9 => h9) rfl rfl rfl rfl (Nat.le_of_ble_eq_true rfl) dX6_wantOne_67 (fun H locs hP _ hS => ?_)
            have hP : va_P D vwCl (mdw cI cL b (enc co gu kn fo sp ki pl ea to qu) fd mo tr b1 tp tm so_6 bg_7 te_8 wd_9 va_10 0 bo sz sh le im bf ik) H := hP
            have hT1 := hT
            refine lv_aload_n hx hb dX6_wantOne_70 rfl (lv_at hl 0 rfl) ?_
            refine lv_iconst (v := 0) hx hb dX6_wantOne_71 (by decide) ?_
            refine lv_bipush (v := 9) hx hb dX6_wantOne_72 (by decide) ?_
            refine callMi (va_runV (As := [.int 0, .int 9]) (rest := []) ⟨hx, hb, hml, hown, hts⟩ (k_X6_wantNumber0 l D cI cL cS b co gu kn fo sp ki pl ea to qu fd mo tr b1 tp tm so_6 bg_7 te_8 wd_9 va_10 bo sz sh le im bf ik (eN tp (ix tm) cu) 9 (va_DT (hD _ rfl) rfl)) (cwV 2 hts gX6_wantOne_X6_wantNumber rfl rfl rfl (by decide +kernel) ⟨Nat.le_of_ble_eq_true rfl, Nat.le_of_ble_eq_true rfl⟩) ⟨PcR_fb, va_recv hK hP (ci := 4) (q0 := 0) rfl rfl, PcR_pre hP hK⟩ rfl rfl hl.1 rfl (lv_room (Nat.le_of_ble_eq_true rfl)) dX6_wantOne_74 ⟨Nat.zero_le _, Nat.zero_le _⟩) hP (hD _ rfl) hS 0 13 rfl (fun r_30 u_29 H locs hu_29 hP hS => ?_)
            have hI : r_30 = va_10 := hu_29
            have hI := hI.symm
            subst hI
            have hP : va_P D vwCl (mdw cI cL b (enc co gu kn fo sp ki pl ea to qu) fd mo tr b1 tp tm so_6 bg_7 te_8 wd_9 va_10 0 bo sz sh le im bf ik) H := hP
            refine lv_istore_n (lv' := [(2, .int va_10), (0, .ref (b 0)), (1, .int x0)]) hx hb dX6_wantOne_77 rfl hl (by decide) rfl (fun ls hl => ?_)
            refine lv_aload_n hx hb dX6_wantOne_78 rfl (lv_at hl 1 rfl) ?_
            refine va_get (ci := 4) (v := .int 0) (C := RX6) (T := TX6) (N := 20) hx hb hts inX6 hown hK hP 0 rfl rfl 12 (by decide) f211 (fun _ h9 => h9) rfl dX6_wantOne_79 ?_
            refine lv_if_eq (tgt := 91) hx hb dX6_wantOne_82 (by decide) (fun c_31 => ?_) (fun c_31 => ?_)
            · skip
              have c_31n := (cmp_eq (a := 0) (b := 0) rfl rfl (by omega) (by omega)).mp c_31
              exact W.vret hx hb hr (fun t ht hW => ⟨⟨((co, gu, kn, fo, sp, ki, pl, ea, to, qu), 0, so_6, bg_7, te_8, wd_9, va_10), rfl, (by exact TMo_f c_1 (TMo_f hno ⟨rfl, rfl, hT⟩)), by dsimp only; rw [ht]; exact hP⟩, hS.F ht⟩) hS.2.2 dX6_wantOne_91
            · skip
              have c_31n := mt (cmp_eq (a := 0) (b := 0) rfl rfl (by omega) (by omega)).mpr c_31
              exact absurd (by decide) c_31
          · skip
            have hwho : isN tp (ix tm) (eN tp (ix tm) cu) 10 → sWho (co, gu, kn, fo, sp, ki, pl, ea, to, qu) (nI (nV tp (ix tm) (eN tp (ix tm) cu))) = -1 := fun h => hT.v (vp_in_iff.mpr (by decide)) h ▸ Classical.not_not.mp (fun z => (who_neg ok.gu).mpr z (Int32.not_le.mp c_28))
            refine lv_iconst (v := 1) hx hb dX6_wantOne_62 (by decide) ?_
            refine lv_goto (tgt := 67) hx hb dX6_wantOne_63 (by decide) ?_
            refine va_put (ci := 4) (v := .int 1) (ty := .boolean) (C := RX6) (T := TX6) (N := 20) hx hb hts inX6 tyX6 tyX6_ok nmX6 hown hK hP (hD _ rfl) hS 0 rfl rfl 12 (by decide) f211 (fun _ h9 => h9) rfl rfl rfl rfl (Nat.le_of_ble_eq_true rfl) dX6_wantOne_67 (fun H locs hP _ hS => ?_)
            have hP : va_P D vwCl (mdw cI cL b (enc co gu kn fo sp ki pl ea to qu) fd mo tr b1 tp tm so_6 bg_7 te_8 wd_9 va_10 1 bo sz sh le im bf ik) H := hP
            have hT1 := hT
            refine lv_aload_n hx hb dX6_wantOne_70 rfl (lv_at hl 0 rfl) ?_
            refine lv_iconst (v := 0) hx hb dX6_wantOne_71 (by decide) ?_
            refine lv_bipush (v := 9) hx hb dX6_wantOne_72 (by decide) ?_
            refine callMi (va_runV (As := [.int 0, .int 9]) (rest := []) ⟨hx, hb, hml, hown, hts⟩ (k_X6_wantNumber1 l D cI cL cS b co gu kn fo sp ki pl ea to qu fd mo tr b1 tp tm so_6 bg_7 te_8 wd_9 va_10 bo sz sh le im bf ik (eN tp (ix tm) cu) 10 9 (va_DT (hD _ rfl) rfl) (vp_in_iff.mpr (by decide)) (by decide) ol hB hT) (cwV 2 hts gX6_wantOne_X6_wantNumber rfl rfl rfl (by decide +kernel) ⟨Nat.le_of_ble_eq_true rfl, Nat.le_of_ble_eq_true rfl⟩) ⟨PcR_fb, va_recv hK hP (ci := 4) (q0 := 0) rfl rfl, PcR_pre hP hK⟩ rfl rfl hl.1 rfl (lv_room (Nat.le_of_ble_eq_true rfl)) dX6_wantOne_74 ⟨Nat.zero_le _, Nat.zero_le _⟩) hP (hD _ rfl) hS 0 13 rfl (fun r_33 u_32 H locs hu_32 hP hS => ?_)
            obtain ⟨gd_34, so_35, bg_36, te_37, wd_38, va_39⟩ := u_32
            have hI : r_33 = va_10 ∧ gd_34 = bI (isN tp (ix tm) (eN tp (ix tm) cu) 10) ∧ MTok tp (ix tm) (iF (isN tp (ix tm) (eN tp (ix tm) cu) 10) (eN tp (ix tm) (eN tp (ix tm) cu)) (eN tp (ix tm) cu)) so_35 bg_36 te_37 wd_38 va_39 := hu_32
            obtain ⟨hIr, hIg, hT⟩ := hI
            have hIr := hIr.symm
            subst hIr
            subst hIg
            have hP : va_P D vwCl (mdw cI cL b (enc co gu kn fo sp ki pl ea to qu) fd mo tr b1 tp tm so_35 bg_36 te_37 wd_38 va_39 (bI (isN tp (ix tm) (eN tp (ix tm) cu) 10)) bo sz sh le im bf ik) H := hP
            by_cases hN : isN tp (ix tm) (eN tp (ix tm) cu) 10
            · skip
              rw [bI_t hN] at hP; rw [iF_t hN] at hT
              have hP : va_P D vwCl (mdw cI cL b (enc co gu kn fo sp ki pl ea to qu) fd mo tr b1 tp tm so_35 bg_36 te_37 wd_38 va_39 1 bo sz sh le im bf ik) H := hP
              refine lv_istore_n (lv' := [(2, .int va_10), (0, .ref (b 0)), (1, .int x0)]) hx hb dX6_wantOne_77 rfl hl (by decide) rfl (fun ls hl => ?_)
              refine lv_aload_n hx hb dX6_wantOne_78 rfl (lv_at hl 1 rfl) ?_
              refine va_get (ci := 4) (v := .int 1) (C := RX6) (T := TX6) (N := 20) hx hb hts inX6 hown hK hP 0 rfl rfl 12 (by decide) f211 (fun _ h9 => h9) rfl dX6_wantOne_79 ?_
              refine lv_if_eq (tgt := 91) hx hb dX6_wantOne_82 (by decide) (fun c_40 => ?_) (fun c_40 => ?_)
              · skip
                have c_40n := (cmp_eq (a := 1) (b := 0) rfl rfl (by omega) (by omega)).mp c_40
                exact absurd c_40 (by decide)
              · skip
                have c_40n := mt (cmp_eq (a := 1) (b := 0) rfl rfl (by omega) (by omega)).mpr c_40
                refine lv_aload_n hx hb dX6_wantOne_85 rfl (lv_at hl 1 rfl) ?_
                refine lv_iload_n hx hb dX6_wantOne_86 rfl (lv_at hl 2 rfl) ?_
                refine lv_iload_n hx hb dX6_wantOne_87 rfl (lv_at hl 0 rfl) ?_
                refine callMv (va_runV (As := [.int x0, .int va_10]) (rest := []) ⟨hx, hb, hml, hown, hts⟩ (k_X6_adds l D cI cL cS b co gu kn fo sp ki pl ea to qu fd mo tr b1 tp tm so_35 bg_36 te_37 wd_38 va_39 1 bo sz sh le im bf ik x0 va_10 (va_DT (hD _ rfl) rfl) h8) (cwV 2 hts gX6_wantOne_X6_adds rfl rfl rfl (by decide +kernel) ⟨Nat.le_of_ble_eq_true rfl, Nat.le_of_ble_eq_true rfl⟩) ⟨PcR_fb, va_recv hK hP (ci := 4) (q0 := 0) rfl rfl, PcR_pre hP hK⟩ rfl rfl hl.1 rfl (lv_room (Nat.le_of_ble_eq_true rfl)) dX6_wantOne_88 ⟨Nat.zero_le _, Nat.zero_le _⟩) hP (hD _ rfl) hS 0 13 rfl (fun u_41 H locs hu_41 hP hS => ?_)
                have hP : va_P D vwCl (mdw cI cL b (enc co (gu + 1) kn fo sp (upd ki (ix gu) x0) (upd pl (ix gu) va_10) (upd ea (ix gu) 0) (upd to (ix gu) 0) (upd qu (ix gu) 0)) fd mo tr b1 tp tm so_35 bg_36 te_37 wd_38 va_39 1 bo sz sh le im bf ik) H := hP
                exact W.vret hx hb hr (fun t ht hW => ⟨⟨((co, gu + 1, kn, fo, sp, upd ki (ix gu) x0, upd pl (ix gu) va_10, upd ea (ix gu) 0, upd to (ix gu) 0, upd qu (ix gu) 0), 1, so_35, bg_36, te_37, wd_38, va_39), rfl, (by exact TMo_f c_1 (TMo_t ⟨hN, hwho hN⟩ ⟨rfl, by rw [hT1.v (vp_in_iff.mpr (by decide)) hN], hT⟩)), by dsimp only; rw [ht]; exact hP⟩, hS.F ht⟩) hS.2.2 dX6_wantOne_91
            · skip
              rw [bI_f hN] at hP; rw [iF_f hN] at hT
              have hP : va_P D vwCl (mdw cI cL b (enc co gu kn fo sp ki pl ea to qu) fd mo tr b1 tp tm so_35 bg_36 te_37 wd_38 va_39 0 bo sz sh le im bf ik) H := hP
              refine lv_istore_n (lv' := [(2, .int va_10), (0, .ref (b 0)), (1, .int x0)]) hx hb dX6_wantOne_77 rfl hl (by decide) rfl (fun ls hl => ?_)
              refine lv_aload_n hx hb dX6_wantOne_78 rfl (lv_at hl 1 rfl) ?_
              refine va_get (ci := 4) (v := .int 0) (C := RX6) (T := TX6) (N := 20) hx hb hts inX6 hown hK hP 0 rfl rfl 12 (by decide) f211 (fun _ h9 => h9) rfl dX6_wantOne_79 ?_
              refine lv_if_eq (tgt := 91) hx hb dX6_wantOne_82 (by decide) (fun c_43 => ?_) (fun c_43 => ?_)
              · skip
                have c_43n := (cmp_eq (a := 0) (b := 0) rfl rfl (by omega) (by omega)).mp c_43
                exact W.vret hx hb hr (fun t ht hW => ⟨⟨((co, gu, kn, fo, sp, ki, pl, ea, to, qu), 0, so_35, bg_36, te_37, wd_38, va_39), rfl, (by exact TMo_f c_1 (TMo_f (fun h => hN h.1) ⟨rfl, rfl, hT⟩)), by dsimp only; rw [ht]; exact hP⟩, hS.F ht⟩) hS.2.2 dX6_wantOne_91
              · skip
                have c_43n := mt (cmp_eq (a := 0) (b := 0) rfl rfl (by omega) (by omega)).mpr c_43
                exact absurd (by decide) c_43
    · skip
      have c_3n := (cmp_eq (a := 1) (b := 0) rfl rfl (by omega) (by omega)).mp c_3
      exact absurd c_3 (by decide)

set_option maxRecDepth 100000 in
set_option maxHeartbeats 4000000 in
theorem k_X6_wantLaying (l : Launch) (D : va_G) (cI cL cS : ClassId) (b : Nat → Nat) (co gu : Int32) (kn fo sp ki pl ea to qu : FI) (fd : FI) (mo : FI) (tr : FI) (b1 : FI) (tp : FI) (tm : Int32) (so : Int32) (bg : Int32) (te : Int32) (wd : Int64) (va : Int32) (bo : FI) (sz : FI) (sh : FJ) (le : FJ) (im : FI) (bf : FI) (ik : Int32) (cu : Nat) (dj : va_D (fun _ => True) (dj0 b 13)) (ol : vp_in tm 121) (hB : ∀ j, j < ix tm → ¬ tp j < 0) (hT : MTok tp (ix tm) cu so bg te wd va) : Met l yX6_wantLaying wsX6_wantLaying { frames := 5, cells := 0, slots := 0, locals := 111 } (PcR D vwCl (tyG cI cL cS) [.ref (b 0)] (mdw cI cL b (enc co gu kn fo sp ki pl ea to qu) fd mo tr b1 tp tm so bg te wd va 1 bo sz sh le im bf ik)) (va_Qv (fun (u : Sg × Int32 × Int32 × Int32 × Int32 × Int64 × Int32) => TMo (tLay tp (ix tm) (co, gu, kn, fo, sp, ki, pl, ea, to, qu) cu) tp (ix tm) u.2.1 u.1 u.2.2.1 u.2.2.2.1 u.2.2.2.2.1 u.2.2.2.2.2.1 u.2.2.2.2.2.2) (fun u t => va_P D vwCl (mdw cI cL b (encS u.1) fd mo tr b1 tp tm u.2.2.1 u.2.2.2.1 u.2.2.2.2.1 u.2.2.2.2.2.1 u.2.2.2.2.2.2 u.2.1 bo sz sh le im bf ik) t.heap) (Aof (mdw cI cL b (enc co gu kn fo sp ki pl ea to qu) fd mo tr b1 tp tm so bg te wd va 1 bo sz sh le im bf ik))) 0 0 (Aof (mdw cI cL b (enc co gu kn fo sp ki pl ea to qu) fd mo tr b1 tp tm so bg te wd va 1 bo sz sh le im bf ik)) := by
  refine Met.ofW (cc := cX6_wantLaying) (maxL := 5) (ret := none) (by decide) rfl ?_
  intro p e s m args below meth c s₁ B hml hv
  obtain ⟨rfl, hP, hK⟩ := hv
  have hx := B.exec
  have hb := B.bytes
  have hr := B.returns
  have hts := atoms_spec (ws := wsX6_wantLaying) B.pre
  have hown : s.vm.findClass RX6 = some m.cls := findClass_of_methodNamed B.named
  have hlocks := B.notSynchronized
  obtain ⟨A, hAe⟩ : ∃ A, A = Aof (mdw cI cL b (enc co gu kn fo sp ki pl ea to qu) fd mo tr b1 tp tm so bg te wd va 1 bo sz sh le im bf ik) := ⟨_, rfl⟩
  rw [← hAe]
  have hD : ∀ ws' : va_W, ws'.map Prod.fst = (mdw cI cL b (enc co gu kn fo sp ki pl ea to qu) fd mo tr b1 tp tm so bg te wd va 1 bo sz sh le im bf ik).map Prod.fst → va_D A ws' := fun ws' e => by rw [hAe]; exact va_D_adr (va_D_self (va_D_adr dj rfl)) e
  have hS : va_S A s.heap s.heap [] := va_S.rf
  have hP : va_P D vwCl (mdw cI cL b (enc co gu kn fo sp ki pl ea to qu) fd mo tr b1 tp tm so bg te wd va 1 bo sz sh le im bf ik) s.heap := hP
  have hl := lv_entry ([.ref (b 0)]) (n := 5) (Nat.le_of_ble_eq_true rfl)
  rw [lg_entry_eq]
  generalize (lg_sl ([.ref (b 0)]) ++ List.replicate (5 - (lg_sl ([.ref (b 0)])).length) Slot.unset).toArray = ls at hl ⊢
  have hl : lv_has ls 5 [(0, .ref (b 0))] := hl
  have k221 := hts (.constantLong RX6 221 (4351178)) (List.mem_of_getElem? (i := 1) rfl)
  have k226 := hts (.constantLong RX6 226 (1960084)) (List.mem_of_getElem? (i := 2) rfl)
  have k228 := hts (.constantLong RX6 228 (10423661)) (List.mem_of_getElem? (i := 3) rfl)
  have f211 := hts (.fieldLink RX6 211 "KnivesLaidModel" "good" "Z") (List.mem_of_getElem? (i := 4) rfl)
  have inX6 : ∀ w ∈ u_ws RX6 TX6 20, w ∈ wsX6_wantLaying := in_at 50 _ _ rfl
  have f7 := hts (.fieldLink RX6 7 "KnivesLaidModel" "row" "[I") (List.mem_of_getElem? (i := 5) rfl)
  skip
  have hT1 := hT
  refine lv_aload_n hx hb dX6_wantLaying_0 rfl (lv_at hl 0 rfl) ?_
  refine lv_iconst (v := 0) hx hb dX6_wantLaying_1 (by decide) ?_
  refine lv_bipush (v := 9) hx hb dX6_wantLaying_2 (by decide) ?_
  refine callMi (va_runV (As := [.int 0, .int 9]) (rest := []) ⟨hx, hb, hml, hown, hts⟩ (k_X6_wantNumber1 l D cI cL cS b co gu kn fo sp ki pl ea to qu fd mo tr b1 tp tm so bg te wd va bo sz sh le im bf ik cu 10 9 (va_DT (hD _ rfl) rfl) (vp_in_iff.mpr (by decide)) (by decide) ol hB hT) (cwV 2 hts gX6_wantLaying_X6_wantNumber rfl rfl rfl (by decide +kernel) ⟨Nat.le_of_ble_eq_true rfl, Nat.le_of_ble_eq_true rfl⟩) ⟨PcR_fb, va_recv hK hP (ci := 4) (q0 := 0) rfl rfl, PcR_pre hP hK⟩ rfl rfl hl.1 rfl (lv_room (Nat.le_of_ble_eq_true rfl)) dX6_wantLaying_4 ⟨Nat.zero_le _, Nat.zero_le _⟩) hP (hD _ rfl) hS 0 13 rfl (fun r_2 u_1 H locs hu_1 hP hS => ?_)
  obtain ⟨gd_3, so_4, bg_5, te_6, wd_7, va_8⟩ := u_1
  have hI : r_2 = va ∧ gd_3 = bI (isN tp (ix tm) cu 10) ∧ MTok tp (ix tm) (iF (isN tp (ix tm) cu 10) (eN tp (ix tm) cu) cu) so_4 bg_5 te_6 wd_7 va_8 := hu_1
  obtain ⟨hIr, hIg, hT⟩ := hI
  have hIr := hIr.symm
  subst hIr
  subst hIg
  have hP : va_P D vwCl (mdw cI cL b (enc co gu kn fo sp ki pl ea to qu) fd mo tr b1 tp tm so_4 bg_5 te_6 wd_7 va_8 (bI (isN tp (ix tm) cu 10)) bo sz sh le im bf ik) H := hP
  by_cases hN : isN tp (ix tm) cu 10
  · skip
    rw [bI_t hN] at hP; rw [iF_t hN] at hT
    have hP : va_P D vwCl (mdw cI cL b (enc co gu kn fo sp ki pl ea to qu) fd mo tr b1 tp tm so_4 bg_5 te_6 wd_7 va_8 1 bo sz sh le im bf ik) H := hP
    refine lv_istore_n (lv' := [(1, .int va), (0, .ref (b 0))]) hx hb dX6_wantLaying_7 rfl hl (by decide) rfl (fun ls hl => ?_)
    have hp := isN_10 hN
    rw [hT1.v (vp_in_iff.mpr (by decide)) hN] at hl
    refine lv_aload_n hx hb dX6_wantLaying_8 rfl (lv_at hl 1 rfl) ?_
    refine lv_ldc2 hx hb hown k221 dX6_wantLaying_9 ?_
    refine callMi (va_runV (As := [.long 4351178]) (rest := []) ⟨hx, hb, hml, hown, hts⟩ (k_X6_may1 l D cI cL cS b co gu kn fo sp ki pl ea to qu fd mo tr b1 tp tm so_4 bg_5 te_6 wd_7 va_8 bo sz sh le im bf ik (eN tp (ix tm) cu) 8 4351178 (va_DT (hD _ rfl) rfl) (by decide) rfl ol hB hT) (cwV 1 hts gX6_wantLaying_X6_may rfl rfl rfl (by decide +kernel) ⟨Nat.le_of_ble_eq_true rfl, Nat.le_of_ble_eq_true rfl⟩) ⟨PcR_fb, va_recv hK hP (ci := 4) (q0 := 0) rfl rfl, PcR_pre hP hK⟩ rfl rfl hl.1 rfl (lv_room (Nat.le_of_ble_eq_true rfl)) dX6_wantLaying_12 ⟨Nat.zero_le _, Nat.zero_le _⟩) hP (hD _ rfl) hS 0 13 rfl (fun r_10 u_9 H locs hu_9 hP hS => ?_)
    obtain ⟨so_11, bg_12, te_13, wd_14, va_15⟩ := u_9
    have hI : r_10 = bI (isW tp (ix tm) (eN tp (ix tm) cu) 8) ∧ MTok tp (ix tm) (tAf tp (ix tm) (eN tp (ix tm) cu) 8) so_11 bg_12 te_13 wd_14 va_15 := hu_9
    obtain ⟨hIr, hT⟩ := hI
    subst hIr
    have hP : va_P D vwCl (mdw cI cL b (enc co gu kn fo sp ki pl ea to qu) fd mo tr b1 tp tm so_11 bg_12 te_13 wd_14 va_15 1 bo sz sh le im bf ik) H := hP
    refine jn (fun v_16 : Int32 => v_16 = (if (bI (isW tp (ix tm) (eN tp (ix tm) cu) 8)) = 0 then 0 else 1 : Int32)) (fun v_16 => F0 m 23 ls [.int v_16]) (fun Jv_16 => ?_) (fun v_16 ev_16 => ?_)
    · skip
      refine lv_if_eq (tgt := 22) hx hb dX6_wantLaying_15 (by decide) (fun c_17 => ?_) (fun c_17 => ?_)
      · skip
        have c_17b := bI_0 c_17
        refine lv_iconst (v := 0) hx hb dX6_wantLaying_22 (by decide) ?_
        exact Jv_16 _ (by rw [if_pos c_17])
      · skip
        have c_17b := bI_n c_17
        refine lv_iconst (v := 1) hx hb dX6_wantLaying_18 (by decide) ?_
        refine lv_goto (tgt := 23) hx hb dX6_wantLaying_19 (by decide) ?_
        exact Jv_16 _ (by rw [if_neg c_17])
    subst ev_16
    refine lv_to (y := bI (isW tp (ix tm) (eN tp (ix tm) cu) 8)) (if_bI _) ?_
    refine lv_istore_n (lv' := [(2, .int (bI (isW tp (ix tm) (eN tp (ix tm) cu) 8))), (1, .int (nI (nV tp (ix tm) cu))), (0, .ref (b 0))]) hx hb dX6_wantLaying_23 rfl hl (by decide) rfl (fun ls hl => ?_)
    refine lv_aload_n hx hb dX6_wantLaying_24 rfl (lv_at hl 2 rfl) ?_
    refine lv_ldc2 hx hb hown k226 dX6_wantLaying_25 ?_
    refine callMi (va_runV (As := [.long 1960084]) (rest := []) ⟨hx, hb, hml, hown, hts⟩ (k_X6_may1 l D cI cL cS b co gu kn fo sp ki pl ea to qu fd mo tr b1 tp tm so_11 bg_12 te_13 wd_14 va_15 bo sz sh le im bf ik (tAf tp (ix tm) (eN tp (ix tm) cu) 8) 9 1960084 (va_DT (hD _ rfl) rfl) (by decide) rfl ol hB hT) (cwV 1 hts gX6_wantLaying_X6_may rfl rfl rfl (by decide +kernel) ⟨Nat.le_of_ble_eq_true rfl, Nat.le_of_ble_eq_true rfl⟩) ⟨PcR_fb, va_recv hK hP (ci := 4) (q0 := 0) rfl rfl, PcR_pre hP hK⟩ rfl rfl hl.1 rfl (lv_room (Nat.le_of_ble_eq_true rfl)) dX6_wantLaying_28 ⟨Nat.zero_le _, Nat.zero_le _⟩) hP (hD _ rfl) hS 0 13 rfl (fun r_19 u_18 H locs hu_18 hP hS => ?_)
    obtain ⟨so_20, bg_21, te_22, wd_23, va_24⟩ := u_18
    have hI : r_19 = bI (isW tp (ix tm) (tAf tp (ix tm) (eN tp (ix tm) cu) 8) 9) ∧ MTok tp (ix tm) (tAf tp (ix tm) (tAf tp (ix tm) (eN tp (ix tm) cu) 8) 9) so_20 bg_21 te_22 wd_23 va_24 := hu_18
    obtain ⟨hIr, hT⟩ := hI
    subst hIr
    have hP : va_P D vwCl (mdw cI cL b (enc co gu kn fo sp ki pl ea to qu) fd mo tr b1 tp tm so_20 bg_21 te_22 wd_23 va_24 1 bo sz sh le im bf ik) H := hP
    refine jn (fun v_25 : Int32 => v_25 = (if (bI (isW tp (ix tm) (tAf tp (ix tm) (eN tp (ix tm) cu) 8) 9)) = 0 then 0 else 1 : Int32)) (fun v_25 => F0 m 39 ls [.int v_25]) (fun Jv_25 => ?_) (fun v_25 ev_25 => ?_)
    · skip
      refine lv_if_eq (tgt := 38) hx hb dX6_wantLaying_31 (by decide) (fun c_26 => ?_) (fun c_26 => ?_)
      · skip
        have c_26b := bI_0 c_26
        refine lv_iconst (v := 0) hx hb dX6_wantLaying_38 (by decide) ?_
        exact Jv_25 _ (by rw [if_pos c_26])
      · skip
        have c_26b := bI_n c_26
        refine lv_iconst (v := 1) hx hb dX6_wantLaying_34 (by decide) ?_
        refine lv_goto (tgt := 39) hx hb dX6_wantLaying_35 (by decide) ?_
        exact Jv_25 _ (by rw [if_neg c_26])
    subst ev_25
    refine lv_to (y := bI (isW tp (ix tm) (tAf tp (ix tm) (eN tp (ix tm) cu) 8) 9)) (if_bI _) ?_
    refine lv_istore_n (lv' := [(3, .int (bI (isW tp (ix tm) (tAf tp (ix tm) (eN tp (ix tm) cu) 8) 9))), (2, .int (bI (isW tp (ix tm) (eN tp (ix tm) cu) 8))), (1, .int (nI (nV tp (ix tm) cu))), (0, .ref (b 0))]) hx hb dX6_wantLaying_39 rfl hl (by decide) rfl (fun ls hl => ?_)
    refine lv_aload_n hx hb dX6_wantLaying_40 rfl (lv_at hl 3 rfl) ?_
    refine lv_ldc2 hx hb hown k228 dX6_wantLaying_41 ?_
    refine lv_iconst (v := 0) hx hb dX6_wantLaying_44 (by decide) ?_
    refine lv_bipush (v := 9) hx hb dX6_wantLaying_45 (by decide) ?_
    refine lv_iconst (v := 0) hx hb dX6_wantLaying_47 (by decide) ?_
    refine callMi (va_runV (As := [.long 10423661, .int 0, .int 9, .int 0]) (rest := []) ⟨hx, hb, hml, hown, hts⟩ (k_X6_mayWant1 l D cI cL cS b co gu kn fo sp ki pl ea to qu fd mo tr b1 tp tm so_20 bg_21 te_22 wd_23 va_24 bo sz sh le im bf ik (tAf tp (ix tm) (tAf tp (ix tm) (eN tp (ix tm) cu) 8) 9) (va_DT (hD _ rfl) rfl) ol hB hT) (cwV 4 hts gX6_wantLaying_X6_mayWant rfl rfl rfl (by decide +kernel) ⟨Nat.le_of_ble_eq_true rfl, Nat.le_of_ble_eq_true rfl⟩) ⟨PcR_fb, va_recv hK hP (ci := 4) (q0 := 0) rfl rfl, PcR_pre hP hK⟩ rfl rfl hl.1 rfl (lv_room (Nat.le_of_ble_eq_true rfl)) dX6_wantLaying_48 ⟨Nat.zero_le _, Nat.zero_le _⟩) hP (hD _ rfl) hS 0 13 rfl (fun r_28 u_27 H locs hu_27 hP hS => ?_)
    obtain ⟨gd_29, so_30, bg_31, te_32, wd_33, va_34⟩ := u_27
    have hI : MW1 tp (ix tm) (tAf tp (ix tm) (tAf tp (ix tm) (eN tp (ix tm) cu) 8) 9) r_28 gd_29 so_30 bg_31 te_32 wd_33 va_34 := hu_27
    have hP : va_P D vwCl (mdw cI cL b (enc co gu kn fo sp ki pl ea to qu) fd mo tr b1 tp tm so_30 bg_31 te_32 wd_33 va_34 gd_29 bo sz sh le im bf ik) H := hP
    by_cases hwd : isW tp (ix tm) (tAf tp (ix tm) (tAf tp (ix tm) (eN tp (ix tm) cu) 8) 9) 10
    · skip
      by_cases hN2 : isN tp (ix tm) (eN tp (ix tm) (tAf tp (ix tm) (tAf tp (ix tm) (eN tp (ix tm) cu) 8) 9)) 10
      · skip
        obtain ⟨hIr, hIg, hT⟩ := hI.1 hwd hN2
        subst hIr
        subst hIg
        have hP : va_P D vwCl (mdw cI cL b (enc co gu kn fo sp ki pl ea to qu) fd mo tr b1 tp tm so_30 bg_31 te_32 wd_33 va_34 1 bo sz sh le im bf ik) H := hP
        refine lv_istore (lv' := [(4, .int (nI (nV tp (ix tm) (eN tp (ix tm) (tAf tp (ix tm) (tAf tp (ix tm) (eN tp (ix tm) cu) 8) 9))))), (3, .int (bI (isW tp (ix tm) (tAf tp (ix tm) (eN tp (ix tm) cu) 8) 9))), (2, .int (bI (isW tp (ix tm) (eN tp (ix tm) cu) 8))), (1, .int (nI (nV tp (ix tm) cu))), (0, .ref (b 0))]) hx hb dX6_wantLaying_51 hl (by decide) rfl (fun ls hl => ?_)
        refine lv_aload_n hx hb dX6_wantLaying_53 rfl (lv_at hl 4 rfl) ?_
        refine va_get (ci := 4) (v := .int 1) (C := RX6) (T := TX6) (N := 20) hx hb hts inX6 hown hK hP 0 rfl rfl 12 (by decide) f211 (fun _ h9 => h9) rfl dX6_wantLaying_54 ?_
        refine lv_if_eq (tgt := 98) hx hb dX6_wantLaying_57 (by decide) (fun c_35 => ?_) (fun c_35 => ?_)
        · skip
          have c_35n := (cmp_eq (a := 1) (b := 0) rfl rfl (by omega) (by omega)).mp c_35
          exact absurd c_35 (by decide)
        · skip
          have c_35n := mt (cmp_eq (a := 1) (b := 0) rfl rfl (by omega) (by omega)).mpr c_35
          refine lv_aload_n hx hb dX6_wantLaying_60 rfl (lv_at hl 4 rfl) ?_
          refine va_get (ci := 4) (v := .ref (b 1)) (C := RX6) (T := TX6) (N := 20) hx hb hts inX6 hown hK hP 0 rfl rfl 0 (by decide) f7 (fun _ h9 => h9) rfl dX6_wantLaying_61 ?_
          refine lv_iconst (v := 2) hx hb dX6_wantLaying_64 (by decide) ?_
          refine lv_iconst (v := 3) hx hb dX6_wantLaying_65 (by decide) ?_
          refine lv_iload_n hx hb dX6_wantLaying_66 rfl (lv_at hl 3 rfl) ?_
          refine lv_imul hx hb dX6_wantLaying_67 ?_
          refine lv_iadd hx hb dX6_wantLaying_68 ?_
          refine lv_iload_n hx hb dX6_wantLaying_69 rfl (lv_at hl 2 rfl) ?_
          refine va_iast hx hb hK hP (hD _ rfl) hS 1 0 rfl rfl (lay0_in hp) dX6_wantLaying_70 (fun H locs hP _ hS => ?_)
          have hP : va_P D vwCl (mdw cI cL b (enc co gu (upd kn (ix (nI (nV tp (ix tm) cu))) (bI (isW tp (ix tm) (eN tp (ix tm) cu) 8))) fo sp ki pl ea to qu) fd mo tr b1 tp tm so_30 bg_31 te_32 wd_33 va_34 1 bo sz sh le im bf ik) H := by rw [← enc_q0z hp]; exact hP
          refine lv_aload_n hx hb dX6_wantLaying_71 rfl (lv_at hl 4 rfl) ?_
          refine va_get (ci := 4) (v := .ref (b 1)) (C := RX6) (T := TX6) (N := 20) hx hb hts inX6 hown hK hP 0 rfl rfl 0 (by decide) f7 (fun _ h9 => h9) rfl dX6_wantLaying_72 ?_
          refine lv_iconst (v := 2) hx hb dX6_wantLaying_75 (by decide) ?_
          refine lv_iconst (v := 3) hx hb dX6_wantLaying_76 (by decide) ?_
          refine lv_iload_n hx hb dX6_wantLaying_77 rfl (lv_at hl 3 rfl) ?_
          refine lv_imul hx hb dX6_wantLaying_78 ?_
          refine lv_iadd hx hb dX6_wantLaying_79 ?_
          refine lv_iconst (v := 1) hx hb dX6_wantLaying_80 (by decide) ?_
          refine lv_iadd hx hb dX6_wantLaying_81 ?_
          refine lv_iload_n hx hb dX6_wantLaying_82 rfl (lv_at hl 1 rfl) ?_
          refine va_iast hx hb hK hP (hD _ rfl) hS 1 0 rfl rfl ((ixp hp (vp_in_iff.mpr (by decide))).2) dX6_wantLaying_83 (fun H locs hP _ hS => ?_)
          have hP : va_P D vwCl (mdw cI cL b (enc co gu (upd kn (ix (nI (nV tp (ix tm) cu))) (bI (isW tp (ix tm) (eN tp (ix tm) cu) 8))) (upd fo (ix (nI (nV tp (ix tm) cu))) (bI (isW tp (ix tm) (tAf tp (ix tm) (eN tp (ix tm) cu) 8) 9))) sp ki pl ea to qu) fd mo tr b1 tp tm so_30 bg_31 te_32 wd_33 va_34 1 bo sz sh le im bf ik) H := by rw [← enc_q1 hp]; exact hP
          refine lv_aload_n hx hb dX6_wantLaying_84 rfl (lv_at hl 4 rfl) ?_
          refine va_get (ci := 4) (v := .ref (b 1)) (C := RX6) (T := TX6) (N := 20) hx hb hts inX6 hown hK hP 0 rfl rfl 0 (by decide) f7 (fun _ h9 => h9) rfl dX6_wantLaying_85 ?_
          refine lv_iconst (v := 2) hx hb dX6_wantLaying_88 (by decide) ?_
          refine lv_iconst (v := 3) hx hb dX6_wantLaying_89 (by decide) ?_
          refine lv_iload_n hx hb dX6_wantLaying_90 rfl (lv_at hl 3 rfl) ?_
          refine lv_imul hx hb dX6_wantLaying_91 ?_
          refine lv_iadd hx hb dX6_wantLaying_92 ?_
          refine lv_iconst (v := 2) hx hb dX6_wantLaying_93 (by decide) ?_
          refine lv_iadd hx hb dX6_wantLaying_94 ?_
          refine lv_iload hx hb dX6_wantLaying_95 (lv_at hl 0 rfl) ?_
          refine va_iast hx hb hK hP (hD _ rfl) hS 1 0 rfl rfl ((ixp hp (vp_in_iff.mpr (by decide))).2) dX6_wantLaying_97 (fun H locs hP _ hS => ?_)
          have hP : va_P D vwCl (mdw cI cL b (enc co gu (upd kn (ix (nI (nV tp (ix tm) cu))) (bI (isW tp (ix tm) (eN tp (ix tm) cu) 8))) (upd fo (ix (nI (nV tp (ix tm) cu))) (bI (isW tp (ix tm) (tAf tp (ix tm) (eN tp (ix tm) cu) 8) 9))) (upd sp (ix (nI (nV tp (ix tm) cu))) (nI (nV tp (ix tm) (eN tp (ix tm) (tAf tp (ix tm) (tAf tp (ix tm) (eN tp (ix tm) cu) 8) 9))))) ki pl ea to qu) fd mo tr b1 tp tm so_30 bg_31 te_32 wd_33 va_34 1 bo sz sh le im bf ik) H := by rw [← enc_q2 hp]; exact hP
          exact W.vret hx hb hr (fun t ht hW => ⟨⟨((co, gu, upd kn (ix (nI (nV tp (ix tm) cu))) (bI (isW tp (ix tm) (eN tp (ix tm) cu) 8)), upd fo (ix (nI (nV tp (ix tm) cu))) (bI (isW tp (ix tm) (tAf tp (ix tm) (eN tp (ix tm) cu) 8) 9)), upd sp (ix (nI (nV tp (ix tm) cu))) (nI (nV tp (ix tm) (eN tp (ix tm) (tAf tp (ix tm) (tAf tp (ix tm) (eN tp (ix tm) cu) 8) 9)))), ki, pl, ea, to, qu), 1, so_30, bg_31, te_32, wd_33, va_34), rfl, (by exact TMo_t hN (TMo_t hwd (TMo_t hN2 ⟨rfl, rfl, hT⟩))), by dsimp only; rw [ht]; exact hP⟩, hS.F ht⟩) hS.2.2 dX6_wantLaying_98
      · skip
        obtain ⟨hIg, hT⟩ := hI.2.1 hwd hN2
        subst hIg
        have hP : va_P D vwCl (mdw cI cL b (enc co gu kn fo sp ki pl ea to qu) fd mo tr b1 tp tm so_30 bg_31 te_32 wd_33 va_34 0 bo sz sh le im bf ik) H := hP
        refine lv_istore (lv' := [(4, .int r_28), (3, .int (bI (isW tp (ix tm) (tAf tp (ix tm) (eN tp (ix tm) cu) 8) 9))), (2, .int (bI (isW tp (ix tm) (eN tp (ix tm) cu) 8))), (1, .int (nI (nV tp (ix tm) cu))), (0, .ref (b 0))]) hx hb dX6_wantLaying_51 hl (by decide) rfl (fun ls hl => ?_)
        refine lv_aload_n hx hb dX6_wantLaying_53 rfl (lv_at hl 4 rfl) ?_
        refine va_get (ci := 4) (v := .int 0) (C := RX6) (T := TX6) (N := 20) hx hb hts inX6 hown hK hP 0 rfl rfl 12 (by decide) f211 (fun _ h9 => h9) rfl dX6_wantLaying_54 ?_
        refine lv_if_eq (tgt := 98) hx hb dX6_wantLaying_57 (by decide) (fun c_36 => ?_) (fun c_36 => ?_)
        · skip
          have c_36n := (cmp_eq (a := 0) (b := 0) rfl rfl (by omega) (by omega)).mp c_36
          exact W.vret hx hb hr (fun t ht hW => ⟨⟨((co, gu, kn, fo, sp, ki, pl, ea, to, qu), 0, so_30, bg_31, te_32, wd_33, va_34), rfl, (by exact TMo_t hN (TMo_t hwd (TMo_f hN2 ⟨rfl, rfl, hT⟩))), by dsimp only; rw [ht]; exact hP⟩, hS.F ht⟩) hS.2.2 dX6_wantLaying_98
        · skip
          have c_36n := mt (cmp_eq (a := 0) (b := 0) rfl rfl (by omega) (by omega)).mpr c_36
          exact absurd (by decide) c_36
    · skip
      obtain ⟨hIr, hIg, hT⟩ := hI.2.2 hwd
      subst hIr
      subst hIg
      have hP : va_P D vwCl (mdw cI cL b (enc co gu kn fo sp ki pl ea to qu) fd mo tr b1 tp tm so_30 bg_31 te_32 wd_33 va_34 1 bo sz sh le im bf ik) H := hP
      refine lv_istore (lv' := [(4, .int 0), (3, .int (bI (isW tp (ix tm) (tAf tp (ix tm) (eN tp (ix tm) cu) 8) 9))), (2, .int (bI (isW tp (ix tm) (eN tp (ix tm) cu) 8))), (1, .int (nI (nV tp (ix tm) cu))), (0, .ref (b 0))]) hx hb dX6_wantLaying_51 hl (by decide) rfl (fun ls hl => ?_)
      refine lv_aload_n hx hb dX6_wantLaying_53 rfl (lv_at hl 4 rfl) ?_
      refine va_get (ci := 4) (v := .int 1) (C := RX6) (T := TX6) (N := 20) hx hb hts inX6 hown hK hP 0 rfl rfl 12 (by decide) f211 (fun _ h9 => h9) rfl dX6_wantLaying_54 ?_
      refine lv_if_eq (tgt := 98) hx hb dX6_wantLaying_57 (by decide) (fun c_37 => ?_) (fun c_37 => ?_)
      · skip
        have c_37n := (cmp_eq (a := 1) (b := 0) rfl rfl (by omega) (by omega)).mp c_37
        exact absurd c_37 (by decide)
      · skip
        have c_37n := mt (cmp_eq (a := 1) (b := 0) rfl rfl (by omega) (by omega)).mpr c_37
        refine lv_aload_n hx hb dX6_wantLaying_60 rfl (lv_at hl 4 rfl) ?_
        refine va_get (ci := 4) (v := .ref (b 1)) (C := RX6) (T := TX6) (N := 20) hx hb hts inX6 hown hK hP 0 rfl rfl 0 (by decide) f7 (fun _ h9 => h9) rfl dX6_wantLaying_61 ?_
        refine lv_iconst (v := 2) hx hb dX6_wantLaying_64 (by decide) ?_
        refine lv_iconst (v := 3) hx hb dX6_wantLaying_65 (by decide) ?_
        refine lv_iload_n hx hb dX6_wantLaying_66 rfl (lv_at hl 3 rfl) ?_
        refine lv_imul hx hb dX6_wantLaying_67 ?_
        refine lv_iadd hx hb dX6_wantLaying_68 ?_
        refine lv_iload_n hx hb dX6_wantLaying_69 rfl (lv_at hl 2 rfl) ?_
        refine va_iast hx hb hK hP (hD _ rfl) hS 1 0 rfl rfl (lay0_in hp) dX6_wantLaying_70 (fun H locs hP _ hS => ?_)
        have hP : va_P D vwCl (mdw cI cL b (enc co gu (upd kn (ix (nI (nV tp (ix tm) cu))) (bI (isW tp (ix tm) (eN tp (ix tm) cu) 8))) fo sp ki pl ea to qu) fd mo tr b1 tp tm so_30 bg_31 te_32 wd_33 va_34 1 bo sz sh le im bf ik) H := by rw [← enc_q0z hp]; exact hP
        refine lv_aload_n hx hb dX6_wantLaying_71 rfl (lv_at hl 4 rfl) ?_
        refine va_get (ci := 4) (v := .ref (b 1)) (C := RX6) (T := TX6) (N := 20) hx hb hts inX6 hown hK hP 0 rfl rfl 0 (by decide) f7 (fun _ h9 => h9) rfl dX6_wantLaying_72 ?_
        refine lv_iconst (v := 2) hx hb dX6_wantLaying_75 (by decide) ?_
        refine lv_iconst (v := 3) hx hb dX6_wantLaying_76 (by decide) ?_
        refine lv_iload_n hx hb dX6_wantLaying_77 rfl (lv_at hl 3 rfl) ?_
        refine lv_imul hx hb dX6_wantLaying_78 ?_
        refine lv_iadd hx hb dX6_wantLaying_79 ?_
        refine lv_iconst (v := 1) hx hb dX6_wantLaying_80 (by decide) ?_
        refine lv_iadd hx hb dX6_wantLaying_81 ?_
        refine lv_iload_n hx hb dX6_wantLaying_82 rfl (lv_at hl 1 rfl) ?_
        refine va_iast hx hb hK hP (hD _ rfl) hS 1 0 rfl rfl ((ixp hp (vp_in_iff.mpr (by decide))).2) dX6_wantLaying_83 (fun H locs hP _ hS => ?_)
        have hP : va_P D vwCl (mdw cI cL b (enc co gu (upd kn (ix (nI (nV tp (ix tm) cu))) (bI (isW tp (ix tm) (eN tp (ix tm) cu) 8))) (upd fo (ix (nI (nV tp (ix tm) cu))) (bI (isW tp (ix tm) (tAf tp (ix tm) (eN tp (ix tm) cu) 8) 9))) sp ki pl ea to qu) fd mo tr b1 tp tm so_30 bg_31 te_32 wd_33 va_34 1 bo sz sh le im bf ik) H := by rw [← enc_q1 hp]; exact hP
        refine lv_aload_n hx hb dX6_wantLaying_84 rfl (lv_at hl 4 rfl) ?_
        refine va_get (ci := 4) (v := .ref (b 1)) (C := RX6) (T := TX6) (N := 20) hx hb hts inX6 hown hK hP 0 rfl rfl 0 (by decide) f7 (fun _ h9 => h9) rfl dX6_wantLaying_85 ?_
        refine lv_iconst (v := 2) hx hb dX6_wantLaying_88 (by decide) ?_
        refine lv_iconst (v := 3) hx hb dX6_wantLaying_89 (by decide) ?_
        refine lv_iload_n hx hb dX6_wantLaying_90 rfl (lv_at hl 3 rfl) ?_
        refine lv_imul hx hb dX6_wantLaying_91 ?_
        refine lv_iadd hx hb dX6_wantLaying_92 ?_
        refine lv_iconst (v := 2) hx hb dX6_wantLaying_93 (by decide) ?_
        refine lv_iadd hx hb dX6_wantLaying_94 ?_
        refine lv_iload hx hb dX6_wantLaying_95 (lv_at hl 0 rfl) ?_
        refine va_iast hx hb hK hP (hD _ rfl) hS 1 0 rfl rfl ((ixp hp (vp_in_iff.mpr (by decide))).2) dX6_wantLaying_97 (fun H locs hP _ hS => ?_)
        have hP : va_P D vwCl (mdw cI cL b (enc co gu (upd kn (ix (nI (nV tp (ix tm) cu))) (bI (isW tp (ix tm) (eN tp (ix tm) cu) 8))) (upd fo (ix (nI (nV tp (ix tm) cu))) (bI (isW tp (ix tm) (tAf tp (ix tm) (eN tp (ix tm) cu) 8) 9))) (upd sp (ix (nI (nV tp (ix tm) cu))) 0) ki pl ea to qu) fd mo tr b1 tp tm so_30 bg_31 te_32 wd_33 va_34 1 bo sz sh le im bf ik) H := by rw [← enc_q2 hp]; exact hP
        exact W.vret hx hb hr (fun t ht hW => ⟨⟨((co, gu, upd kn (ix (nI (nV tp (ix tm) cu))) (bI (isW tp (ix tm) (eN tp (ix tm) cu) 8)), upd fo (ix (nI (nV tp (ix tm) cu))) (bI (isW tp (ix tm) (tAf tp (ix tm) (eN tp (ix tm) cu) 8) 9)), upd sp (ix (nI (nV tp (ix tm) cu))) 0, ki, pl, ea, to, qu), 1, so_30, bg_31, te_32, wd_33, va_34), rfl, (by exact TMo_t hN (TMo_f hwd ⟨rfl, rfl, hT⟩)), by dsimp only; rw [ht]; exact hP⟩, hS.F ht⟩) hS.2.2 dX6_wantLaying_98
  · skip
    rw [bI_f hN] at hP; rw [iF_f hN] at hT
    have hP : va_P D vwCl (mdw cI cL b (enc co gu kn fo sp ki pl ea to qu) fd mo tr b1 tp tm so_4 bg_5 te_6 wd_7 va_8 0 bo sz sh le im bf ik) H := hP
    refine lv_istore_n (lv' := [(1, .int va), (0, .ref (b 0))]) hx hb dX6_wantLaying_7 rfl hl (by decide) rfl (fun ls hl => ?_)
    refine lv_aload_n hx hb dX6_wantLaying_8 rfl (lv_at hl 1 rfl) ?_
    refine lv_ldc2 hx hb hown k221 dX6_wantLaying_9 ?_
    refine callMi (va_runV (As := [.long 4351178]) (rest := []) ⟨hx, hb, hml, hown, hts⟩ (k_X6_may0 l D cI cL cS b co gu kn fo sp ki pl ea to qu fd mo tr b1 tp tm so_4 bg_5 te_6 wd_7 va_8 bo sz sh le im bf ik cu 4351178 (va_DT (hD _ rfl) rfl)) (cwV 1 hts gX6_wantLaying_X6_may rfl rfl rfl (by decide +kernel) ⟨Nat.le_of_ble_eq_true rfl, Nat.le_of_ble_eq_true rfl⟩) ⟨PcR_fb, va_recv hK hP (ci := 4) (q0 := 0) rfl rfl, PcR_pre hP hK⟩ rfl rfl hl.1 rfl (lv_room (Nat.le_of_ble_eq_true rfl)) dX6_wantLaying_12 ⟨Nat.zero_le _, Nat.zero_le _⟩) hP (hD _ rfl) hS 0 13 rfl (fun r_39 u_38 H locs hu_38 hP hS => ?_)
    have hI : r_39 = 0 := hu_38
    subst hI
    have hP : va_P D vwCl (mdw cI cL b (enc co gu kn fo sp ki pl ea to qu) fd mo tr b1 tp tm so_4 bg_5 te_6 wd_7 va_8 0 bo sz sh le im bf ik) H := hP
    refine lv_if_eq (tgt := 22) hx hb dX6_wantLaying_15 (by decide) (fun c_40 => ?_) (fun c_40 => ?_)
    · skip
      have c_40n := (cmp_eq (a := 0) (b := 0) rfl rfl (by omega) (by omega)).mp c_40
      refine lv_iconst (v := 0) hx hb dX6_wantLaying_22 (by decide) ?_
      refine lv_istore_n (lv' := [(2, .int 0), (1, .int va), (0, .ref (b 0))]) hx hb dX6_wantLaying_23 rfl hl (by decide) rfl (fun ls hl => ?_)
      refine lv_aload_n hx hb dX6_wantLaying_24 rfl (lv_at hl 2 rfl) ?_
      refine lv_ldc2 hx hb hown k226 dX6_wantLaying_25 ?_
      refine callMi (va_runV (As := [.long 1960084]) (rest := []) ⟨hx, hb, hml, hown, hts⟩ (k_X6_may0 l D cI cL cS b co gu kn fo sp ki pl ea to qu fd mo tr b1 tp tm so_4 bg_5 te_6 wd_7 va_8 bo sz sh le im bf ik cu 1960084 (va_DT (hD _ rfl) rfl)) (cwV 1 hts gX6_wantLaying_X6_may rfl rfl rfl (by decide +kernel) ⟨Nat.le_of_ble_eq_true rfl, Nat.le_of_ble_eq_true rfl⟩) ⟨PcR_fb, va_recv hK hP (ci := 4) (q0 := 0) rfl rfl, PcR_pre hP hK⟩ rfl rfl hl.1 rfl (lv_room (Nat.le_of_ble_eq_true rfl)) dX6_wantLaying_28 ⟨Nat.zero_le _, Nat.zero_le _⟩) hP (hD _ rfl) hS 0 13 rfl (fun r_42 u_41 H locs hu_41 hP hS => ?_)
      have hI : r_42 = 0 := hu_41
      subst hI
      have hP : va_P D vwCl (mdw cI cL b (enc co gu kn fo sp ki pl ea to qu) fd mo tr b1 tp tm so_4 bg_5 te_6 wd_7 va_8 0 bo sz sh le im bf ik) H := hP
      refine lv_if_eq (tgt := 38) hx hb dX6_wantLaying_31 (by decide) (fun c_43 => ?_) (fun c_43 => ?_)
      · skip
        have c_43n := (cmp_eq (a := 0) (b := 0) rfl rfl (by omega) (by omega)).mp c_43
        refine lv_iconst (v := 0) hx hb dX6_wantLaying_38 (by decide) ?_
        refine lv_istore_n (lv' := [(3, .int 0), (2, .int 0), (1, .int va), (0, .ref (b 0))]) hx hb dX6_wantLaying_39 rfl hl (by decide) rfl (fun ls hl => ?_)
        refine lv_aload_n hx hb dX6_wantLaying_40 rfl (lv_at hl 3 rfl) ?_
        refine lv_ldc2 hx hb hown k228 dX6_wantLaying_41 ?_
        refine lv_iconst (v := 0) hx hb dX6_wantLaying_44 (by decide) ?_
        refine lv_bipush (v := 9) hx hb dX6_wantLaying_45 (by decide) ?_
        refine lv_iconst (v := 0) hx hb dX6_wantLaying_47 (by decide) ?_
        refine callMi (va_runV (As := [.long 10423661, .int 0, .int 9, .int 0]) (rest := []) ⟨hx, hb, hml, hown, hts⟩ (k_X6_mayWant0 l D cI cL cS b co gu kn fo sp ki pl ea to qu fd mo tr b1 tp tm so_4 bg_5 te_6 wd_7 va_8 bo sz sh le im bf ik cu (va_DT (hD _ rfl) rfl)) (cwV 4 hts gX6_wantLaying_X6_mayWant rfl rfl rfl (by decide +kernel) ⟨Nat.le_of_ble_eq_true rfl, Nat.le_of_ble_eq_true rfl⟩) ⟨PcR_fb, va_recv hK hP (ci := 4) (q0 := 0) rfl rfl, PcR_pre hP hK⟩ rfl rfl hl.1 rfl (lv_room (Nat.le_of_ble_eq_true rfl)) dX6_wantLaying_48 ⟨Nat.zero_le _, Nat.zero_le _⟩) hP (hD _ rfl) hS 0 13 rfl (fun r_45 u_44 H locs hu_44 hP hS => ?_)
        have hI : r_45 = 0 := hu_44
        subst hI
        have hP : va_P D vwCl (mdw cI cL b (enc co gu kn fo sp ki pl ea to qu) fd mo tr b1 tp tm so_4 bg_5 te_6 wd_7 va_8 0 bo sz sh le im bf ik) H := hP
        refine lv_istore (lv' := [(4, .int 0), (3, .int 0), (2, .int 0), (1, .int va), (0, .ref (b 0))]) hx hb dX6_wantLaying_51 hl (by decide) rfl (fun ls hl => ?_)
        refine lv_aload_n hx hb dX6_wantLaying_53 rfl (lv_at hl 4 rfl) ?_
        refine va_get (ci := 4) (v := .int 0) (C := RX6) (T := TX6) (N := 20) hx hb hts inX6 hown hK hP 0 rfl rfl 12 (by decide) f211 (fun _ h9 => h9) rfl dX6_wantLaying_54 ?_
        refine lv_if_eq (tgt := 98) hx hb dX6_wantLaying_57 (by decide) (fun c_46 => ?_) (fun c_46 => ?_)
        · skip
          have c_46n := (cmp_eq (a := 0) (b := 0) rfl rfl (by omega) (by omega)).mp c_46
          exact W.vret hx hb hr (fun t ht hW => ⟨⟨((co, gu, kn, fo, sp, ki, pl, ea, to, qu), 0, so_4, bg_5, te_6, wd_7, va_8), rfl, (by exact TMo_f hN ⟨rfl, rfl, hT⟩), by dsimp only; rw [ht]; exact hP⟩, hS.F ht⟩) hS.2.2 dX6_wantLaying_98
        · skip
          have c_46n := mt (cmp_eq (a := 0) (b := 0) rfl rfl (by omega) (by omega)).mpr c_46
          exact absurd (by decide) c_46
      · skip
        have c_43n := mt (cmp_eq (a := 0) (b := 0) rfl rfl (by omega) (by omega)).mpr c_43
        exact absurd (by decide) c_43
    · skip
      have c_40n := mt (cmp_eq (a := 0) (b := 0) rfl rfl (by omega) (by omega)).mpr c_40
      exact absurd (by decide) c_40

set_option maxRecDepth 100000 in
set_option maxHeartbeats 4000000 in
theorem k_X6_wantChange (l : Launch) (D : va_G) (cI cL cS : ClassId) (b : Nat → Nat) (co gu : Int32) (kn fo sp ki pl ea to qu : FI) (fd : FI) (mo : FI) (tr : FI) (b1 : FI) (tp : FI) (tm : Int32) (so : Int32) (bg : Int32) (te : Int32) (wd : Int64) (va : Int32) (bo : FI) (sz : FI) (sh : FJ) (le : FJ) (im : FI) (bf : FI) (ik : Int32) (cu : Nat) (dj : va_D (fun _ => True) (dj0 b 13)) (ok : okT gu kn fo sp (whC gu pl) ki pl) (oe : okE ea to qu) (ol : vp_in tm 121) (hB : ∀ j, j < ix tm → ¬ tp j < 0) (hT : MTok tp (ix tm) cu so bg te wd va) : Met l yX6_wantChange wsX6_wantChange { frames := 4, cells := 0, slots := 0, locals := 86 } (PcR D vwCl (tyG cI cL cS) [.ref (b 0)] (mdw cI cL b (enc co gu kn fo sp ki pl ea to qu) fd mo tr b1 tp tm so bg te wd va 1 bo sz sh le im bf ik)) (va_Qv (fun (u : Sg × Int32 × Int32 × Int32 × Int32 × Int64 × Int32) => TMo (tChg tp (ix tm) (co, gu, kn, fo, sp, ki, pl, ea, to, qu) cu) tp (ix tm) u.2.1 u.1 u.2.2.1 u.2.2.2.1 u.2.2.2.2.1 u.2.2.2.2.2.1 u.2.2.2.2.2.2) (fun u t => va_P D vwCl (mdw cI cL b (encS u.1) fd mo tr b1 tp tm u.2.2.1 u.2.2.2.1 u.2.2.2.2.1 u.2.2.2.2.2.1 u.2.2.2.2.2.2 u.2.1 bo sz sh le im bf ik) t.heap) (Aof (mdw cI cL b (enc co gu kn fo sp ki pl ea to qu) fd mo tr b1 tp tm so bg te wd va 1 bo sz sh le im bf ik))) 0 0 (Aof (mdw cI cL b (enc co gu kn fo sp ki pl ea to qu) fd mo tr b1 tp tm so bg te wd va 1 bo sz sh le im bf ik)) := by
  refine Met.ofW (cc := cX6_wantChange) (maxL := 3) (ret := none) (by decide) rfl ?_
  intro p e s m args below meth c s₁ B hml hv
  obtain ⟨rfl, hP, hK⟩ := hv
  have hx := B.exec
  have hb := B.bytes
  have hr := B.returns
  have hts := atoms_spec (ws := wsX6_wantChange) B.pre
  have hown : s.vm.findClass RX6 = some m.cls := findClass_of_methodNamed B.named
  have hlocks := B.notSynchronized
  obtain ⟨A, hAe⟩ : ∃ A, A = Aof (mdw cI cL b (enc co gu kn fo sp ki pl ea to qu) fd mo tr b1 tp tm so bg te wd va 1 bo sz sh le im bf ik) := ⟨_, rfl⟩
  rw [← hAe]
  have hD : ∀ ws' : va_W, ws'.map Prod.fst = (mdw cI cL b (enc co gu kn fo sp ki pl ea to qu) fd mo tr b1 tp tm so bg te wd va 1 bo sz sh le im bf ik).map Prod.fst → va_D A ws' := fun ws' e => by rw [hAe]; exact va_D_adr (va_D_self (va_D_adr dj rfl)) e
  have hS : va_S A s.heap s.heap [] := va_S.rf
  have hP : va_P D vwCl (mdw cI cL b (enc co gu kn fo sp ki pl ea to qu) fd mo tr b1 tp tm so bg te wd va 1 bo sz sh le im bf ik) s.heap := hP
  have hl := lv_entry ([.ref (b 0)]) (n := 3) (Nat.le_of_ble_eq_true rfl)
  rw [lg_entry_eq]
  generalize (lg_sl ([.ref (b 0)]) ++ List.replicate (3 - (lg_sl ([.ref (b 0)])).length) Slot.unset).toArray = ls at hl ⊢
  have hl : lv_has ls 3 [(0, .ref (b 0))] := hl
  have f7 := hts (.fieldLink RX6 7 "KnivesLaidModel" "row" "[I") (List.mem_of_getElem? (i := 1) rfl)
  have inX6 : ∀ w ∈ u_ws RX6 TX6 20, w ∈ wsX6_wantChange := in_at 47 _ _ rfl
  have f211 := hts (.fieldLink RX6 211 "KnivesLaidModel" "good" "Z") (List.mem_of_getElem? (i := 2) rfl)
  have f179 := hts (.fieldLink RX6 179 "KnivesLaidModel" "sort" "I") (List.mem_of_getElem? (i := 3) rfl)
  have f186 := hts (.fieldLink RX6 186 "KnivesLaidModel" "value" "I") (List.mem_of_getElem? (i := 4) rfl)
  skip
  have hT1 := hT
  refine lv_aload_n hx hb dX6_wantChange_0 rfl (lv_at hl 0 rfl) ?_
  refine lv_iconst (v := 0) hx hb dX6_wantChange_1 (by decide) ?_
  refine lv_aload_n hx hb dX6_wantChange_2 rfl (lv_at hl 0 rfl) ?_
  refine va_get (ci := 4) (v := .ref (b 1)) (C := RX6) (T := TX6) (N := 20) hx hb hts inX6 hown hK hP 0 rfl rfl 0 (by decide) f7 (fun _ h9 => h9) rfl dX6_wantChange_3 ?_
  refine lv_iconst (v := 1) hx hb dX6_wantChange_6 (by decide) ?_
  refine va_iald hx hb hK hP 1 0 rfl rfl (vp_in_iff.mpr (by decide)) dX6_wantChange_7 ?_
  refine lv_to (y := gu) rfl ?_
  refine lv_iconst (v := 1) hx hb dX6_wantChange_8 (by decide) ?_
  refine lv_isub hx hb dX6_wantChange_9 ?_
  refine callMi (va_runV (As := [.int 0, .int (gu - 1)]) (rest := []) ⟨hx, hb, hml, hown, hts⟩ (k_X6_wantNumber1 l D cI cL cS b co gu kn fo sp ki pl ea to qu fd mo tr b1 tp tm so bg te wd va bo sz sh le im bf ik cu gu (gu - 1) (va_DT (hD _ rfl) rfl) (gu_11 ok.gu) rfl ol hB hT) (cwV 2 hts gX6_wantChange_X6_wantNumber rfl rfl rfl (by decide +kernel) ⟨Nat.le_of_ble_eq_true rfl, Nat.le_of_ble_eq_true rfl⟩) ⟨PcR_fb, va_recv hK hP (ci := 4) (q0 := 0) rfl rfl, PcR_pre hP hK⟩ rfl rfl hl.1 rfl (lv_room (Nat.le_of_ble_eq_true rfl)) dX6_wantChange_10 ⟨Nat.zero_le _, Nat.zero_le _⟩) hP (hD _ rfl) hS 0 13 rfl (fun r_2 u_1 H locs hu_1 hP hS => ?_)
  obtain ⟨gd_3, so_4, bg_5, te_6, wd_7, va_8⟩ := u_1
  have hI : r_2 = va ∧ gd_3 = bI (isN tp (ix tm) cu gu) ∧ MTok tp (ix tm) (iF (isN tp (ix tm) cu gu) (eN tp (ix tm) cu) cu) so_4 bg_5 te_6 wd_7 va_8 := hu_1
  obtain ⟨hIr, hIg, hT⟩ := hI
  have hIr := hIr.symm
  subst hIr
  subst hIg
  have hP : va_P D vwCl (mdw cI cL b (enc co gu kn fo sp ki pl ea to qu) fd mo tr b1 tp tm so_4 bg_5 te_6 wd_7 va_8 (bI (isN tp (ix tm) cu gu)) bo sz sh le im bf ik) H := hP
  by_cases hN : isN tp (ix tm) cu gu
  · skip
    rw [bI_t hN] at hP; rw [iF_t hN] at hT
    have hP : va_P D vwCl (mdw cI cL b (enc co gu kn fo sp ki pl ea to qu) fd mo tr b1 tp tm so_4 bg_5 te_6 wd_7 va_8 1 bo sz sh le im bf ik) H := hP
    refine lv_istore_n (lv' := [(1, .int va), (0, .ref (b 0))]) hx hb dX6_wantChange_13 rfl hl (by decide) rfl (fun ls hl => ?_)
    have q1 := isN_gu (σ := (co, gu, kn, fo, sp, ki, pl, ea, to, qu)) (w := whC gu pl) ⟨ok, oe⟩ hN
    rw [hT1.v (gu_11 ok.gu) hN] at hl
    have hT2 := hT
    refine lv_aload_n hx hb dX6_wantChange_14 rfl (lv_at hl 1 rfl) ?_
    refine lv_aload_n hx hb dX6_wantChange_15 rfl (lv_at hl 1 rfl) ?_
    refine va_get (ci := 4) (v := .int 1) (C := RX6) (T := TX6) (N := 20) hx hb hts inX6 hown hK hP 0 rfl rfl 12 (by decide) f211 (fun _ h9 => h9) rfl dX6_wantChange_16 ?_
    refine lv_if_eq (tgt := 42) hx hb dX6_wantChange_19 (by decide) (fun c_9 => ?_) (fun c_9 => ?_)
    · skip
      have c_9n := (cmp_eq (a := 1) (b := 0) rfl rfl (by omega) (by omega)).mp c_9
      exact absurd c_9 (by decide)
    · skip
      have c_9n := mt (cmp_eq (a := 1) (b := 0) rfl rfl (by omega) (by omega)).mpr c_9
      refine lv_aload_n hx hb dX6_wantChange_22 rfl (lv_at hl 1 rfl) ?_
      refine va_get (ci := 4) (v := .int so_4) (C := RX6) (T := TX6) (N := 20) hx hb hts inX6 hown hK hP 0 rfl rfl 7 (by decide) f179 (fun _ h9 => h9) rfl dX6_wantChange_23 ?_
      refine lv_iconst (v := 2) hx hb dX6_wantChange_26 (by decide) ?_
      refine lv_icmp_ne (tgt := 38) hx hb dX6_wantChange_27 (by decide) (fun c_10 => ?_) (fun c_10 => ?_)
      · skip
        have hne : isN tp (ix tm) (eN tp (ix tm) cu) gu → ¬ nI (nV tp (ix tm) (eN tp (ix tm) cu)) = (nI (nV tp (ix tm) cu)) := fun h => absurd ((hT.n (gu_11 ok.gu)).mpr h).1 c_10
        refine lv_iconst (v := 1) hx hb dX6_wantChange_38 (by decide) ?_
        refine lv_goto (tgt := 43) hx hb dX6_wantChange_39 (by decide) ?_
        refine va_put (ci := 4) (v := .int 1) (ty := .boolean) (C := RX6) (T := TX6) (N := 20) hx hb hts inX6 tyX6 tyX6_ok nmX6 hown hK hP (hD _ rfl) hS 0 rfl rfl 12 (by decide) f211 (fun _ h9 => h9) rfl rfl rfl rfl (Nat.le_of_ble_eq_true rfl) dX6_wantChange_43 (fun H locs hP _ hS => ?_)
        have hP : va_P D vwCl (mdw cI cL b (enc co gu kn fo sp ki pl ea to qu) fd mo tr b1 tp tm so_4 bg_5 te_6 wd_7 va_8 1 bo sz sh le im bf ik) H := hP
        refine lv_aload_n hx hb dX6_wantChange_46 rfl (lv_at hl 1 rfl) ?_
        refine lv_iconst (v := 0) hx hb dX6_wantChange_47 (by decide) ?_
        refine lv_aload_n hx hb dX6_wantChange_48 rfl (lv_at hl 1 rfl) ?_
        refine va_get (ci := 4) (v := .ref (b 1)) (C := RX6) (T := TX6) (N := 20) hx hb hts inX6 hown hK hP 0 rfl rfl 0 (by decide) f7 (fun _ h9 => h9) rfl dX6_wantChange_49 ?_
        refine lv_iconst (v := 1) hx hb dX6_wantChange_52 (by decide) ?_
        refine va_iald hx hb hK hP 1 0 rfl rfl (vp_in_iff.mpr (by decide)) dX6_wantChange_53 ?_
        refine lv_to (y := gu) rfl ?_
        refine lv_iconst (v := 1) hx hb dX6_wantChange_54 (by decide) ?_
        refine lv_isub hx hb dX6_wantChange_55 ?_
        refine callMi (va_runV (As := [.int 0, .int (gu - 1)]) (rest := []) ⟨hx, hb, hml, hown, hts⟩ (k_X6_wantNumber1 l D cI cL cS b co gu kn fo sp ki pl ea to qu fd mo tr b1 tp tm so_4 bg_5 te_6 wd_7 va_8 bo sz sh le im bf ik (eN tp (ix tm) cu) gu (gu - 1) (va_DT (hD _ rfl) rfl) (gu_11 ok.gu) rfl ol hB hT) (cwV 2 hts gX6_wantChange_X6_wantNumber rfl rfl rfl (by decide +kernel) ⟨Nat.le_of_ble_eq_true rfl, Nat.le_of_ble_eq_true rfl⟩) ⟨PcR_fb, va_recv hK hP (ci := 4) (q0 := 0) rfl rfl, PcR_pre hP hK⟩ rfl rfl hl.1 rfl (lv_room (Nat.le_of_ble_eq_true rfl)) dX6_wantChange_56 ⟨Nat.zero_le _, Nat.zero_le _⟩) hP (hD _ rfl) hS 0 13 rfl (fun r_12 u_11 H locs hu_11 hP hS => ?_)
        obtain ⟨gd_13, so_14, bg_15, te_16, wd_17, va_18⟩ := u_11
        have hI : r_12 = va_8 ∧ gd_13 = bI (isN tp (ix tm) (eN tp (ix tm) cu) gu) ∧ MTok tp (ix tm) (iF (isN tp (ix tm) (eN tp (ix tm) cu) gu) (eN tp (ix tm) (eN tp (ix tm) cu)) (eN tp (ix tm) cu)) so_14 bg_15 te_16 wd_17 va_18 := hu_11
        obtain ⟨hIr, hIg, hT⟩ := hI
        have hIr := hIr.symm
        subst hIr
        subst hIg
        have hP : va_P D vwCl (mdw cI cL b (enc co gu kn fo sp ki pl ea to qu) fd mo tr b1 tp tm so_14 bg_15 te_16 wd_17 va_18 (bI (isN tp (ix tm) (eN tp (ix tm) cu) gu)) bo sz sh le im bf ik) H := hP
        by_cases hN2 : isN tp (ix tm) (eN tp (ix tm) cu) gu
        · skip
          rw [bI_t hN2] at hP; rw [iF_t hN2] at hT
          have hP : va_P D vwCl (mdw cI cL b (enc co gu kn fo sp ki pl ea to qu) fd mo tr b1 tp tm so_14 bg_15 te_16 wd_17 va_18 1 bo sz sh le im bf ik) H := hP
          refine lv_istore_n (lv' := [(2, .int va_8), (1, .int (nI (nV tp (ix tm) cu))), (0, .ref (b 0))]) hx hb dX6_wantChange_59 rfl hl (by decide) rfl (fun ls hl => ?_)
          refine lv_aload_n hx hb dX6_wantChange_60 rfl (lv_at hl 2 rfl) ?_
          refine va_get (ci := 4) (v := .int 1) (C := RX6) (T := TX6) (N := 20) hx hb hts inX6 hown hK hP 0 rfl rfl 12 (by decide) f211 (fun _ h9 => h9) rfl dX6_wantChange_61 ?_
          refine lv_if_eq (tgt := 73) hx hb dX6_wantChange_64 (by decide) (fun c_19 => ?_) (fun c_19 => ?_)
          · skip
            have c_19n := (cmp_eq (a := 1) (b := 0) rfl rfl (by omega) (by omega)).mp c_19
            exact absurd c_19 (by decide)
          · skip
            have c_19n := mt (cmp_eq (a := 1) (b := 0) rfl rfl (by omega) (by omega)).mpr c_19
            refine lv_aload_n hx hb dX6_wantChange_67 rfl (lv_at hl 2 rfl) ?_
            refine lv_iload_n hx hb dX6_wantChange_68 rfl (lv_at hl 1 rfl) ?_
            refine lv_iload_n hx hb dX6_wantChange_69 rfl (lv_at hl 0 rfl) ?_
            refine callMv (va_runV (As := [.int (nI (nV tp (ix tm) cu)), .int va_8]) (rest := []) ⟨hx, hb, hml, hown, hts⟩ (k_X6_swaps l D cI cL cS b co gu kn fo sp ki pl ea to qu fd mo tr b1 tp tm so_14 bg_15 te_16 wd_17 va_18 1 bo sz sh le im bf ik (nI (nV tp (ix tm) cu)) va_8 (va_DT (hD _ rfl) rfl) q1.2 ((hT2.v (gu_11 ok.gu) hN2).symm ▸ (isN_gu (σ := (co, gu, kn, fo, sp, ki, pl, ea, to, qu)) (w := whC gu pl) ⟨ok, oe⟩ hN2).2)) (cwV 2 hts gX6_wantChange_X6_swaps rfl rfl rfl (by decide +kernel) ⟨Nat.le_of_ble_eq_true rfl, Nat.le_of_ble_eq_true rfl⟩) ⟨PcR_fb, va_recv hK hP (ci := 4) (q0 := 0) rfl rfl, PcR_pre hP hK⟩ rfl rfl hl.1 rfl (lv_room (Nat.le_of_ble_eq_true rfl)) dX6_wantChange_70 ⟨Nat.zero_le _, Nat.zero_le _⟩) hP (hD _ rfl) hS 0 13 rfl (fun u_20 H locs hu_20 hP hS => ?_)
            have hP : va_P D vwCl (mdw cI cL b (enc co gu kn fo sp ki (upd (upd pl (ix (nI (nV tp (ix tm) cu))) (pl (ix va_8))) (ix va_8) (pl (ix (nI (nV tp (ix tm) cu))))) ea to qu) fd mo tr b1 tp tm so_14 bg_15 te_16 wd_17 va_18 1 bo sz sh le im bf ik) H := hP
            exact W.vret hx hb hr (fun t ht hW => ⟨⟨((co, gu, kn, fo, sp, ki, upd (upd pl (ix (nI (nV tp (ix tm) cu))) (pl (ix va_8))) (ix va_8) (pl (ix (nI (nV tp (ix tm) cu)))), ea, to, qu), 1, so_14, bg_15, te_16, wd_17, va_18), rfl, (by exact TMo_t hN (TMo_t ⟨hN2, hne hN2⟩ ⟨rfl, by rw [hT2.v (gu_11 ok.gu) hN2], hT⟩)), by dsimp only; rw [ht]; exact hP⟩, hS.F ht⟩) hS.2.2 dX6_wantChange_73
        · skip
          rw [bI_f hN2] at hP; rw [iF_f hN2] at hT
          have hP : va_P D vwCl (mdw cI cL b (enc co gu kn fo sp ki pl ea to qu) fd mo tr b1 tp tm so_14 bg_15 te_16 wd_17 va_18 0 bo sz sh le im bf ik) H := hP
          refine lv_istore_n (lv' := [(2, .int va_8), (1, .int (nI (nV tp (ix tm) cu))), (0, .ref (b 0))]) hx hb dX6_wantChange_59 rfl hl (by decide) rfl (fun ls hl => ?_)
          refine lv_aload_n hx hb dX6_wantChange_60 rfl (lv_at hl 2 rfl) ?_
          refine va_get (ci := 4) (v := .int 0) (C := RX6) (T := TX6) (N := 20) hx hb hts inX6 hown hK hP 0 rfl rfl 12 (by decide) f211 (fun _ h9 => h9) rfl dX6_wantChange_61 ?_
          refine lv_if_eq (tgt := 73) hx hb dX6_wantChange_64 (by decide) (fun c_22 => ?_) (fun c_22 => ?_)
          · skip
            have c_22n := (cmp_eq (a := 0) (b := 0) rfl rfl (by omega) (by omega)).mp c_22
            exact W.vret hx hb hr (fun t ht hW => ⟨⟨((co, gu, kn, fo, sp, ki, pl, ea, to, qu), 0, so_14, bg_15, te_16, wd_17, va_18), rfl, (by exact TMo_t hN (TMo_f (fun h => hN2 h.1) ⟨rfl, rfl, hT⟩)), by dsimp only; rw [ht]; exact hP⟩, hS.F ht⟩) hS.2.2 dX6_wantChange_73
          · skip
            have c_22n := mt (cmp_eq (a := 0) (b := 0) rfl rfl (by omega) (by omega)).mpr c_22
            exact absurd (by decide) c_22
      · skip
        refine lv_aload_n hx hb dX6_wantChange_30 rfl (lv_at hl 1 rfl) ?_
        refine va_get (ci := 4) (v := .int va_8) (C := RX6) (T := TX6) (N := 20) hx hb hts inX6 hown hK hP 0 rfl rfl 11 (by decide) f186 (fun _ h9 => h9) rfl dX6_wantChange_31 ?_
        refine lv_iload_n hx hb dX6_wantChange_34 rfl (lv_at hl 0 rfl) ?_
        refine lv_icmp_eq (tgt := 42) hx hb dX6_wantChange_35 (by decide) (fun c_23 => ?_) (fun c_23 => ?_)
        · skip
          have hno : ¬ (isN tp (ix tm) (eN tp (ix tm) cu) gu ∧ ¬ nI (nV tp (ix tm) (eN tp (ix tm) cu)) = (nI (nV tp (ix tm) cu))) := fun h => h.2 ((hT.v (gu_11 ok.gu) h.1).symm.trans c_23)
          refine lv_iconst (v := 0) hx hb dX6_wantChange_42 (by decide) ?_
          refine va_put (ci := 4) (v := .int 0) (ty := .boolean) (C := RX6) (T := TX6) (N := 20) hx hb hts inX6 tyX6 tyX6_ok nmX6 hown hK hP (hD _ rfl) hS 0 rfl rfl 12 (by decide) f211 (fun _ h9 => h9) rfl rfl rfl rfl (Nat.le_of_ble_eq_true rfl) dX6_wantChange_43 (fun H locs hP _ hS => ?_)
          have hP : va_P D vwCl (mdw cI cL b (enc co gu kn fo sp ki pl ea to qu) fd mo tr b1 tp tm so_4 bg_5 te_6 wd_7 va_8 0 bo sz sh le im bf ik) H := hP
          refine lv_aload_n hx hb dX6_wantChange_46 rfl (lv_at hl 1 rfl) ?_
          refine lv_iconst (v := 0) hx hb dX6_wantChange_47 (by decide) ?_
          refine lv_aload_n hx hb dX6_wantChange_48 rfl (lv_at hl 1 rfl) ?_
          refine va_get (ci := 4) (v := .ref (b 1)) (C := RX6) (T := TX6) (N := 20) hx hb hts inX6 hown hK hP 0 rfl rfl 0 (by decide) f7 (fun _ h9 => h9) rfl dX6_wantChange_49 ?_
          refine lv_iconst (v := 1) hx hb dX6_wantChange_52 (by decide) ?_
          refine va_iald hx hb hK hP 1 0 rfl rfl (vp_in_iff.mpr (by decide)) dX6_wantChange_53 ?_
          refine lv_to (y := gu) rfl ?_
          refine lv_iconst (v := 1) hx hb dX6_wantChange_54 (by decide) ?_
          refine lv_isub hx hb dX6_wantChange_55 ?_
          refine callMi (va_runV (As := [.int 0, .int (gu - 1)]) (rest := []) ⟨hx, hb, hml, hown, hts⟩ (k_X6_wantNumber0 l D cI cL cS b co gu kn fo sp ki pl ea to qu fd mo tr b1 tp tm so_4 bg_5 te_6 wd_7 va_8 bo sz sh le im bf ik (eN tp (ix tm) cu) (gu - 1) (va_DT (hD _ rfl) rfl)) (cwV 2 hts gX6_wantChange_X6_wantNumber rfl rfl rfl (by decide +kernel) ⟨Nat.le_of_ble_eq_true rfl, Nat.le_of_ble_eq_true rfl⟩) ⟨PcR_fb, va_recv hK hP (ci := 4) (q0 := 0) rfl rfl, PcR_pre hP hK⟩ rfl rfl hl.1 rfl (lv_room (Nat.le_of_ble_eq_true rfl)) dX6_wantChange_56 ⟨Nat.zero_le _, Nat.zero_le _⟩) hP (hD _ rfl) hS 0 13 rfl (fun r_25 u_24 H locs hu_24 hP hS => ?_)
          have hI : r_25 = va_8 := hu_24
          have hI := hI.symm
          subst hI
          have hP : va_P D vwCl (mdw cI cL b (enc co gu kn fo sp ki pl ea to qu) fd mo tr b1 tp tm so_4 bg_5 te_6 wd_7 va_8 0 bo sz sh le im bf ik) H := hP
          refine lv_istore_n (lv' := [(2, .int va_8), (1, .int (nI (nV tp (ix tm) cu))), (0, .ref (b 0))]) hx hb dX6_wantChange_59 rfl hl (by decide) rfl (fun ls hl => ?_)
          refine lv_aload_n hx hb dX6_wantChange_60 rfl (lv_at hl 2 rfl) ?_
          refine va_get (ci := 4) (v := .int 0) (C := RX6) (T := TX6) (N := 20) hx hb hts inX6 hown hK hP 0 rfl rfl 12 (by decide) f211 (fun _ h9 => h9) rfl dX6_wantChange_61 ?_
          refine lv_if_eq (tgt := 73) hx hb dX6_wantChange_64 (by decide) (fun c_26 => ?_) (fun c_26 => ?_)
          · skip
            have c_26n := (cmp_eq (a := 0) (b := 0) rfl rfl (by omega) (by omega)).mp c_26
            exact W.vret hx hb hr (fun t ht hW => ⟨⟨((co, gu, kn, fo, sp, ki, pl, ea, to, qu), 0, so_4, bg_5, te_6, wd_7, va_8), rfl, (by exact TMo_t hN (TMo_f hno ⟨rfl, rfl, hT⟩)), by dsimp only; rw [ht]; exact hP⟩, hS.F ht⟩) hS.2.2 dX6_wantChange_73
          · skip
            have c_26n := mt (cmp_eq (a := 0) (b := 0) rfl rfl (by omega) (by omega)).mpr c_26
            exact absurd (by decide) c_26
        · skip
          have hne : isN tp (ix tm) (eN tp (ix tm) cu) gu → ¬ nI (nV tp (ix tm) (eN tp (ix tm) cu)) = (nI (nV tp (ix tm) cu)) := fun h e => c_23 ((hT.v (gu_11 ok.gu) h).trans e)
          refine lv_iconst (v := 1) hx hb dX6_wantChange_38 (by decide) ?_
          refine lv_goto (tgt := 43) hx hb dX6_wantChange_39 (by decide) ?_
          refine va_put (ci := 4) (v := .int 1) (ty := .boolean) (C := RX6) (T := TX6) (N := 20) hx hb hts inX6 tyX6 tyX6_ok nmX6 hown hK hP (hD _ rfl) hS 0 rfl rfl 12 (by decide) f211 (fun _ h9 => h9) rfl rfl rfl rfl (Nat.le_of_ble_eq_true rfl) dX6_wantChange_43 (fun H locs hP _ hS => ?_)
          have hP : va_P D vwCl (mdw cI cL b (enc co gu kn fo sp ki pl ea to qu) fd mo tr b1 tp tm so_4 bg_5 te_6 wd_7 va_8 1 bo sz sh le im bf ik) H := hP
          refine lv_aload_n hx hb dX6_wantChange_46 rfl (lv_at hl 1 rfl) ?_
          refine lv_iconst (v := 0) hx hb dX6_wantChange_47 (by decide) ?_
          refine lv_aload_n hx hb dX6_wantChange_48 rfl (lv_at hl 1 rfl) ?_
          refine va_get (ci := 4) (v := .ref (b 1)) (C := RX6) (T := TX6) (N := 20) hx hb hts inX6 hown hK hP 0 rfl rfl 0 (by decide) f7 (fun _ h9 => h9) rfl dX6_wantChange_49 ?_
          refine lv_iconst (v := 1) hx hb dX6_wantChange_52 (by decide) ?_
          refine va_iald hx hb hK hP 1 0 rfl rfl (vp_in_iff.mpr (by decide)) dX6_wantChange_53 ?_
          refine lv_to (y := gu) rfl ?_
          refine lv_iconst (v := 1) hx hb dX6_wantChange_54 (by decide) ?_
          refine lv_isub hx hb dX6_wantChange_55 ?_
          refine callMi (va_runV (As := [.int 0, .int (gu - 1)]) (rest := []) ⟨hx, hb, hml, hown, hts⟩ (k_X6_wantNumber1 l D cI cL cS b co gu kn fo sp ki pl ea to qu fd mo tr b1 tp tm so_4 bg_5 te_6 wd_7 va_8 bo sz sh le im bf ik (eN tp (ix tm) cu) gu (gu - 1) (va_DT (hD _ rfl) rfl) (gu_11 ok.gu) rfl ol hB hT) (cwV 2 hts gX6_wantChange_X6_wantNumber rfl rfl rfl (by decide +kernel) ⟨Nat.le_of_ble_eq_true rfl, Nat.le_of_ble_eq_true rfl⟩) ⟨PcR_fb, va_recv hK hP (ci := 4) (q0 := 0) rfl rfl, PcR_pre hP hK⟩ rfl rfl hl.1 rfl (lv_room (Nat.le_of_ble_eq_true rfl)) dX6_wantChange_56 ⟨Nat.zero_le _, Nat.zero_le _⟩) hP (hD _ rfl) hS 0 13 rfl (fun r_28 u_27 H locs hu_27 hP hS => ?_)
          obtain ⟨gd_29, so_30, bg_31, te_32, wd_33, va_34⟩ := u_27
          have hI : r_28 = va_8 ∧ gd_29 = bI (isN tp (ix tm) (eN tp (ix tm) cu) gu) ∧ MTok tp (ix tm) (iF (isN tp (ix tm) (eN tp (ix tm) cu) gu) (eN tp (ix tm) (eN tp (ix tm) cu)) (eN tp (ix tm) cu)) so_30 bg_31 te_32 wd_33 va_34 := hu_27
          obtain ⟨hIr, hIg, hT⟩ := hI
          have hIr := hIr.symm
          subst hIr
          subst hIg
          have hP : va_P D vwCl (mdw cI cL b (enc co gu kn fo sp ki pl ea to qu) fd mo tr b1 tp tm so_30 bg_31 te_32 wd_33 va_34 (bI (isN tp (ix tm) (eN tp (ix tm) cu) gu)) bo sz sh le im bf ik) H := hP
          by_cases hN2 : isN tp (ix tm) (eN tp (ix tm) cu) gu
          · skip
            rw [bI_t hN2] at hP; rw [iF_t hN2] at hT
            have hP : va_P D vwCl (mdw cI cL b (enc co gu kn fo sp ki pl ea to qu) fd mo tr b1 tp tm so_30 bg_31 te_32 wd_33 va_34 1 bo sz sh le im bf ik) H := hP
            refine lv_istore_n (lv' := [(2, .int va_8), (1, .int (nI (nV tp (ix tm) cu))), (0, .ref (b 0))]) hx hb dX6_wantChange_59 rfl hl (by decide) rfl (fun ls hl => ?_)
            refine lv_aload_n hx hb dX6_wantChange_60 rfl (lv_at hl 2 rfl) ?_
            refine va_get (ci := 4) (v := .int 1) (C := RX6) (T := TX6) (N := 20) hx hb hts inX6 hown hK hP 0 rfl rfl 12 (by decide) f211 (fun _ h9 => h9) rfl dX6_wantChange_61 ?_
            refine lv_if_eq (tgt := 73) hx hb dX6_wantChange_64 (by decide) (fun c_35 => ?_) (fun c_35 => ?_)
            · skip
              have c_35n := (cmp_eq (a := 1) (b := 0) rfl rfl (by omega) (by omega)).mp c_35
              exact absurd c_35 (by decide)
            · skip
              have c_35n := mt (cmp_eq (a := 1) (b := 0) rfl rfl (by omega) (by omega)).mpr c_35
              refine lv_aload_n hx hb dX6_wantChange_67 rfl (lv_at hl 2 rfl) ?_
              refine lv_iload_n hx hb dX6_wantChange_68 rfl (lv_at hl 1 rfl) ?_
              refine lv_iload_n hx hb dX6_wantChange_69 rfl (lv_at hl 0 rfl) ?_
              refine callMv (va_runV (As := [.int (nI (nV tp (ix tm) cu)), .int va_8]) (rest := []) ⟨hx, hb, hml, hown, hts⟩ (k_X6_swaps l D cI cL cS b co gu kn fo sp ki pl ea to qu fd mo tr b1 tp tm so_30 bg_31 te_32 wd_33 va_34 1 bo sz sh le im bf ik (nI (nV tp (ix tm) cu)) va_8 (va_DT (hD _ rfl) rfl) q1.2 ((hT2.v (gu_11 ok.gu) hN2).symm ▸ (isN_gu (σ := (co, gu, kn, fo, sp, ki, pl, ea, to, qu)) (w := whC gu pl) ⟨ok, oe⟩ hN2).2)) (cwV 2 hts gX6_wantChange_X6_swaps rfl rfl rfl (by decide +kernel) ⟨Nat.le_of_ble_eq_true rfl, Nat.le_of_ble_eq_true rfl⟩) ⟨PcR_fb, va_recv hK hP (ci := 4) (q0 := 0) rfl rfl, PcR_pre hP hK⟩ rfl rfl hl.1 rfl (lv_room (Nat.le_of_ble_eq_true rfl)) dX6_wantChange_70 ⟨Nat.zero_le _, Nat.zero_le _⟩) hP (hD _ rfl) hS 0 13 rfl (fun u_36 H locs hu_36 hP hS => ?_)
              have hP : va_P D vwCl (mdw cI cL b (enc co gu kn fo sp ki (upd (upd pl (ix (nI (nV tp (ix tm) cu))) (pl (ix va_8))) (ix va_8) (pl (ix (nI (nV tp (ix tm) cu))))) ea to qu) fd mo tr b1 tp tm so_30 bg_31 te_32 wd_33 va_34 1 bo sz sh le im bf ik) H := hP
              exact W.vret hx hb hr (fun t ht hW => ⟨⟨((co, gu, kn, fo, sp, ki, upd (upd pl (ix (nI (nV tp (ix tm) cu))) (pl (ix va_8))) (ix va_8) (pl (ix (nI (nV tp (ix tm) cu)))), ea, to, qu), 1, so_30, bg_31, te_32, wd_33, va_34), rfl, (by exact TMo_t hN (TMo_t ⟨hN2, hne hN2⟩ ⟨rfl, by rw [hT2.v (gu_11 ok.gu) hN2], hT⟩)), by dsimp only; rw [ht]; exact hP⟩, hS.F ht⟩) hS.2.2 dX6_wantChange_73
          · skip
            rw [bI_f hN2] at hP; rw [iF_f hN2] at hT
            have hP : va_P D vwCl (mdw cI cL b (enc co gu kn fo sp ki pl ea to qu) fd mo tr b1 tp tm so_30 bg_31 te_32 wd_33 va_34 0 bo sz sh le im bf ik) H := hP
            refine lv_istore_n (lv' := [(2, .int va_8), (1, .int (nI (nV tp (ix tm) cu))), (0, .ref (b 0))]) hx hb dX6_wantChange_59 rfl hl (by decide) rfl (fun ls hl => ?_)
            refine lv_aload_n hx hb dX6_wantChange_60 rfl (lv_at hl 2 rfl) ?_
            refine va_get (ci := 4) (v := .int 0) (C := RX6) (T := TX6) (N := 20) hx hb hts inX6 hown hK hP 0 rfl rfl 12 (by decide) f211 (fun _ h9 => h9) rfl dX6_wantChange_61 ?_
            refine lv_if_eq (tgt := 73) hx hb dX6_wantChange_64 (by decide) (fun c_38 => ?_) (fun c_38 => ?_)
            · skip
              have c_38n := (cmp_eq (a := 0) (b := 0) rfl rfl (by omega) (by omega)).mp c_38
              exact W.vret hx hb hr (fun t ht hW => ⟨⟨((co, gu, kn, fo, sp, ki, pl, ea, to, qu), 0, so_30, bg_31, te_32, wd_33, va_34), rfl, (by exact TMo_t hN (TMo_f (fun h => hN2 h.1) ⟨rfl, rfl, hT⟩)), by dsimp only; rw [ht]; exact hP⟩, hS.F ht⟩) hS.2.2 dX6_wantChange_73
            · skip
              have c_38n := mt (cmp_eq (a := 0) (b := 0) rfl rfl (by omega) (by omega)).mpr c_38
              exact absurd (by decide) c_38
  · skip
    rw [bI_f hN] at hP; rw [iF_f hN] at hT
    have hP : va_P D vwCl (mdw cI cL b (enc co gu kn fo sp ki pl ea to qu) fd mo tr b1 tp tm so_4 bg_5 te_6 wd_7 va_8 0 bo sz sh le im bf ik) H := hP
    refine lv_istore_n (lv' := [(1, .int va), (0, .ref (b 0))]) hx hb dX6_wantChange_13 rfl hl (by decide) rfl (fun ls hl => ?_)
    refine lv_aload_n hx hb dX6_wantChange_14 rfl (lv_at hl 1 rfl) ?_
    refine lv_aload_n hx hb dX6_wantChange_15 rfl (lv_at hl 1 rfl) ?_
    refine va_get (ci := 4) (v := .int 0) (C := RX6) (T := TX6) (N := 20) hx hb hts inX6 hown hK hP 0 rfl rfl 12 (by decide) f211 (fun _ h9 => h9) rfl dX6_wantChange_16 ?_
    refine lv_if_eq (tgt := 42) hx hb dX6_wantChange_19 (by decide) (fun c_39 => ?_) (fun c_39 => ?_)
    · skip
      have c_39n := (cmp_eq (a := 0) (b := 0) rfl rfl (by omega) (by omega)).mp c_39
      refine lv_iconst (v := 0) hx hb dX6_wantChange_42 (by decide) ?_
      refine va_put (ci := 4) (v := .int 0) (ty := .boolean) (C := RX6) (T := TX6) (N := 20) hx hb hts inX6 tyX6 tyX6_ok nmX6 hown hK hP (hD _ rfl) hS 0 rfl rfl 12 (by decide) f211 (fun _ h9 => h9) rfl rfl rfl rfl (Nat.le_of_ble_eq_true rfl) dX6_wantChange_43 (fun H locs hP _ hS => ?_)
      have hP : va_P D vwCl (mdw cI cL b (enc co gu kn fo sp ki pl ea to qu) fd mo tr b1 tp tm so_4 bg_5 te_6 wd_7 va_8 0 bo sz sh le im bf ik) H := hP
      refine lv_aload_n hx hb dX6_wantChange_46 rfl (lv_at hl 1 rfl) ?_
      refine lv_iconst (v := 0) hx hb dX6_wantChange_47 (by decide) ?_
      refine lv_aload_n hx hb dX6_wantChange_48 rfl (lv_at hl 1 rfl) ?_
      refine va_get (ci := 4) (v := .ref (b 1)) (C := RX6) (T := TX6) (N := 20) hx hb hts inX6 hown hK hP 0 rfl rfl 0 (by decide) f7 (fun _ h9 => h9) rfl dX6_wantChange_49 ?_
      refine lv_iconst (v := 1) hx hb dX6_wantChange_52 (by decide) ?_
      refine va_iald hx hb hK hP 1 0 rfl rfl (vp_in_iff.mpr (by decide)) dX6_wantChange_53 ?_
      refine lv_to (y := gu) rfl ?_
      refine lv_iconst (v := 1) hx hb dX6_wantChange_54 (by decide) ?_
      refine lv_isub hx hb dX6_wantChange_55 ?_
      refine callMi (va_runV (As := [.int 0, .int (gu - 1)]) (rest := []) ⟨hx, hb, hml, hown, hts⟩ (k_X6_wantNumber0 l D cI cL cS b co gu kn fo sp ki pl ea to qu fd mo tr b1 tp tm so_4 bg_5 te_6 wd_7 va_8 bo sz sh le im bf ik cu (gu - 1) (va_DT (hD _ rfl) rfl)) (cwV 2 hts gX6_wantChange_X6_wantNumber rfl rfl rfl (by decide +kernel) ⟨Nat.le_of_ble_eq_true rfl, Nat.le_of_ble_eq_true rfl⟩) ⟨PcR_fb, va_recv hK hP (ci := 4) (q0 := 0) rfl rfl, PcR_pre hP hK⟩ rfl rfl hl.1 rfl (lv_room (Nat.le_of_ble_eq_true rfl)) dX6_wantChange_56 ⟨Nat.zero_le _, Nat.zero_le _⟩) hP (hD _ rfl) hS 0 13 rfl (fun r_41 u_40 H locs hu_40 hP hS => ?_)
      have hI : r_41 = va_8 := hu_40
      have hI := hI.symm
      subst hI
      have hP : va_P D vwCl (mdw cI cL b (enc co gu kn fo sp ki pl ea to qu) fd mo tr b1 tp tm so_4 bg_5 te_6 wd_7 va_8 0 bo sz sh le im bf ik) H := hP
      refine lv_istore_n (lv' := [(2, .int va_8), (1, .int va), (0, .ref (b 0))]) hx hb dX6_wantChange_59 rfl hl (by decide) rfl (fun ls hl => ?_)
      refine lv_aload_n hx hb dX6_wantChange_60 rfl (lv_at hl 2 rfl) ?_
      refine va_get (ci := 4) (v := .int 0) (C := RX6) (T := TX6) (N := 20) hx hb hts inX6 hown hK hP 0 rfl rfl 12 (by decide) f211 (fun _ h9 => h9) rfl dX6_wantChange_61 ?_
      refine lv_if_eq (tgt := 73) hx hb dX6_wantChange_64 (by decide) (fun c_42 => ?_) (fun c_42 => ?_)
      · skip
        have c_42n := (cmp_eq (a := 0) (b := 0) rfl rfl (by omega) (by omega)).mp c_42
        exact W.vret hx hb hr (fun t ht hW => ⟨⟨((co, gu, kn, fo, sp, ki, pl, ea, to, qu), 0, so_4, bg_5, te_6, wd_7, va_8), rfl, (by exact TMo_f hN ⟨rfl, rfl, hT⟩), by dsimp only; rw [ht]; exact hP⟩, hS.F ht⟩) hS.2.2 dX6_wantChange_73
      · skip
        have c_42n := mt (cmp_eq (a := 0) (b := 0) rfl rfl (by omega) (by omega)).mpr c_42
        exact absurd (by decide) c_42
    · skip
      have c_39n := mt (cmp_eq (a := 0) (b := 0) rfl rfl (by omega) (by omega)).mpr c_39
      exact absurd (by decide) c_39

set_option maxRecDepth 100000 in
set_option maxHeartbeats 4000000 in
theorem k_X6_wantItem (l : Launch) (D : va_G) (cI cL cS : ClassId) (b : Nat → Nat) (co gu : Int32) (kn fo sp ki pl ea to qu : FI) (fd : FI) (mo : FI) (tr : FI) (b1 : FI) (tp : FI) (tm : Int32) (so : Int32) (bg : Int32) (te : Int32) (wd : Int64) (va : Int32) (bo : FI) (sz : FI) (sh : FJ) (le : FJ) (im : FI) (bf : FI) (ik : Int32) (cu : Nat) (dj : va_D (fun _ => True) (dj0 b 13)) (ok : okT gu kn fo sp (whC gu pl) ki pl) (oe : okE ea to qu) (ol : vp_in tm 121) (hB : ∀ j, j < ix tm → ¬ tp j < 0) (hT : MTok tp (ix tm) cu so bg te wd va) : Met l yX6_wantItem wsX6_wantItem { frames := 6, cells := 0, slots := 0, locals := 135 } (PcR D vwCl (tyG cI cL cS) [.ref (b 0)] (mdw cI cL b (enc co gu kn fo sp ki pl ea to qu) fd mo tr b1 tp tm so bg te wd va 1 bo sz sh le im bf ik)) (va_Qv (fun (u : Sg × Int32 × Int32 × Int32 × Int32 × Int64 × Int32) => TMo (tItem tp (ix tm) (co, gu, kn, fo, sp, ki, pl, ea, to, qu) cu) tp (ix tm) u.2.1 u.1 u.2.2.1 u.2.2.2.1 u.2.2.2.2.1 u.2.2.2.2.2.1 u.2.2.2.2.2.2) (fun u t => va_P D vwCl (mdw cI cL b (encS u.1) fd mo tr b1 tp tm u.2.2.1 u.2.2.2.1 u.2.2.2.2.1 u.2.2.2.2.2.1 u.2.2.2.2.2.2 u.2.1 bo sz sh le im bf ik) t.heap) (Aof (mdw cI cL b (enc co gu kn fo sp ki pl ea to qu) fd mo tr b1 tp tm so bg te wd va 1 bo sz sh le im bf ik))) 0 0 (Aof (mdw cI cL b (enc co gu kn fo sp ki pl ea to qu) fd mo tr b1 tp tm so bg te wd va 1 bo sz sh le im bf ik)) := by
  refine Met.ofW (cc := cX6_wantItem) (maxL := 1) (ret := none) (by decide) rfl ?_
  intro p e s m args below meth c s₁ B hml hv
  obtain ⟨rfl, hP, hK⟩ := hv
  have hx := B.exec
  have hb := B.bytes
  have hr := B.returns
  have hts := atoms_spec (ws := wsX6_wantItem) B.pre
  have hown : s.vm.findClass RX6 = some m.cls := findClass_of_methodNamed B.named
  have hlocks := B.notSynchronized
  obtain ⟨A, hAe⟩ : ∃ A, A = Aof (mdw cI cL b (enc co gu kn fo sp ki pl ea to qu) fd mo tr b1 tp tm so bg te wd va 1 bo sz sh le im bf ik) := ⟨_, rfl⟩
  rw [← hAe]
  have hD : ∀ ws' : va_W, ws'.map Prod.fst = (mdw cI cL b (enc co gu kn fo sp ki pl ea to qu) fd mo tr b1 tp tm so bg te wd va 1 bo sz sh le im bf ik).map Prod.fst → va_D A ws' := fun ws' e => by rw [hAe]; exact va_D_adr (va_D_self (va_D_adr dj rfl)) e
  have hS : va_S A s.heap s.heap [] := va_S.rf
  have hP : va_P D vwCl (mdw cI cL b (enc co gu kn fo sp ki pl ea to qu) fd mo tr b1 tp tm so bg te wd va 1 bo sz sh le im bf ik) s.heap := hP
  have hl := lv_entry ([.ref (b 0)]) (n := 1) (Nat.le_of_ble_eq_true rfl)
  rw [lg_entry_eq]
  generalize (lg_sl ([.ref (b 0)]) ++ List.replicate (1 - (lg_sl ([.ref (b 0)])).length) Slot.unset).toArray = ls at hl ⊢
  have hl : lv_has ls 1 [(0, .ref (b 0))] := hl
  have k240 := hts (.constantLong RX6 240 (8800)) (List.mem_of_getElem? (i := 1) rfl)
  have k245 := hts (.constantLong RX6 245 (47328332)) (List.mem_of_getElem? (i := 2) rfl)
  have f211 := hts (.fieldLink RX6 211 "KnivesLaidModel" "good" "Z") (List.mem_of_getElem? (i := 3) rfl)
  have inX6 : ∀ w ∈ u_ws RX6 TX6 20, w ∈ wsX6_wantItem := in_at 97 _ _ rfl
  skip
  refine lv_aload_n hx hb dX6_wantItem_0 rfl (lv_at hl 0 rfl) ?_
  refine callE (W.runV (As := []) (rest := []) ⟨hx, hb, hml, hown, hts⟩ (k_X6_kindHere l D cI cL cS b co gu kn fo sp ki pl ea to qu fd mo tr b1 tp tm so bg te wd va 1 bo sz sh le im bf ik cu hT) (cwV 0 hts gX6_wantItem_X6_kindHere rfl rfl rfl (by decide +kernel) ⟨Nat.le_of_ble_eq_true rfl, Nat.le_of_ble_eq_true rfl⟩) ⟨PcR_fb, va_recv hK hP (ci := 4) (q0 := 0) rfl rfl, PcR_pre hP hK⟩ rfl rfl hl.1 rfl (lv_room (Nat.le_of_ble_eq_true rfl)) dX6_wantItem_1 ⟨Nat.zero_le _, Nat.zero_le _⟩) ?_
  refine lv_if_lt (tgt := 18) hx hb dX6_wantItem_4 (by decide) (fun c_1 => ?_) (fun c_1 => ?_)
  · skip
    refine lv_aload_n hx hb dX6_wantItem_18 rfl (lv_at hl 0 rfl) ?_
    refine lv_ldc2 hx hb hown k240 dX6_wantItem_19 ?_
    refine callMi (va_runV (As := [.long 8800]) (rest := []) ⟨hx, hb, hml, hown, hts⟩ (k_X6_may1 l D cI cL cS b co gu kn fo sp ki pl ea to qu fd mo tr b1 tp tm so bg te wd va bo sz sh le im bf ik cu 6 8800 (va_DT (hD _ rfl) rfl) (by decide) rfl ol hB hT) (cwV 1 hts gX6_wantItem_X6_may rfl rfl rfl (by decide +kernel) ⟨Nat.le_of_ble_eq_true rfl, Nat.le_of_ble_eq_true rfl⟩) ⟨PcR_fb, va_recv hK hP (ci := 4) (q0 := 0) rfl rfl, PcR_pre hP hK⟩ rfl rfl hl.1 rfl (lv_room (Nat.le_of_ble_eq_true rfl)) dX6_wantItem_22 ⟨Nat.zero_le _, Nat.zero_le _⟩) hP (hD _ rfl) hS 0 13 rfl (fun r_3 u_2 H locs hu_2 hP hS => ?_)
    obtain ⟨so_4, bg_5, te_6, wd_7, va_8⟩ := u_2
    have hI : r_3 = bI (isW tp (ix tm) cu 6) ∧ MTok tp (ix tm) (tAf tp (ix tm) cu 6) so_4 bg_5 te_6 wd_7 va_8 := hu_2
    obtain ⟨hIr, hT⟩ := hI
    subst hIr
    have hP : va_P D vwCl (mdw cI cL b (enc co gu kn fo sp ki pl ea to qu) fd mo tr b1 tp tm so_4 bg_5 te_6 wd_7 va_8 1 bo sz sh le im bf ik) H := hP
    by_cases h6 : isW tp (ix tm) cu 6
    · skip
      rw [tAf_t h6] at hT
      refine lv_to (y := 1) (bI_t h6) ?_
      refine lv_if_eq (tgt := 35) hx hb dX6_wantItem_25 (by decide) (fun c_9 => ?_) (fun c_9 => ?_)
      · skip
        have c_9n := (cmp_eq (a := 1) (b := 0) rfl rfl (by omega) (by omega)).mp c_9
        exact absurd c_9 (by decide)
      · skip
        have c_9n := mt (cmp_eq (a := 1) (b := 0) rfl rfl (by omega) (by omega)).mpr c_9
        refine lv_aload_n hx hb dX6_wantItem_28 rfl (lv_at hl 0 rfl) ?_
        refine callMv (va_runV (As := []) (rest := []) ⟨hx, hb, hml, hown, hts⟩ (k_X6_wantLaying l D cI cL cS b co gu kn fo sp ki pl ea to qu fd mo tr b1 tp tm so_4 bg_5 te_6 wd_7 va_8 bo sz sh le im bf ik (eN tp (ix tm) cu) (va_DT (hD _ rfl) rfl) ol hB hT) (cwV 0 hts gX6_wantItem_X6_wantLaying rfl rfl rfl (by decide +kernel) ⟨Nat.le_of_ble_eq_true rfl, Nat.le_of_ble_eq_true rfl⟩) ⟨PcR_fb, va_recv hK hP (ci := 4) (q0 := 0) rfl rfl, PcR_pre hP hK⟩ rfl rfl hl.1 rfl (lv_room (Nat.le_of_ble_eq_true rfl)) dX6_wantItem_29 ⟨Nat.zero_le _, Nat.zero_le _⟩) hP (hD _ rfl) hS 0 13 rfl (fun u_10 H locs hu_10 hP hS => ?_)
        obtain ⟨S_12, gd_13, so_14, bg_15, te_16, wd_17, va_18⟩ := u_10
        have hI : TMo (tLay tp (ix tm) (co, gu, kn, fo, sp, ki, pl, ea, to, qu) (eN tp (ix tm) cu)) tp (ix tm) gd_13 S_12 so_14 bg_15 te_16 wd_17 va_18 := hu_10
        have hP : va_P D vwCl (mdw cI cL b (enc (sCo S_12) (sGu S_12) (sKn S_12) (sFo S_12) (sSp S_12) (sKi S_12) (sPl S_12) (sEa S_12) (sTo S_12) (sQu S_12)) fd mo tr b1 tp tm so_14 bg_15 te_16 wd_17 va_18 gd_13 bo sz sh le im bf ik) H := hP
        refine lv_goto (tgt := 57) hx hb dX6_wantItem_32 (by decide) ?_
        exact W.vret hx hb hr (fun t ht hW => ⟨⟨(((sCo S_12), (sGu S_12), (sKn S_12), (sFo S_12), (sSp S_12), (sKi S_12), (sPl S_12), (sEa S_12), (sTo S_12), (sQu S_12)), gd_13, so_14, bg_15, te_16, wd_17, va_18), rfl, (by exact TMo_t h6 hI), by dsimp only; rw [ht]; exact hP⟩, hS.F ht⟩) hS.2.2 dX6_wantItem_57
    · skip
      rw [tAf_f h6] at hT
      refine lv_to (y := 0) (bI_f h6) ?_
      refine lv_if_eq (tgt := 35) hx hb dX6_wantItem_25 (by decide) (fun c_19 => ?_) (fun c_19 => ?_)
      · skip
        have c_19n := (cmp_eq (a := 0) (b := 0) rfl rfl (by omega) (by omega)).mp c_19
        refine lv_aload_n hx hb dX6_wantItem_35 rfl (lv_at hl 0 rfl) ?_
        refine lv_ldc2 hx hb hown k245 dX6_wantItem_36 ?_
        refine callMi (va_runV (As := [.long 47328332]) (rest := []) ⟨hx, hb, hml, hown, hts⟩ (k_X6_may1 l D cI cL cS b co gu kn fo sp ki pl ea to qu fd mo tr b1 tp tm so_4 bg_5 te_6 wd_7 va_8 bo sz sh le im bf ik cu 7 47328332 (va_DT (hD _ rfl) rfl) (by decide) rfl ol hB hT) (cwV 1 hts gX6_wantItem_X6_may rfl rfl rfl (by decide +kernel) ⟨Nat.le_of_ble_eq_true rfl, Nat.le_of_ble_eq_true rfl⟩) ⟨PcR_fb, va_recv hK hP (ci := 4) (q0 := 0) rfl rfl, PcR_pre hP hK⟩ rfl rfl hl.1 rfl (lv_room (Nat.le_of_ble_eq_true rfl)) dX6_wantItem_39 ⟨Nat.zero_le _, Nat.zero_le _⟩) hP (hD _ rfl) hS 0 13 rfl (fun r_21 u_20 H locs hu_20 hP hS => ?_)
        obtain ⟨so_22, bg_23, te_24, wd_25, va_26⟩ := u_20
        have hI : r_21 = bI (isW tp (ix tm) cu 7) ∧ MTok tp (ix tm) (tAf tp (ix tm) cu 7) so_22 bg_23 te_24 wd_25 va_26 := hu_20
        obtain ⟨hIr, hT⟩ := hI
        subst hIr
        have hP : va_P D vwCl (mdw cI cL b (enc co gu kn fo sp ki pl ea to qu) fd mo tr b1 tp tm so_22 bg_23 te_24 wd_25 va_26 1 bo sz sh le im bf ik) H := hP
        by_cases h7 : isW tp (ix tm) cu 7
        · skip
          rw [tAf_t h7] at hT
          refine lv_to (y := 1) (bI_t h7) ?_
          refine lv_if_eq (tgt := 52) hx hb dX6_wantItem_42 (by decide) (fun c_27 => ?_) (fun c_27 => ?_)
          · skip
            have c_27n := (cmp_eq (a := 1) (b := 0) rfl rfl (by omega) (by omega)).mp c_27
            exact absurd c_27 (by decide)
          · skip
            have c_27n := mt (cmp_eq (a := 1) (b := 0) rfl rfl (by omega) (by omega)).mpr c_27
            refine lv_aload_n hx hb dX6_wantItem_45 rfl (lv_at hl 0 rfl) ?_
            refine callMv (va_runV (As := []) (rest := []) ⟨hx, hb, hml, hown, hts⟩ (k_X6_wantChange l D cI cL cS b co gu kn fo sp ki pl ea to qu fd mo tr b1 tp tm so_22 bg_23 te_24 wd_25 va_26 bo sz sh le im bf ik (eN tp (ix tm) cu) (va_DT (hD _ rfl) rfl) ok oe ol hB hT) (cwV 0 hts gX6_wantItem_X6_wantChange rfl rfl rfl (by decide +kernel) ⟨Nat.le_of_ble_eq_true rfl, Nat.le_of_ble_eq_true rfl⟩) ⟨PcR_fb, va_recv hK hP (ci := 4) (q0 := 0) rfl rfl, PcR_pre hP hK⟩ rfl rfl hl.1 rfl (lv_room (Nat.le_of_ble_eq_true rfl)) dX6_wantItem_46 ⟨Nat.zero_le _, Nat.zero_le _⟩) hP (hD _ rfl) hS 0 13 rfl (fun u_28 H locs hu_28 hP hS => ?_)
            obtain ⟨S_30, gd_31, so_32, bg_33, te_34, wd_35, va_36⟩ := u_28
            have hI : TMo (tChg tp (ix tm) (co, gu, kn, fo, sp, ki, pl, ea, to, qu) (eN tp (ix tm) cu)) tp (ix tm) gd_31 S_30 so_32 bg_33 te_34 wd_35 va_36 := hu_28
            have hP : va_P D vwCl (mdw cI cL b (enc (sCo S_30) (sGu S_30) (sKn S_30) (sFo S_30) (sSp S_30) (sKi S_30) (sPl S_30) (sEa S_30) (sTo S_30) (sQu S_30)) fd mo tr b1 tp tm so_32 bg_33 te_34 wd_35 va_36 gd_31 bo sz sh le im bf ik) H := hP
            refine lv_goto (tgt := 57) hx hb dX6_wantItem_49 (by decide) ?_
            exact W.vret hx hb hr (fun t ht hW => ⟨⟨(((sCo S_30), (sGu S_30), (sKn S_30), (sFo S_30), (sSp S_30), (sKi S_30), (sPl S_30), (sEa S_30), (sTo S_30), (sQu S_30)), gd_31, so_32, bg_33, te_34, wd_35, va_36), rfl, (by exact TMo_f h6 (TMo_t h7 hI)), by dsimp only; rw [ht]; exact hP⟩, hS.F ht⟩) hS.2.2 dX6_wantItem_57
        · skip
          rw [tAf_f h7] at hT
          refine lv_to (y := 0) (bI_f h7) ?_
          refine lv_if_eq (tgt := 52) hx hb dX6_wantItem_42 (by decide) (fun c_37 => ?_) (fun c_37 => ?_)
          · skip
            have c_37n := (cmp_eq (a := 0) (b := 0) rfl rfl (by omega) (by omega)).mp c_37
            refine lv_aload_n hx hb dX6_wantItem_52 rfl (lv_at hl 0 rfl) ?_
            refine lv_iconst (v := 0) hx hb dX6_wantItem_53 (by decide) ?_
            refine va_put (ci := 4) (v := .int 0) (ty := .boolean) (C := RX6) (T := TX6) (N := 20) hx hb hts inX6 tyX6 tyX6_ok nmX6 hown hK hP (hD _ rfl) hS 0 rfl rfl 12 (by decide) f211 (fun _ h9 => h9) rfl rfl rfl rfl (Nat.le_of_ble_eq_true rfl) dX6_wantItem_54 (fun H locs hP _ hS => ?_)
            have hP : va_P D vwCl (mdw cI cL b (enc co gu kn fo sp ki pl ea to qu) fd mo tr b1 tp tm so_22 bg_23 te_24 wd_25 va_26 0 bo sz sh le im bf ik) H := hP
            exact W.vret hx hb hr (fun t ht hW => ⟨⟨((co, gu, kn, fo, sp, ki, pl, ea, to, qu), 0, so_22, bg_23, te_24, wd_25, va_26), rfl, (by exact TMo_f h6 (TMo_f h7 (TMo_t c_1 ⟨rfl, rfl, hT⟩))), by dsimp only; rw [ht]; exact hP⟩, hS.F ht⟩) hS.2.2 dX6_wantItem_57
          · skip
            have c_37n := mt (cmp_eq (a := 0) (b := 0) rfl rfl (by omega) (by omega)).mpr c_37
            exact absurd (by decide) c_37
      · skip
        have c_19n := mt (cmp_eq (a := 0) (b := 0) rfl rfl (by omega) (by omega)).mpr c_19
        exact absurd (by decide) c_19
  · skip
    refine lv_aload_n hx hb dX6_wantItem_7 rfl (lv_at hl 0 rfl) ?_
    refine lv_aload_n hx hb dX6_wantItem_8 rfl (lv_at hl 0 rfl) ?_
    refine callE (W.runV (As := []) (rest := [.ref (b 0)]) ⟨hx, hb, hml, hown, hts⟩ (k_X6_kindHere l D cI cL cS b co gu kn fo sp ki pl ea to qu fd mo tr b1 tp tm so bg te wd va 1 bo sz sh le im bf ik cu hT) (cwV 0 hts gX6_wantItem_X6_kindHere rfl rfl rfl (by decide +kernel) ⟨Nat.le_of_ble_eq_true rfl, Nat.le_of_ble_eq_true rfl⟩) ⟨PcR_fb, va_recv hK hP (ci := 4) (q0 := 0) rfl rfl, PcR_pre hP hK⟩ rfl rfl hl.1 rfl (lv_room (Nat.le_of_ble_eq_true rfl)) dX6_wantItem_9 ⟨Nat.zero_le _, Nat.zero_le _⟩) ?_
    refine callMv (va_runV (As := [.int (tKd tp (ix tm) cu)]) (rest := []) ⟨hx, hb, hml, hown, hts⟩ (k_X6_wantOne l D cI cL cS b co gu kn fo sp ki pl ea to qu fd mo tr b1 tp tm so bg te wd va 1 bo sz sh le im bf ik cu (tKd tp (ix tm) cu) (va_DT (hD _ rfl) rfl) ok ol hB hT) (cwV 1 hts gX6_wantItem_X6_wantOne rfl rfl rfl (by decide +kernel) ⟨Nat.le_of_ble_eq_true rfl, Nat.le_of_ble_eq_true rfl⟩) ⟨PcR_fb, va_recv hK hP (ci := 4) (q0 := 0) rfl rfl, PcR_pre hP hK⟩ rfl rfl hl.1 rfl (lv_room (Nat.le_of_ble_eq_true rfl)) dX6_wantItem_12 ⟨Nat.zero_le _, Nat.zero_le _⟩) hP (hD _ rfl) hS 0 13 rfl (fun u_38 H locs hu_38 hP hS => ?_)
    obtain ⟨S_40, gd_41, so_42, bg_43, te_44, wd_45, va_46⟩ := u_38
    have hI : TMo (iF (8 ≤ sGu (co, gu, kn, fo, sp, ki, pl, ea, to, qu)) (0, (co, gu, kn, fo, sp, ki, pl, ea, to, qu), cu) (tGst tp (ix tm) (co, gu, kn, fo, sp, ki, pl, ea, to, qu) (tKd tp (ix tm) cu) (eN tp (ix tm) cu))) tp (ix tm) gd_41 S_40 so_42 bg_43 te_44 wd_45 va_46 := hu_38
    have hP : va_P D vwCl (mdw cI cL b (enc (sCo S_40) (sGu S_40) (sKn S_40) (sFo S_40) (sSp S_40) (sKi S_40) (sPl S_40) (sEa S_40) (sTo S_40) (sQu S_40)) fd mo tr b1 tp tm so_42 bg_43 te_44 wd_45 va_46 gd_41 bo sz sh le im bf ik) H := hP
    refine lv_goto (tgt := 57) hx hb dX6_wantItem_15 (by decide) ?_
    exact W.vret hx hb hr (fun t ht hW => ⟨⟨(((sCo S_40), (sGu S_40), (sKn S_40), (sFo S_40), (sSp S_40), (sKi S_40), (sPl S_40), (sEa S_40), (sTo S_40), (sQu S_40)), gd_41, so_42, bg_43, te_44, wd_45, va_46), rfl, (by rw [tIt_1 (Int32.not_lt.mpr (Int32.not_lt.mp c_1))]; exact hI), by dsimp only; rw [ht]; exact hP⟩, hS.F ht⟩) hS.2.2 dX6_wantItem_57

set_option maxRecDepth 100000 in
set_option maxHeartbeats 4000000 in
theorem k_X6_dinner (l : Launch) (D : va_G) (cI cL cS : ClassId) (b : Nat → Nat) (co gu : Int32) (kn fo sp ki pl ea to qu : FI) (fd : FI) (mo : FI) (tr : FI) (b1 : FI) (tp : FI) (tm : Int32) (so : Int32) (bg : Int32) (te : Int32) (wd : Int64) (va : Int32) (gd : Int32) (bo : FI) (sz : FI) (sh : FJ) (le : FJ) (im : FI) (bf : FI) (ik : Int32) (cu : Nat) (dj : va_D (fun _ => True) (dj0 b 13)) (ok : okT gu kn fo sp (whC gu pl) ki pl) (oe : okE ea to qu) (ol : vp_in tm 121) (hB : ∀ j, j < ix tm → ¬ tp j < 0) : Met l yX6_dinner wsX6_dinner { frames := 7, cells := 0, slots := 0, locals := 155 } (PcR D vwCl (tyG cI cL cS) [.ref (b 0)] (mdw cI cL b (enc co gu kn fo sp ki pl ea to qu) fd mo tr b1 tp tm so bg te wd va gd bo sz sh le im bf ik)) (va_Qi (fun (r : Int32) (u : Sg × Int32 × Int32 × FI × Int32 × Int32 × Int32 × Int64 × Int32) => (r, u.1) = sDinner tp (ix tm) (co, gu, kn, fo, sp, ki, pl, ea, to, qu) ∧ u.2.1 = 0) (fun u t => va_P D vwCl (mdw cI cL b (encS u.1) fd mo tr b1 tp u.2.1 u.2.2.2.2.1 u.2.2.2.2.2.1 u.2.2.2.2.2.2.1 u.2.2.2.2.2.2.2.1 u.2.2.2.2.2.2.2.2 u.2.2.1 bo sz sh le im u.2.2.2.1 ik) t.heap) (Aof (mdw cI cL b (enc co gu kn fo sp ki pl ea to qu) fd mo tr b1 tp tm so bg te wd va gd bo sz sh le im bf ik))) 0 0 (Aof (mdw cI cL b (enc co gu kn fo sp ki pl ea to qu) fd mo tr b1 tp tm so bg te wd va gd bo sz sh le im bf ik)) := by
  refine Met.ofW (cc := cX6_dinner) (maxL := 3) (ret := (some .int)) (by decide) rfl ?_
  intro p e s m args below meth c s₁ B hml hv
  obtain ⟨rfl, hP, hK⟩ := hv
  have hx := B.exec
  have hb := B.bytes
  have hr := B.returns
  have hts := atoms_spec (ws := wsX6_dinner) B.pre
  have hown : s.vm.findClass RX6 = some m.cls := findClass_of_methodNamed B.named
  have hlocks := B.notSynchronized
  obtain ⟨A, hAe⟩ : ∃ A, A = Aof (mdw cI cL b (enc co gu kn fo sp ki pl ea to qu) fd mo tr b1 tp tm so bg te wd va gd bo sz sh le im bf ik) := ⟨_, rfl⟩
  rw [← hAe]
  have hD : ∀ ws' : va_W, ws'.map Prod.fst = (mdw cI cL b (enc co gu kn fo sp ki pl ea to qu) fd mo tr b1 tp tm so bg te wd va gd bo sz sh le im bf ik).map Prod.fst → va_D A ws' := fun ws' e => by rw [hAe]; exact va_D_adr (va_D_self (va_D_adr dj rfl)) e
  have hS : va_S A s.heap s.heap [] := va_S.rf
  have hP : va_P D vwCl (mdw cI cL b (enc co gu kn fo sp ki pl ea to qu) fd mo tr b1 tp tm so bg te wd va gd bo sz sh le im bf ik) s.heap := hP
  have hl := lv_entry ([.ref (b 0)]) (n := 3) (Nat.le_of_ble_eq_true rfl)
  rw [lg_entry_eq]
  generalize (lg_sl ([.ref (b 0)]) ++ List.replicate (3 - (lg_sl ([.ref (b 0)])).length) Slot.unset).toArray = ls at hl ⊢
  have hl : lv_has ls 3 [(0, .ref (b 0))] := hl
  have f44 := hts (.fieldLink RX6 44 "KnivesLaidModel" "before" "[I") (List.mem_of_getElem? (i := 1) rfl)
  have inX6 : ∀ w ∈ u_ws RX6 TX6 20, w ∈ wsX6_dinner := in_at 106 _ _ rfl
  have f164 := hts (.fieldLink RX6 164 "KnivesLaidModel" "tokenEnds" "I") (List.mem_of_getElem? (i := 2) rfl)
  have f211 := hts (.fieldLink RX6 211 "KnivesLaidModel" "good" "Z") (List.mem_of_getElem? (i := 3) rfl)
  have f160 := hts (.fieldLink RX6 160 "KnivesLaidModel" "tapeMany" "I") (List.mem_of_getElem? (i := 6) rfl)
  have f167 := hts (.fieldLink RX6 167 "KnivesLaidModel" "begins" "I") (List.mem_of_getElem? (i := 7) rfl)
  have f179 := hts (.fieldLink RX6 179 "KnivesLaidModel" "sort" "I") (List.mem_of_getElem? (i := 4) rfl)
  have f186 := hts (.fieldLink RX6 186 "KnivesLaidModel" "value" "I") (List.mem_of_getElem? (i := 5) rfl)
  skip
  have hln := ln_of ol
  have hl120 := hln.2
  have hlnn := hln.1
  refine lv_aload_n hx hb dX6_dinner_0 rfl (lv_at hl 0 rfl) ?_
  refine lv_iconst (v := 1) hx hb dX6_dinner_1 (by decide) ?_
  refine lv_aload_n hx hb dX6_dinner_2 rfl (lv_at hl 0 rfl) ?_
  refine va_get (ci := 4) (v := .ref (b 12)) (C := RX6) (T := TX6) (N := 20) hx hb hts inX6 hown hK hP 0 rfl rfl 18 (by decide) f44 (fun _ h9 => h9) rfl dX6_dinner_3 ?_
  refine callMv (va_runV (As := [.int 1, .ref (b 12)]) (rest := []) ⟨hx, hb, hml, hown, hts⟩ (k_X6_moveAll_bf1 l D cI cL cS b co gu kn fo sp ki pl ea to qu fd mo tr b1 tp tm so bg te wd va gd bo sz sh le im bf ik (va_DT (hD _ rfl) rfl)) (cwV 2 hts gX6_dinner_X6_moveAll rfl rfl rfl (by decide +kernel) ⟨Nat.le_of_ble_eq_true rfl, Nat.le_of_ble_eq_true rfl⟩) ⟨PcR_fb, va_recv hK hP (ci := 4) (q0 := 0) rfl rfl, PcR_pre hP hK⟩ rfl rfl hl.1 rfl (lv_room (Nat.le_of_ble_eq_true rfl)) dX6_dinner_6 ⟨Nat.zero_le _, Nat.zero_le _⟩) hP (hD _ rfl) hS 0 13 rfl (fun u_1 H locs hu_1 hP hS => ?_)
  have hP : va_P D vwCl (mdw cI cL b (enc co gu kn fo sp ki pl ea to qu) fd mo tr b1 tp tm so bg te wd va gd bo sz sh le im (enc co gu kn fo sp ki pl ea to qu) ik) H := hP
  refine lv_aload_n hx hb dX6_dinner_9 rfl (lv_at hl 0 rfl) ?_
  refine lv_iconst (v := 0) hx hb dX6_dinner_10 (by decide) ?_
  refine va_put (ci := 4) (v := .int 0) (ty := .int) (C := RX6) (T := TX6) (N := 20) hx hb hts inX6 tyX6 tyX6_ok nmX6 hown hK hP (hD _ rfl) hS 0 rfl rfl 9 (by decide) f164 (fun _ h9 => h9) rfl rfl rfl rfl (Nat.le_of_ble_eq_true rfl) dX6_dinner_11 (fun H locs hP _ hS => ?_)
  have hP : va_P D vwCl (mdw cI cL b (enc co gu kn fo sp ki pl ea to qu) fd mo tr b1 tp tm so bg 0 wd va gd bo sz sh le im (enc co gu kn fo sp ki pl ea to qu) ik) H := hP
  refine lv_aload_n hx hb dX6_dinner_14 rfl (lv_at hl 0 rfl) ?_
  refine lv_iconst (v := 1) hx hb dX6_dinner_15 (by decide) ?_
  refine va_put (ci := 4) (v := .int 1) (ty := .boolean) (C := RX6) (T := TX6) (N := 20) hx hb hts inX6 tyX6 tyX6_ok nmX6 hown hK hP (hD _ rfl) hS 0 rfl rfl 12 (by decide) f211 (fun _ h9 => h9) rfl rfl rfl rfl (Nat.le_of_ble_eq_true rfl) dX6_dinner_16 (fun H locs hP _ hS => ?_)
  have hP : va_P D vwCl (mdw cI cL b (enc co gu kn fo sp ki pl ea to qu) fd mo tr b1 tp tm so bg 0 wd va 1 bo sz sh le im (enc co gu kn fo sp ki pl ea to qu) ik) H := hP
  refine lv_iconst (v := 0) hx hb dX6_dinner_19 (by decide) ?_
  refine lv_istore_n (lv' := [(1, .int 0), (0, .ref (b 0))]) hx hb dX6_dinner_20 rfl hl (by decide) rfl (fun ls hl => ?_)
  refine lv_iconst (v := 1) hx hb dX6_dinner_21 (by decide) ?_
  refine lv_istore_n (lv' := [(2, .int 1), (1, .int 0), (0, .ref (b 0))]) hx hb dX6_dinner_22 rfl hl (by decide) rfl (fun ls hl => ?_)
  refine lv_iload_n hx hb dX6_dinner_23 rfl (lv_at hl 0 rfl) ?_
  refine lv_if_eq (tgt := 71) hx hb dX6_dinner_24 (by decide) (fun c_3 => ?_) (fun c_3 => ?_)
  · skip
    have c_3n := (cmp_eq (a := 1) (b := 0) rfl rfl (by omega) (by omega)).mp c_3
    exact absurd c_3 (by decide)
  · skip
    have c_3n := mt (cmp_eq (a := 1) (b := 0) rfl rfl (by omega) (by omega)).mpr c_3
    refine lpW (fun n (u : Nat × Nat × Sg × Int32 × Int32 × Int32 × Int64 × Int32) H locs ls => (u.1 + n = 120) ∧ (u.2.2.2.2.2.1 = nI u.2.1) ∧ (2 * u.1 ≤ u.2.1) ∧ (u.2.1 ≤ ix tm) ∧ (tTell tp (ix tm) 120 1 (co, gu, kn, fo, sp, ki, pl, ea, to, qu) 0 = tTell tp (ix tm) n (nI (u.1 + 1)) u.2.2.1 u.2.1) ∧ (okT (sGu u.2.2.1) (sKn u.2.2.1) (sFo u.2.2.1) (sSp u.2.2.1) (whC (sGu u.2.2.1) (sPl u.2.2.1)) (sKi u.2.2.1) (sPl u.2.2.1) ∧ okE (sEa u.2.2.1) (sTo u.2.2.1) (sQu u.2.2.1)) ∧ va_P D vwCl (mdw cI cL b (enc (sCo u.2.2.1) (sGu u.2.2.1) (sKn u.2.2.1) (sFo u.2.2.1) (sSp u.2.2.1) (sKi u.2.2.1) (sPl u.2.2.1) (sEa u.2.2.1) (sTo u.2.2.1) (sQu u.2.2.1)) fd mo tr b1 tp tm u.2.2.2.1 u.2.2.2.2.1 u.2.2.2.2.2.1 u.2.2.2.2.2.2.1 u.2.2.2.2.2.2.2 1 bo sz sh le im (enc co gu kn fo sp ki pl ea to qu) ik) H ∧ va_S A s.heap H locs ∧ lv_has ls 3 [(0, .ref (b 0)), (1, .int (nI u.1)), (2, .int 1)]) (120) ((0, 0, (co, gu, kn, fo, sp, ki, pl, ea, to, qu), so, bg, 0, wd, va)) ⟨rfl, rfl, Nat.le_refl 0, Nat.zero_le _, rfl, ⟨ok, oe⟩, hP, hS, lv_sub hl [2, 1, 0] rfl⟩ (fun n ih u H locs ls hI => ?_)
    obtain ⟨i, c, σ, so9, bg9, te9, wd9, va9⟩ := u
    obtain ⟨hi0, hi1, hi2, hi3, hi4, hi5, hP, hS, hl⟩ := hI
    have hi0 : i + n = 120 := hi0
    have hi1 : te9 = nI c := hi1
    have hi2 : 2 * i ≤ c := hi2
    have hi3 : c ≤ ix tm := hi3
    have hi4 : tTell tp (ix tm) 120 1 (co, gu, kn, fo, sp, ki, pl, ea, to, qu) 0 = tTell tp (ix tm) n (nI (i + 1)) σ c := hi4
    have hi5 : okT (sGu σ) (sKn σ) (sFo σ) (sSp σ) (whC (sGu σ) (sPl σ)) (sKi σ) (sPl σ) ∧ okE (sEa σ) (sTo σ) (sQu σ) := hi5
    have hl : lv_has ls 3 [(0, .ref (b 0)), (1, .int (nI i)), (2, .int 1)] := hl
    have hP : va_P D vwCl (mdw cI cL b (enc (sCo σ) (sGu σ) (sKn σ) (sFo σ) (sSp σ) (sKi σ) (sPl σ) (sEa σ) (sTo σ) (sQu σ)) fd mo tr b1 tp tm so9 bg9 te9 wd9 va9 1 bo sz sh le im (enc co gu kn fo sp ki pl ea to qu) ik) H := hP
    have hi120 : i < 120 := by omega
    refine lv_aload_n hx hb dX6_dinner_27 rfl (lv_at hl 0 rfl) ?_
    refine callMv (va_runV (As := []) (rest := []) ⟨hx, hb, hml, hown, hts⟩ (k_X6_advance l D cI cL cS b (sCo σ) (sGu σ) (sKn σ) (sFo σ) (sSp σ) (sKi σ) (sPl σ) (sEa σ) (sTo σ) (sQu σ) fd mo tr b1 tp tm so9 bg9 te9 wd9 va9 1 bo sz sh le im (enc co gu kn fo sp ki pl ea to qu) ik (va_DT (hD _ rfl) rfl) c ol hB hi1 hi3) (cwV 0 hts gX6_dinner_X6_advance rfl rfl rfl (by decide +kernel) ⟨Nat.le_of_ble_eq_true rfl, Nat.le_of_ble_eq_true rfl⟩) ⟨PcR_fb, va_recv hK hP (ci := 4) (q0 := 0) rfl rfl, PcR_pre hP hK⟩ rfl rfl hl.1 rfl (lv_room (Nat.le_of_ble_eq_true rfl)) dX6_dinner_28 ⟨Nat.zero_le _, Nat.zero_le _⟩) hP (hD _ rfl) hS 0 13 rfl (fun u_4 H locs hu_4 hP hS => ?_)
    obtain ⟨so_6, bg_7, te_8, wd_9, va_10⟩ := u_4
    have hu_4 : MTok tp (ix tm) c so_6 bg_7 te_8 wd_9 va_10 := hu_4
    have hT := hu_4
    have hP : va_P D vwCl (mdw cI cL b (enc (sCo σ) (sGu σ) (sKn σ) (sFo σ) (sSp σ) (sKi σ) (sPl σ) (sEa σ) (sTo σ) (sQu σ)) fd mo tr b1 tp tm so_6 bg_7 te_8 wd_9 va_10 1 bo sz sh le im (enc co gu kn fo sp ki pl ea to qu) ik) H := hP
    refine lv_aload_n hx hb dX6_dinner_31 rfl (lv_at hl 0 rfl) ?_
    refine callMv (va_runV (As := []) (rest := []) ⟨hx, hb, hml, hown, hts⟩ (k_X6_wantItem l D cI cL cS b (sCo σ) (sGu σ) (sKn σ) (sFo σ) (sSp σ) (sKi σ) (sPl σ) (sEa σ) (sTo σ) (sQu σ) fd mo tr b1 tp tm so_6 bg_7 te_8 wd_9 va_10 bo sz sh le im (enc co gu kn fo sp ki pl ea to qu) ik c (va_DT (hD _ rfl) rfl) hi5.1 hi5.2 ol hB hT) (cwV 0 hts gX6_dinner_X6_wantItem rfl rfl rfl (by decide +kernel) ⟨Nat.le_of_ble_eq_true rfl, Nat.le_of_ble_eq_true rfl⟩) ⟨PcR_fb, va_recv hK hP (ci := 4) (q0 := 0) rfl rfl, PcR_pre hP hK⟩ rfl rfl hl.1 rfl (lv_room (Nat.le_of_ble_eq_true rfl)) dX6_dinner_32 ⟨Nat.zero_le _, Nat.zero_le _⟩) hP (hD _ rfl) hS 0 13 rfl (fun u_11 H locs hu_11 hP hS => ?_)
    obtain ⟨S_13, gd_14, so_15, bg_16, te_17, wd_18, va_19⟩ := u_11
    have hI : TMo (tItem tp (ix tm) ((sCo σ), (sGu σ), (sKn σ), (sFo σ), (sSp σ), (sKi σ), (sPl σ), (sEa σ), (sTo σ), (sQu σ)) c) tp (ix tm) gd_14 S_13 so_15 bg_16 te_17 wd_18 va_19 := hu_11
    have hI : TMo (tItem tp (ix tm) σ c) tp (ix tm) gd_14 S_13 so_15 bg_16 te_17 wd_18 va_19 := hI
    have hP : va_P D vwCl (mdw cI cL b (enc (sCo S_13) (sGu S_13) (sKn S_13) (sFo S_13) (sSp S_13) (sKi S_13) (sPl S_13) (sEa S_13) (sTo S_13) (sQu S_13)) fd mo tr b1 tp tm so_15 bg_16 te_17 wd_18 va_19 gd_14 bo sz sh le im (enc co gu kn fo sp ki pl ea to qu) ik) H := hP
    refine lv_iinc (v := nI (i + 1)) (lv' := [(1, .int (nI (i + 1))), (0, .ref (b 0)), (2, .int 1)]) hx hb dX6_dinner_35 hl (k := 1) rfl (nI_1 _) (by decide) rfl (fun ls hl => ?_)
    refine lv_aload_n hx hb dX6_dinner_38 rfl (lv_at hl 1 rfl) ?_
    refine va_get (ci := 4) (v := .int gd_14) (C := RX6) (T := TX6) (N := 20) hx hb hts inX6 hown hK hP 0 rfl rfl 12 (by decide) f211 (fun _ h9 => h9) rfl dX6_dinner_39 ?_
    refine lv_if_eq (tgt := 66) hx hb dX6_dinner_42 (by decide) (fun c_20 => ?_) (fun c_20 => ?_)
    · skip
      have hg0 := c_20
      refine lv_iconst (v := 0) hx hb dX6_dinner_66 (by decide) ?_
      refine lv_istore_n (lv' := [(2, .int 0), (1, .int (nI (i + 1))), (0, .ref (b 0))]) hx hb dX6_dinner_67 rfl hl (by decide) rfl (fun ls hl => ?_)
      refine lv_goto (tgt := 23) hx hb dX6_dinner_68 (by decide) ?_
      refine lv_iload_n hx hb dX6_dinner_23 rfl (lv_at hl 0 rfl) ?_
      refine lv_if_eq (tgt := 71) hx hb dX6_dinner_24 (by decide) (fun c_21 => ?_) (fun c_21 => ?_)
      · skip
        have c_21n := (cmp_eq (a := 0) (b := 0) rfl rfl (by omega) (by omega)).mp c_21
        refine lv_aload_n hx hb dX6_dinner_71 rfl (lv_at hl 2 rfl) ?_
        refine lv_aload_n hx hb dX6_dinner_72 rfl (lv_at hl 2 rfl) ?_
        refine va_get (ci := 4) (v := .int gd_14) (C := RX6) (T := TX6) (N := 20) hx hb hts inX6 hown hK hP 0 rfl rfl 12 (by decide) f211 (fun _ h9 => h9) rfl dX6_dinner_73 ?_
        refine lv_if_eq (tgt := 90) hx hb dX6_dinner_76 (by decide) (fun c_22 => ?_) (fun c_22 => ?_)
        · skip
          refine lv_iconst (v := 0) hx hb dX6_dinner_90 (by decide) ?_
          refine va_put (ci := 4) (v := .int 0) (ty := .boolean) (C := RX6) (T := TX6) (N := 20) hx hb hts inX6 tyX6 tyX6_ok nmX6 hown hK hP (hD _ rfl) hS 0 rfl rfl 12 (by decide) f211 (fun _ h9 => h9) rfl rfl rfl rfl (Nat.le_of_ble_eq_true rfl) dX6_dinner_91 (fun H locs hP _ hS => ?_)
          have hP : va_P D vwCl (mdw cI cL b (enc (sCo S_13) (sGu S_13) (sKn S_13) (sFo S_13) (sSp S_13) (sKi S_13) (sPl S_13) (sEa S_13) (sTo S_13) (sQu S_13)) fd mo tr b1 tp tm so_15 bg_16 te_17 wd_18 va_19 0 bo sz sh le im (enc co gu kn fo sp ki pl ea to qu) ik) H := hP
          refine lv_aload_n hx hb dX6_dinner_94 rfl (lv_at hl 2 rfl) ?_
          refine lv_iconst (v := 0) hx hb dX6_dinner_95 (by decide) ?_
          refine va_put (ci := 4) (v := .int 0) (ty := .int) (C := RX6) (T := TX6) (N := 20) hx hb hts inX6 tyX6 tyX6_ok nmX6 hown hK hP (hD _ rfl) hS 0 rfl rfl 6 (by decide) f160 (fun _ h9 => h9) rfl rfl rfl rfl (Nat.le_of_ble_eq_true rfl) dX6_dinner_96 (fun H locs hP _ hS => ?_)
          have hP : va_P D vwCl (mdw cI cL b (enc (sCo S_13) (sGu S_13) (sKn S_13) (sFo S_13) (sSp S_13) (sKi S_13) (sPl S_13) (sEa S_13) (sTo S_13) (sQu S_13)) fd mo tr b1 tp 0 so_15 bg_16 te_17 wd_18 va_19 0 bo sz sh le im (enc co gu kn fo sp ki pl ea to qu) ik) H := hP
          refine lv_aload_n hx hb dX6_dinner_99 rfl (lv_at hl 2 rfl) ?_
          refine va_get (ci := 4) (v := .int 0) (C := RX6) (T := TX6) (N := 20) hx hb hts inX6 hown hK hP 0 rfl rfl 12 (by decide) f211 (fun _ h9 => h9) rfl dX6_dinner_100 ?_
          refine lv_if_ne (tgt := 122) hx hb dX6_dinner_103 (by decide) (fun c_23 => ?_) (fun c_23 => ?_)
          · skip
            have c_23n := mt (cmp_eq (a := 0) (b := 0) rfl rfl (by omega) (by omega)).mpr c_23
            exact absurd (by decide) c_23
          · skip
            have c_23n := (cmp_eq (a := 0) (b := 0) rfl rfl (by omega) (by omega)).mp c_23
            refine lv_aload_n hx hb dX6_dinner_106 rfl (lv_at hl 2 rfl) ?_
            refine lv_iconst (v := 0) hx hb dX6_dinner_107 (by decide) ?_
            refine lv_aload_n hx hb dX6_dinner_108 rfl (lv_at hl 2 rfl) ?_
            refine va_get (ci := 4) (v := .ref (b 12)) (C := RX6) (T := TX6) (N := 20) hx hb hts inX6 hown hK hP 0 rfl rfl 18 (by decide) f44 (fun _ h9 => h9) rfl dX6_dinner_109 ?_
            refine callMv (va_runV (As := [.int 0, .ref (b 12)]) (rest := []) ⟨hx, hb, hml, hown, hts⟩ (k_X6_moveAll_bf0 l D cI cL cS b (sCo S_13) (sGu S_13) (sKn S_13) (sFo S_13) (sSp S_13) (sKi S_13) (sPl S_13) (sEa S_13) (sTo S_13) (sQu S_13) fd mo tr b1 tp 0 so_15 bg_16 te_17 wd_18 va_19 0 bo sz sh le im ik co gu kn fo sp ki pl ea to qu (va_DT (hD _ rfl) rfl)) (cwV 2 hts gX6_dinner_X6_moveAll rfl rfl rfl (by decide +kernel) ⟨Nat.le_of_ble_eq_true rfl, Nat.le_of_ble_eq_true rfl⟩) ⟨PcR_fb, va_recv hK hP (ci := 4) (q0 := 0) rfl rfl, PcR_pre hP hK⟩ rfl rfl hl.1 rfl (lv_room (Nat.le_of_ble_eq_true rfl)) dX6_dinner_112 ⟨Nat.zero_le _, Nat.zero_le _⟩) hP (hD _ rfl) hS 0 13 rfl (fun u_24 H locs hu_24 hP hS => ?_)
            have hP : va_P D vwCl (mdw cI cL b (enc co gu kn fo sp ki pl ea to qu) fd mo tr b1 tp 0 so_15 bg_16 te_17 wd_18 va_19 0 bo sz sh le im (enc co gu kn fo sp ki pl ea to qu) ik) H := hP
            refine lv_iconst (v := (-1)) hx hb dX6_dinner_115 (by decide) ?_
            refine lv_aload_n hx hb dX6_dinner_116 rfl (lv_at hl 2 rfl) ?_
            refine va_get (ci := 4) (v := .int bg_16) (C := RX6) (T := TX6) (N := 20) hx hb hts inX6 hown hK hP 0 rfl rfl 8 (by decide) f167 (fun _ h9 => h9) rfl dX6_dinner_117 ?_
            refine lv_isub hx hb dX6_dinner_120 ?_
            exact W.iret hx hb hr (fun t ht hW => ⟨⟨_, ((co, gu, kn, fo, sp, ki, pl, ea, to, qu), 0, 0, enc co gu kn fo sp ki pl ea to qu, so_15, bg_16, te_17, wd_18, va_19), rfl, (by exact ⟨sDin_f hI.2.2.le (by rw [hi4, tell_0 (by omega) (hI.1.symm.trans hg0)]) hI.2.2.2.1, rfl⟩), by dsimp only; rw [ht]; exact hP⟩, hS.F ht⟩) hS.2.2 dX6_dinner_121
        · skip
          exact absurd hg0 c_22
      · skip
        have c_21n := mt (cmp_eq (a := 0) (b := 0) rfl rfl (by omega) (by omega)).mpr c_21
        exact absurd (by decide) c_21
    · skip
      have hgn := c_20
      refine lv_aload_n hx hb dX6_dinner_45 rfl (lv_at hl 1 rfl) ?_
      refine va_get (ci := 4) (v := .int so_15) (C := RX6) (T := TX6) (N := 20) hx hb hts inX6 hown hK hP 0 rfl rfl 7 (by decide) f179 (fun _ h9 => h9) rfl dX6_dinner_46 ?_
      refine lv_iconst (v := 3) hx hb dX6_dinner_49 (by decide) ?_
      refine lv_icmp_ne (tgt := 66) hx hb dX6_dinner_50 (by decide) (fun c_26 => ?_) (fun c_26 => ?_)
      · skip
        have hs3 := c_26
        refine lv_iconst (v := 0) hx hb dX6_dinner_66 (by decide) ?_
        refine lv_istore_n (lv' := [(2, .int 0), (1, .int (nI (i + 1))), (0, .ref (b 0))]) hx hb dX6_dinner_67 rfl hl (by decide) rfl (fun ls hl => ?_)
        refine lv_goto (tgt := 23) hx hb dX6_dinner_68 (by decide) ?_
        refine lv_iload_n hx hb dX6_dinner_23 rfl (lv_at hl 0 rfl) ?_
        refine lv_if_eq (tgt := 71) hx hb dX6_dinner_24 (by decide) (fun c_27 => ?_) (fun c_27 => ?_)
        · skip
          have c_27n := (cmp_eq (a := 0) (b := 0) rfl rfl (by omega) (by omega)).mp c_27
          refine lv_aload_n hx hb dX6_dinner_71 rfl (lv_at hl 2 rfl) ?_
          refine lv_aload_n hx hb dX6_dinner_72 rfl (lv_at hl 2 rfl) ?_
          refine va_get (ci := 4) (v := .int gd_14) (C := RX6) (T := TX6) (N := 20) hx hb hts inX6 hown hK hP 0 rfl rfl 12 (by decide) f211 (fun _ h9 => h9) rfl dX6_dinner_73 ?_
          refine lv_if_eq (tgt := 90) hx hb dX6_dinner_76 (by decide) (fun c_28 => ?_) (fun c_28 => ?_)
          · skip
            exact absurd c_28 hgn
          · skip
            refine lv_aload_n hx hb dX6_dinner_79 rfl (lv_at hl 2 rfl) ?_
            refine va_get (ci := 4) (v := .int so_15) (C := RX6) (T := TX6) (N := 20) hx hb hts inX6 hown hK hP 0 rfl rfl 7 (by decide) f179 (fun _ h9 => h9) rfl dX6_dinner_80 ?_
            refine lv_if_ne (tgt := 90) hx hb dX6_dinner_83 (by decide) (fun c_29 => ?_) (fun c_29 => ?_)
            · skip
              have hs0 := c_29
              refine lv_iconst (v := 0) hx hb dX6_dinner_90 (by decide) ?_
              refine va_put (ci := 4) (v := .int 0) (ty := .boolean) (C := RX6) (T := TX6) (N := 20) hx hb hts inX6 tyX6 tyX6_ok nmX6 hown hK hP (hD _ rfl) hS 0 rfl rfl 12 (by decide) f211 (fun _ h9 => h9) rfl rfl rfl rfl (Nat.le_of_ble_eq_true rfl) dX6_dinner_91 (fun H locs hP _ hS => ?_)
              have hP : va_P D vwCl (mdw cI cL b (enc (sCo S_13) (sGu S_13) (sKn S_13) (sFo S_13) (sSp S_13) (sKi S_13) (sPl S_13) (sEa S_13) (sTo S_13) (sQu S_13)) fd mo tr b1 tp tm so_15 bg_16 te_17 wd_18 va_19 0 bo sz sh le im (enc co gu kn fo sp ki pl ea to qu) ik) H := hP
              refine lv_aload_n hx hb dX6_dinner_94 rfl (lv_at hl 2 rfl) ?_
              refine lv_iconst (v := 0) hx hb dX6_dinner_95 (by decide) ?_
              refine va_put (ci := 4) (v := .int 0) (ty := .int) (C := RX6) (T := TX6) (N := 20) hx hb hts inX6 tyX6 tyX6_ok nmX6 hown hK hP (hD _ rfl) hS 0 rfl rfl 6 (by decide) f160 (fun _ h9 => h9) rfl rfl rfl rfl (Nat.le_of_ble_eq_true rfl) dX6_dinner_96 (fun H locs hP _ hS => ?_)
              have hP : va_P D vwCl (mdw cI cL b (enc (sCo S_13) (sGu S_13) (sKn S_13) (sFo S_13) (sSp S_13) (sKi S_13) (sPl S_13) (sEa S_13) (sTo S_13) (sQu S_13)) fd mo tr b1 tp 0 so_15 bg_16 te_17 wd_18 va_19 0 bo sz sh le im (enc co gu kn fo sp ki pl ea to qu) ik) H := hP
              refine lv_aload_n hx hb dX6_dinner_99 rfl (lv_at hl 2 rfl) ?_
              refine va_get (ci := 4) (v := .int 0) (C := RX6) (T := TX6) (N := 20) hx hb hts inX6 hown hK hP 0 rfl rfl 12 (by decide) f211 (fun _ h9 => h9) rfl dX6_dinner_100 ?_
              refine lv_if_ne (tgt := 122) hx hb dX6_dinner_103 (by decide) (fun c_30 => ?_) (fun c_30 => ?_)
              · skip
                have c_30n := mt (cmp_eq (a := 0) (b := 0) rfl rfl (by omega) (by omega)).mpr c_30
                exact absurd (by decide) c_30
              · skip
                have c_30n := (cmp_eq (a := 0) (b := 0) rfl rfl (by omega) (by omega)).mp c_30
                refine lv_aload_n hx hb dX6_dinner_106 rfl (lv_at hl 2 rfl) ?_
                refine lv_iconst (v := 0) hx hb dX6_dinner_107 (by decide) ?_
                refine lv_aload_n hx hb dX6_dinner_108 rfl (lv_at hl 2 rfl) ?_
                refine va_get (ci := 4) (v := .ref (b 12)) (C := RX6) (T := TX6) (N := 20) hx hb hts inX6 hown hK hP 0 rfl rfl 18 (by decide) f44 (fun _ h9 => h9) rfl dX6_dinner_109 ?_
                refine callMv (va_runV (As := [.int 0, .ref (b 12)]) (rest := []) ⟨hx, hb, hml, hown, hts⟩ (k_X6_moveAll_bf0 l D cI cL cS b (sCo S_13) (sGu S_13) (sKn S_13) (sFo S_13) (sSp S_13) (sKi S_13) (sPl S_13) (sEa S_13) (sTo S_13) (sQu S_13) fd mo tr b1 tp 0 so_15 bg_16 te_17 wd_18 va_19 0 bo sz sh le im ik co gu kn fo sp ki pl ea to qu (va_DT (hD _ rfl) rfl)) (cwV 2 hts gX6_dinner_X6_moveAll rfl rfl rfl (by decide +kernel) ⟨Nat.le_of_ble_eq_true rfl, Nat.le_of_ble_eq_true rfl⟩) ⟨PcR_fb, va_recv hK hP (ci := 4) (q0 := 0) rfl rfl, PcR_pre hP hK⟩ rfl rfl hl.1 rfl (lv_room (Nat.le_of_ble_eq_true rfl)) dX6_dinner_112 ⟨Nat.zero_le _, Nat.zero_le _⟩) hP (hD _ rfl) hS 0 13 rfl (fun u_31 H locs hu_31 hP hS => ?_)
                have hP : va_P D vwCl (mdw cI cL b (enc co gu kn fo sp ki pl ea to qu) fd mo tr b1 tp 0 so_15 bg_16 te_17 wd_18 va_19 0 bo sz sh le im (enc co gu kn fo sp ki pl ea to qu) ik) H := hP
                refine lv_iconst (v := (-1)) hx hb dX6_dinner_115 (by decide) ?_
                refine lv_aload_n hx hb dX6_dinner_116 rfl (lv_at hl 2 rfl) ?_
                refine va_get (ci := 4) (v := .int bg_16) (C := RX6) (T := TX6) (N := 20) hx hb hts inX6 hown hK hP 0 rfl rfl 8 (by decide) f167 (fun _ h9 => h9) rfl dX6_dinner_117 ?_
                refine lv_isub hx hb dX6_dinner_120 ?_
                exact W.iret hx hb hr (fun t ht hW => ⟨⟨_, ((co, gu, kn, fo, sp, ki, pl, ea, to, qu), 0, 0, enc co gu kn fo sp ki pl ea to qu, so_15, bg_16, te_17, wd_18, va_19), rfl, (by exact ⟨sDin_f hI.2.2.le (by rw [hi4, tell_o (by omega) (fun q => hgn (hI.1.trans q)) (fun q => hs0 (hI.2.2.z.mpr q)) (fun q => hs3 (hI.2.2.sg.mpr q).1)]) hI.2.2.2.1, rfl⟩), by dsimp only; rw [ht]; exact hP⟩, hS.F ht⟩) hS.2.2 dX6_dinner_121
            · skip
              have hs0 := c_29
              refine lv_iconst (v := 1) hx hb dX6_dinner_86 (by decide) ?_
              refine lv_goto (tgt := 91) hx hb dX6_dinner_87 (by decide) ?_
              refine va_put (ci := 4) (v := .int 1) (ty := .boolean) (C := RX6) (T := TX6) (N := 20) hx hb hts inX6 tyX6 tyX6_ok nmX6 hown hK hP (hD _ rfl) hS 0 rfl rfl 12 (by decide) f211 (fun _ h9 => h9) rfl rfl rfl rfl (Nat.le_of_ble_eq_true rfl) dX6_dinner_91 (fun H locs hP _ hS => ?_)
              have hP : va_P D vwCl (mdw cI cL b (enc (sCo S_13) (sGu S_13) (sKn S_13) (sFo S_13) (sSp S_13) (sKi S_13) (sPl S_13) (sEa S_13) (sTo S_13) (sQu S_13)) fd mo tr b1 tp tm so_15 bg_16 te_17 wd_18 va_19 1 bo sz sh le im (enc co gu kn fo sp ki pl ea to qu) ik) H := hP
              refine lv_aload_n hx hb dX6_dinner_94 rfl (lv_at hl 2 rfl) ?_
              refine lv_iconst (v := 0) hx hb dX6_dinner_95 (by decide) ?_
              refine va_put (ci := 4) (v := .int 0) (ty := .int) (C := RX6) (T := TX6) (N := 20) hx hb hts inX6 tyX6 tyX6_ok nmX6 hown hK hP (hD _ rfl) hS 0 rfl rfl 6 (by decide) f160 (fun _ h9 => h9) rfl rfl rfl rfl (Nat.le_of_ble_eq_true rfl) dX6_dinner_96 (fun H locs hP _ hS => ?_)
              have hP : va_P D vwCl (mdw cI cL b (enc (sCo S_13) (sGu S_13) (sKn S_13) (sFo S_13) (sSp S_13) (sKi S_13) (sPl S_13) (sEa S_13) (sTo S_13) (sQu S_13)) fd mo tr b1 tp 0 so_15 bg_16 te_17 wd_18 va_19 1 bo sz sh le im (enc co gu kn fo sp ki pl ea to qu) ik) H := hP
              refine lv_aload_n hx hb dX6_dinner_99 rfl (lv_at hl 2 rfl) ?_
              refine va_get (ci := 4) (v := .int 1) (C := RX6) (T := TX6) (N := 20) hx hb hts inX6 hown hK hP 0 rfl rfl 12 (by decide) f211 (fun _ h9 => h9) rfl dX6_dinner_100 ?_
              refine lv_if_ne (tgt := 122) hx hb dX6_dinner_103 (by decide) (fun c_33 => ?_) (fun c_33 => ?_)
              · skip
                have c_33n := mt (cmp_eq (a := 1) (b := 0) rfl rfl (by omega) (by omega)).mpr c_33
                refine lv_iload_n hx hb dX6_dinner_122 rfl (lv_at hl 1 rfl) ?_
                exact W.iret hx hb hr (fun t ht hW => ⟨⟨_, (((sCo S_13), (sGu S_13), (sKn S_13), (sFo S_13), (sSp S_13), (sKi S_13), (sPl S_13), (sEa S_13), (sTo S_13), (sQu S_13)), 0, 1, enc co gu kn fo sp ki pl ea to qu, so_15, bg_16, te_17, wd_18, va_19), rfl, (by exact ⟨sDin_t (by omega) (by rw [hi4, tell_e (by omega) (fun q => hgn (hI.1.trans q)) (hI.2.2.z.mp hs0), hI.2.1]), rfl⟩), by dsimp only; rw [ht]; exact hP⟩, hS.F ht⟩) hS.2.2 dX6_dinner_123
              · skip
                have c_33n := (cmp_eq (a := 1) (b := 0) rfl rfl (by omega) (by omega)).mp c_33
                exact absurd c_33 (by decide)
        · skip
          have c_27n := mt (cmp_eq (a := 0) (b := 0) rfl rfl (by omega) (by omega)).mpr c_27
          exact absurd (by decide) c_27
      · skip
        have hs3 := c_26
        refine lv_aload_n hx hb dX6_dinner_53 rfl (lv_at hl 1 rfl) ?_
        refine va_get (ci := 4) (v := .int va_19) (C := RX6) (T := TX6) (N := 20) hx hb hts inX6 hown hK hP 0 rfl rfl 11 (by decide) f186 (fun _ h9 => h9) rfl dX6_dinner_54 ?_
        refine lv_bipush (v := 59) hx hb dX6_dinner_57 (by decide) ?_
        refine lv_icmp_ne (tgt := 66) hx hb dX6_dinner_59 (by decide) (fun c_34 => ?_) (fun c_34 => ?_)
        · skip
          have h59 := c_34
          refine lv_iconst (v := 0) hx hb dX6_dinner_66 (by decide) ?_
          refine lv_istore_n (lv' := [(2, .int 0), (1, .int (nI (i + 1))), (0, .ref (b 0))]) hx hb dX6_dinner_67 rfl hl (by decide) rfl (fun ls hl => ?_)
          refine lv_goto (tgt := 23) hx hb dX6_dinner_68 (by decide) ?_
          refine lv_iload_n hx hb dX6_dinner_23 rfl (lv_at hl 0 rfl) ?_
          refine lv_if_eq (tgt := 71) hx hb dX6_dinner_24 (by decide) (fun c_35 => ?_) (fun c_35 => ?_)
          · skip
            have c_35n := (cmp_eq (a := 0) (b := 0) rfl rfl (by omega) (by omega)).mp c_35
            refine lv_aload_n hx hb dX6_dinner_71 rfl (lv_at hl 2 rfl) ?_
            refine lv_aload_n hx hb dX6_dinner_72 rfl (lv_at hl 2 rfl) ?_
            refine va_get (ci := 4) (v := .int gd_14) (C := RX6) (T := TX6) (N := 20) hx hb hts inX6 hown hK hP 0 rfl rfl 12 (by decide) f211 (fun _ h9 => h9) rfl dX6_dinner_73 ?_
            refine lv_if_eq (tgt := 90) hx hb dX6_dinner_76 (by decide) (fun c_36 => ?_) (fun c_36 => ?_)
            · skip
              exact absurd c_36 hgn
            · skip
              refine lv_aload_n hx hb dX6_dinner_79 rfl (lv_at hl 2 rfl) ?_
              refine va_get (ci := 4) (v := .int so_15) (C := RX6) (T := TX6) (N := 20) hx hb hts inX6 hown hK hP 0 rfl rfl 7 (by decide) f179 (fun _ h9 => h9) rfl dX6_dinner_80 ?_
              refine lv_if_ne (tgt := 90) hx hb dX6_dinner_83 (by decide) (fun c_37 => ?_) (fun c_37 => ?_)
              · skip
                have hs0 := c_37
                refine lv_iconst (v := 0) hx hb dX6_dinner_90 (by decide) ?_
                refine va_put (ci := 4) (v := .int 0) (ty := .boolean) (C := RX6) (T := TX6) (N := 20) hx hb hts inX6 tyX6 tyX6_ok nmX6 hown hK hP (hD _ rfl) hS 0 rfl rfl 12 (by decide) f211 (fun _ h9 => h9) rfl rfl rfl rfl (Nat.le_of_ble_eq_true rfl) dX6_dinner_91 (fun H locs hP _ hS => ?_)
                have hP : va_P D vwCl (mdw cI cL b (enc (sCo S_13) (sGu S_13) (sKn S_13) (sFo S_13) (sSp S_13) (sKi S_13) (sPl S_13) (sEa S_13) (sTo S_13) (sQu S_13)) fd mo tr b1 tp tm so_15 bg_16 te_17 wd_18 va_19 0 bo sz sh le im (enc co gu kn fo sp ki pl ea to qu) ik) H := hP
                refine lv_aload_n hx hb dX6_dinner_94 rfl (lv_at hl 2 rfl) ?_
                refine lv_iconst (v := 0) hx hb dX6_dinner_95 (by decide) ?_
                refine va_put (ci := 4) (v := .int 0) (ty := .int) (C := RX6) (T := TX6) (N := 20) hx hb hts inX6 tyX6 tyX6_ok nmX6 hown hK hP (hD _ rfl) hS 0 rfl rfl 6 (by decide) f160 (fun _ h9 => h9) rfl rfl rfl rfl (Nat.le_of_ble_eq_true rfl) dX6_dinner_96 (fun H locs hP _ hS => ?_)
                have hP : va_P D vwCl (mdw cI cL b (enc (sCo S_13) (sGu S_13) (sKn S_13) (sFo S_13) (sSp S_13) (sKi S_13) (sPl S_13) (sEa S_13) (sTo S_13) (sQu S_13)) fd mo tr b1 tp 0 so_15 bg_16 te_17 wd_18 va_19 0 bo sz sh le im (enc co gu kn fo sp ki pl ea to qu) ik) H := hP
                refine lv_aload_n hx hb dX6_dinner_99 rfl (lv_at hl 2 rfl) ?_
                refine va_get (ci := 4) (v := .int 0) (C := RX6) (T := TX6) (N := 20) hx hb hts inX6 hown hK hP 0 rfl rfl 12 (by decide) f211 (fun _ h9 => h9) rfl dX6_dinner_100 ?_
                refine lv_if_ne (tgt := 122) hx hb dX6_dinner_103 (by decide) (fun c_38 => ?_) (fun c_38 => ?_)
                · skip
                  have c_38n := mt (cmp_eq (a := 0) (b := 0) rfl rfl (by omega) (by omega)).mpr c_38
                  exact absurd (by decide) c_38
                · skip
                  have c_38n := (cmp_eq (a := 0) (b := 0) rfl rfl (by omega) (by omega)).mp c_38
                  refine lv_aload_n hx hb dX6_dinner_106 rfl (lv_at hl 2 rfl) ?_
                  refine lv_iconst (v := 0) hx hb dX6_dinner_107 (by decide) ?_
                  refine lv_aload_n hx hb dX6_dinner_108 rfl (lv_at hl 2 rfl) ?_
                  refine va_get (ci := 4) (v := .ref (b 12)) (C := RX6) (T := TX6) (N := 20) hx hb hts inX6 hown hK hP 0 rfl rfl 18 (by decide) f44 (fun _ h9 => h9) rfl dX6_dinner_109 ?_
                  refine callMv (va_runV (As := [.int 0, .ref (b 12)]) (rest := []) ⟨hx, hb, hml, hown, hts⟩ (k_X6_moveAll_bf0 l D cI cL cS b (sCo S_13) (sGu S_13) (sKn S_13) (sFo S_13) (sSp S_13) (sKi S_13) (sPl S_13) (sEa S_13) (sTo S_13) (sQu S_13) fd mo tr b1 tp 0 so_15 bg_16 te_17 wd_18 va_19 0 bo sz sh le im ik co gu kn fo sp ki pl ea to qu (va_DT (hD _ rfl) rfl)) (cwV 2 hts gX6_dinner_X6_moveAll rfl rfl rfl (by decide +kernel) ⟨Nat.le_of_ble_eq_true rfl, Nat.le_of_ble_eq_true rfl⟩) ⟨PcR_fb, va_recv hK hP (ci := 4) (q0 := 0) rfl rfl, PcR_pre hP hK⟩ rfl rfl hl.1 rfl (lv_room (Nat.le_of_ble_eq_true rfl)) dX6_dinner_112 ⟨Nat.zero_le _, Nat.zero_le _⟩) hP (hD _ rfl) hS 0 13 rfl (fun u_39 H locs hu_39 hP hS => ?_)
                  have hP : va_P D vwCl (mdw cI cL b (enc co gu kn fo sp ki pl ea to qu) fd mo tr b1 tp 0 so_15 bg_16 te_17 wd_18 va_19 0 bo sz sh le im (enc co gu kn fo sp ki pl ea to qu) ik) H := hP
                  refine lv_iconst (v := (-1)) hx hb dX6_dinner_115 (by decide) ?_
                  refine lv_aload_n hx hb dX6_dinner_116 rfl (lv_at hl 2 rfl) ?_
                  refine va_get (ci := 4) (v := .int bg_16) (C := RX6) (T := TX6) (N := 20) hx hb hts inX6 hown hK hP 0 rfl rfl 8 (by decide) f167 (fun _ h9 => h9) rfl dX6_dinner_117 ?_
                  refine lv_isub hx hb dX6_dinner_120 ?_
                  exact W.iret hx hb hr (fun t ht hW => ⟨⟨_, ((co, gu, kn, fo, sp, ki, pl, ea, to, qu), 0, 0, enc co gu kn fo sp ki pl ea to qu, so_15, bg_16, te_17, wd_18, va_19), rfl, (by exact ⟨sDin_f hI.2.2.le (by rw [hi4, tell_o (by omega) (fun q => hgn (hI.1.trans q)) (fun q => hs0 (hI.2.2.z.mpr q)) (fun q => h59 (hI.2.2.sg.mpr q).2)]) hI.2.2.2.1, rfl⟩), by dsimp only; rw [ht]; exact hP⟩, hS.F ht⟩) hS.2.2 dX6_dinner_121
              · skip
                have hs0 := c_37
                refine lv_iconst (v := 1) hx hb dX6_dinner_86 (by decide) ?_
                refine lv_goto (tgt := 91) hx hb dX6_dinner_87 (by decide) ?_
                refine va_put (ci := 4) (v := .int 1) (ty := .boolean) (C := RX6) (T := TX6) (N := 20) hx hb hts inX6 tyX6 tyX6_ok nmX6 hown hK hP (hD _ rfl) hS 0 rfl rfl 12 (by decide) f211 (fun _ h9 => h9) rfl rfl rfl rfl (Nat.le_of_ble_eq_true rfl) dX6_dinner_91 (fun H locs hP _ hS => ?_)
                have hP : va_P D vwCl (mdw cI cL b (enc (sCo S_13) (sGu S_13) (sKn S_13) (sFo S_13) (sSp S_13) (sKi S_13) (sPl S_13) (sEa S_13) (sTo S_13) (sQu S_13)) fd mo tr b1 tp tm so_15 bg_16 te_17 wd_18 va_19 1 bo sz sh le im (enc co gu kn fo sp ki pl ea to qu) ik) H := hP
                refine lv_aload_n hx hb dX6_dinner_94 rfl (lv_at hl 2 rfl) ?_
                refine lv_iconst (v := 0) hx hb dX6_dinner_95 (by decide) ?_
                refine va_put (ci := 4) (v := .int 0) (ty := .int) (C := RX6) (T := TX6) (N := 20) hx hb hts inX6 tyX6 tyX6_ok nmX6 hown hK hP (hD _ rfl) hS 0 rfl rfl 6 (by decide) f160 (fun _ h9 => h9) rfl rfl rfl rfl (Nat.le_of_ble_eq_true rfl) dX6_dinner_96 (fun H locs hP _ hS => ?_)
                have hP : va_P D vwCl (mdw cI cL b (enc (sCo S_13) (sGu S_13) (sKn S_13) (sFo S_13) (sSp S_13) (sKi S_13) (sPl S_13) (sEa S_13) (sTo S_13) (sQu S_13)) fd mo tr b1 tp 0 so_15 bg_16 te_17 wd_18 va_19 1 bo sz sh le im (enc co gu kn fo sp ki pl ea to qu) ik) H := hP
                refine lv_aload_n hx hb dX6_dinner_99 rfl (lv_at hl 2 rfl) ?_
                refine va_get (ci := 4) (v := .int 1) (C := RX6) (T := TX6) (N := 20) hx hb hts inX6 hown hK hP 0 rfl rfl 12 (by decide) f211 (fun _ h9 => h9) rfl dX6_dinner_100 ?_
                refine lv_if_ne (tgt := 122) hx hb dX6_dinner_103 (by decide) (fun c_41 => ?_) (fun c_41 => ?_)
                · skip
                  have c_41n := mt (cmp_eq (a := 1) (b := 0) rfl rfl (by omega) (by omega)).mpr c_41
                  refine lv_iload_n hx hb dX6_dinner_122 rfl (lv_at hl 1 rfl) ?_
                  exact W.iret hx hb hr (fun t ht hW => ⟨⟨_, (((sCo S_13), (sGu S_13), (sKn S_13), (sFo S_13), (sSp S_13), (sKi S_13), (sPl S_13), (sEa S_13), (sTo S_13), (sQu S_13)), 0, 1, enc co gu kn fo sp ki pl ea to qu, so_15, bg_16, te_17, wd_18, va_19), rfl, (by exact ⟨sDin_t (by omega) (by rw [hi4, tell_e (by omega) (fun q => hgn (hI.1.trans q)) (hI.2.2.z.mp hs0), hI.2.1]), rfl⟩), by dsimp only; rw [ht]; exact hP⟩, hS.F ht⟩) hS.2.2 dX6_dinner_123
                · skip
                  have c_41n := (cmp_eq (a := 1) (b := 0) rfl rfl (by omega) (by omega)).mp c_41
                  exact absurd c_41 (by decide)
          · skip
            have c_35n := mt (cmp_eq (a := 0) (b := 0) rfl rfl (by omega) (by omega)).mpr c_35
            exact absurd (by decide) c_35
        · skip
          have h59 := c_34
          refine lv_iconst (v := 1) hx hb dX6_dinner_62 (by decide) ?_
          refine lv_goto (tgt := 67) hx hb dX6_dinner_63 (by decide) ?_
          refine lv_istore_n (lv' := [(2, .int 1), (1, .int (nI (i + 1))), (0, .ref (b 0))]) hx hb dX6_dinner_67 rfl hl (by decide) rfl (fun ls hl => ?_)
          refine lv_goto (tgt := 23) hx hb dX6_dinner_68 (by decide) ?_
          refine lv_iload_n hx hb dX6_dinner_23 rfl (lv_at hl 0 rfl) ?_
          refine lv_if_eq (tgt := 71) hx hb dX6_dinner_24 (by decide) (fun c_42 => ?_) (fun c_42 => ?_)
          · skip
            have c_42n := (cmp_eq (a := 1) (b := 0) rfl rfl (by omega) (by omega)).mp c_42
            exact absurd c_42 (by decide)
          · skip
            have c_42n := mt (cmp_eq (a := 1) (b := 0) rfl rfl (by omega) (by omega)).mpr c_42
            have hx3 : tK tp (ix tm) (tItem tp (ix tm) σ c).2.2 = 3 := hI.2.2.sg.mp ⟨hs3, h59⟩
            have hx0 : ¬ (tItem tp (ix tm) σ c).1 = 0 := fun q => hgn (hI.1.trans q)
            have hg1 := (tItem_gt tp (ix tm) σ c).resolve_left hx0
            have hg2 : (tItem tp (ix tm) σ c).2.2 < eN tp (ix tm) (tItem tp (ix tm) σ c).2.2 := eN_gt (by rw [hx3]; decide)
            have hgd := (hI.1.trans ((tItem_01 tp (ix tm) σ c).resolve_left hx0))
            have hP : va_P D vwCl (mdw cI cL b (enc (sCo S_13) (sGu S_13) (sKn S_13) (sFo S_13) (sSp S_13) (sKi S_13) (sPl S_13) (sEa S_13) (sTo S_13) (sQu S_13)) fd mo tr b1 tp tm so_15 bg_16 te_17 wd_18 va_19 1 bo sz sh le im (enc co gu kn fo sp ki pl ea to qu) ik) H := by rw [hgd] at hP; exact hP
            exact ih (n - 1) (by omega) ((i + 1, eN tp (ix tm) (tItem tp (ix tm) σ c).2.2, S_13, so_15, bg_16, te_17, wd_18, va_19)) H locs ls ⟨by omega, hI.2.2.2.2.1, by show 2 * (i + 1) ≤ eN tp (ix tm) (tItem tp (ix tm) σ c).2.2; omega, hI.2.2.le.2.2.1, by have q := hi4.trans (tell_s (by omega) hx0 hx3); rw [nI_1, ← hI.2.1] at q; exact q, by rw [hI.2.1]; obtain ⟨w9, h9⟩ := tItem_ok (B := tp) (L := ix tm) (σ := σ) (w := whC (sGu σ) (sPl σ)) c ⟨hi5.1, hi5.2⟩; exact ⟨h9.1.cC, h9.2⟩, hP, hS, lv_sub hl [2, 1, 0] rfl⟩
