set_option maxRecDepth 100000 in
set_option maxHeartbeats 4000000 in
theorem k_X6_best (l : Launch) (D : va_G) (cI cL cS : ClassId) (b : Nat → Nat) (co gu : Int32) (kn fo sp ki pl ea to qu : FI) (fd : FI) (mo : FI) (tr : FI) (b1 : FI) (tp : FI) (tm : Int32) (so : Int32) (bg : Int32) (te : Int32) (wd : Int64) (va : Int32) (gd : Int32) (bo : FI) (sz : FI) (sh : FJ) (le : FJ) (im : FI) (bf : FI) (ik : Int32) (x0 : Int32) (x1 : Int32) (dj : va_D (fun _ => True) (dj0 b 13)) (ok : okT gu kn fo sp (whC gu pl) ki pl) (oe : okE ea to qu) : Met l yX6_best wsX6_best { frames := 8, cells := 0, slots := 0, locals := 183 } (PcR D vwCl (tyG cI cL cS) [.ref (b 0), .int x0, .int x1] (mdw cI cL b (enc co gu kn fo sp ki pl ea to qu) fd mo tr b1 tp tm so bg te wd va gd bo sz sh le im bf ik)) (va_Qi (fun (r : Int32) (u : FI × FI × FI) => (r, u.2.2) = sBest (co, gu, kn, fo, sp, ki, pl, ea, to, qu) fd x0 x1) (fun u t => va_P D vwCl (mdw cI cL b (enc co gu kn fo sp ki pl ea to qu) u.2.2 u.1 u.2.1 b1 tp tm so bg te wd va gd bo sz sh le im bf ik) t.heap) (Aof (mdw cI cL b (enc co gu kn fo sp ki pl ea to qu) fd mo tr b1 tp tm so bg te wd va gd bo sz sh le im bf ik))) 0 0 (Aof (mdw cI cL b (enc co gu kn fo sp ki pl ea to qu) fd mo tr b1 tp tm so bg te wd va gd bo sz sh le im bf ik)) := by
  refine Met.ofW (cc := cX6_best) (maxL := 9) (ret := (some .int)) (by decide) rfl ?_
  intro p e s m args below meth c s₁ B hml hv
  obtain ⟨rfl, hP, hK⟩ := hv
  have hx := B.exec
  have hb := B.bytes
  have hr := B.returns
  have hts := atoms_spec (ws := wsX6_best) B.pre
  have hown : s.vm.findClass RX6 = some m.cls := findClass_of_methodNamed B.named
  have hlocks := B.notSynchronized
  obtain ⟨A, hAe⟩ : ∃ A, A = Aof (mdw cI cL b (enc co gu kn fo sp ki pl ea to qu) fd mo tr b1 tp tm so bg te wd va gd bo sz sh le im bf ik) := ⟨_, rfl⟩
  rw [← hAe]
  have hD : ∀ ws' : va_W, ws'.map Prod.fst = (mdw cI cL b (enc co gu kn fo sp ki pl ea to qu) fd mo tr b1 tp tm so bg te wd va gd bo sz sh le im bf ik).map Prod.fst → va_D A ws' := fun ws' e => by rw [hAe]; exact va_D_adr (va_D_self (va_D_adr dj rfl)) e
  have hS : va_S A s.heap s.heap [] := va_S.rf
  have hP : va_P D vwCl (mdw cI cL b (enc co gu kn fo sp ki pl ea to qu) fd mo tr b1 tp tm so bg te wd va gd bo sz sh le im bf ik) s.heap := hP
  have hl := lv_entry ([.ref (b 0), .int x0, .int x1]) (n := 9) (Nat.le_of_ble_eq_true rfl)
  rw [lg_entry_eq]
  generalize (lg_sl ([.ref (b 0), .int x0, .int x1]) ++ List.replicate (9 - (lg_sl ([.ref (b 0), .int x0, .int x1])).length) Slot.unset).toArray = ls at hl ⊢
  have hl : lv_has ls 9 [(0, .ref (b 0)), (1, .int x0), (2, .int x1)] := hl
  have k47 := hts (.constant RX6 47 (-1000000001)) (List.mem_of_getElem? (i := 1) rfl)
  have f19 := hts (.fieldLink RX6 19 "KnivesLaidModel" "tried" "[I") (List.mem_of_getElem? (i := 2) rfl)
  have inX6 : ∀ w ∈ u_ws RX6 TX6 20, w ∈ wsX6_best := in_at 100 _ _ rfl
  skip
  refine lv_aload_n hx hb dX6_best_0 rfl (lv_at hl 0 rfl) ?_
  refine lv_iload_n hx hb dX6_best_1 rfl (lv_at hl 1 rfl) ?_
  refine callE (W.runV (As := [.int x0]) (rest := []) ⟨hx, hb, hml, hown, hts⟩ (k_X6_isOne l D cI cL cS b co gu kn fo sp ki pl ea to qu fd mo tr b1 tp tm so bg te wd va gd bo sz sh le im bf ik x0 ok.gu) (cwV 1 hts gX6_best_X6_isOne rfl rfl rfl (by decide +kernel) ⟨Nat.le_of_ble_eq_true rfl, Nat.le_of_ble_eq_true rfl⟩) ⟨PcR_fb, va_recv hK hP (ci := 4) (q0 := 0) rfl rfl, PcR_pre hP hK⟩ rfl rfl hl.1 rfl (lv_room (Nat.le_of_ble_eq_true rfl)) dX6_best_2 ⟨Nat.zero_le _, Nat.zero_le _⟩) ?_
  refine lv_if_eq (tgt := 18) hx hb dX6_best_5 (by decide) (fun c_1 => ?_) (fun c_1 => ?_)
  · skip
    have c_1b := bI_0 c_1
    refine lv_aload_n hx hb dX6_best_18 rfl (lv_at hl 0 rfl) ?_
    refine lv_ldc hx hb hown k47 dX6_best_19 ?_
    refine callMi (va_runV (As := [.int (-1000000001)]) (rest := []) ⟨hx, hb, hml, hown, hts⟩ (k_X6_finds l D cI cL cS b co gu kn fo sp ki pl ea to qu fd mo tr b1 tp tm so bg te wd va gd bo sz sh le im bf ik (-1000000001) (va_DT (hD _ rfl) rfl) (vp_in_iff.mpr (by decide))) (cwV 1 hts gX6_best_X6_finds rfl rfl rfl (by decide +kernel) ⟨Nat.le_of_ble_eq_true rfl, Nat.le_of_ble_eq_true rfl⟩) ⟨PcR_fb, va_recv hK hP (ci := 4) (q0 := 0) rfl rfl, PcR_pre hP hK⟩ rfl rfl hl.1 rfl (lv_room (Nat.le_of_ble_eq_true rfl)) dX6_best_21 ⟨Nat.zero_le _, Nat.zero_le _⟩) hP (hD _ rfl) hS 0 13 rfl (fun r_3 u_2 H locs hu_2 hP hS => ?_)
    obtain ⟨hu_2r, hu_2⟩ := hu_2
    subst hu_2r
    have hP : va_P D vwCl (mdw cI cL b (enc co gu kn fo sp ki pl ea to qu) (bump fd (-1000000001)) mo tr b1 tp tm so bg te wd va gd bo sz sh le im bf ik) H := hP
    exact W.iret hx hb hr (fun t ht hW => ⟨⟨_, (mo, tr, bump fd (-1000000001)), rfl, (by exact (iF_f (fun h => by first | exact absurd h.1 c_1b | exact absurd c_1b h.1 | exact absurd h.2 c_1b | exact absurd c_1b h.2)).symm), by dsimp only; rw [ht]; exact hP⟩, hS.F ht⟩) hS.2.2 dX6_best_24
  · skip
    have c_1b := bI_n c_1
    have h1n := c_1b
    have h8 : vp_in x0 8 := in_8 ok.gu h1n
    refine lv_iload_n hx hb dX6_best_8 rfl (lv_at hl 2 rfl) ?_
    refine lv_iconst (v := 1) hx hb dX6_best_9 (by decide) ?_
    refine lv_bipush (v := 40) hx hb dX6_best_10 (by decide) ?_
    refine callE (W.runS (As := [.int x1, .int 1, .int 40]) (rest := []) ⟨hx, hb, hml, hown, hts⟩ (k_X6_in l x1 1 40) (va_cwS 3 hts gX6_best_X6_in rfl rfl rfl (by decide +kernel) ⟨Nat.le_of_ble_eq_true rfl, Nat.le_of_ble_eq_true rfl⟩) ⟨PcP_fb, fun U _ _ => ⟨rfl, trivial⟩⟩ rfl rfl hl.1 rfl (lv_room (Nat.le_of_ble_eq_true rfl)) dX6_best_12 ⟨Nat.zero_le _, Nat.zero_le _⟩) ?_
    refine lv_if_ne (tgt := 25) hx hb dX6_best_15 (by decide) (fun c_4 => ?_) (fun c_4 => ?_)
    · skip
      have c_4b := bI_n c_4
      have hn := c_4b
      have hcc : sOne (co, gu, kn, fo, sp, ki, pl, ea, to, qu) x0 ∧ c40 x1 := ⟨h1n, hn⟩
      refine lv_aload_n hx hb dX6_best_25 rfl (lv_at hl 0 rfl) ?_
      refine lv_iconst (v := 1) hx hb dX6_best_26 (by decide) ?_
      refine lv_aload_n hx hb dX6_best_27 rfl (lv_at hl 0 rfl) ?_
      refine va_get (ci := 4) (v := .ref (b 4)) (C := RX6) (T := TX6) (N := 20) hx hb hts inX6 hown hK hP 0 rfl rfl 3 (by decide) f19 (fun _ h9 => h9) rfl dX6_best_28 ?_
      refine callMv (va_runV (As := [.int 1, .ref (b 4)]) (rest := []) ⟨hx, hb, hml, hown, hts⟩ (k_X6_moveAll_tr1 l D cI cL cS b co gu kn fo sp ki pl ea to qu fd mo tr b1 tp tm so bg te wd va gd bo sz sh le im bf ik (va_DT (hD _ rfl) rfl)) (cwV 2 hts gX6_best_X6_moveAll rfl rfl rfl (by decide +kernel) ⟨Nat.le_of_ble_eq_true rfl, Nat.le_of_ble_eq_true rfl⟩) ⟨PcR_fb, va_recv hK hP (ci := 4) (q0 := 0) rfl rfl, PcR_pre hP hK⟩ rfl rfl hl.1 rfl (lv_room (Nat.le_of_ble_eq_true rfl)) dX6_best_31 ⟨Nat.zero_le _, Nat.zero_le _⟩) hP (hD _ rfl) hS 0 13 rfl (fun u_5 H locs hu_5 hP hS => ?_)
      have hP : va_P D vwCl (mdw cI cL b (enc co gu kn fo sp ki pl ea to qu) fd mo (enc co gu kn fo sp ki pl ea to qu) b1 tp tm so bg te wd va gd bo sz sh le im bf ik) H := hP
      refine lv_iconst (v := (-1)) hx hb dX6_best_34 (by decide) ?_
      refine lv_istore_n (lv' := [(3, .int (-1)), (0, .ref (b 0)), (1, .int x0), (2, .int x1)]) hx hb dX6_best_35 rfl hl (by decide) rfl (fun ls hl => ?_)
      refine lv_iconst (v := 0) hx hb dX6_best_36 (by decide) ?_
      refine lv_istore (lv' := [(4, .int 0), (3, .int (-1)), (0, .ref (b 0)), (1, .int x0), (2, .int x1)]) hx hb dX6_best_37 hl (by decide) rfl (fun ls hl => ?_)
      refine lv_iconst (v := 0) hx hb dX6_best_39 (by decide) ?_
      refine lv_istore (lv' := [(5, .int 0), (4, .int 0), (3, .int (-1)), (0, .ref (b 0)), (1, .int x0), (2, .int x1)]) hx hb dX6_best_40 hl (by decide) rfl (fun ls hl => ?_)
      refine lpW (fun n (u : Nat × Int32 × Int32 × FI) H locs ls => (u.1 + n = 10) ∧ ((u.2.1, u.2.2.1) = sArg (okB (co, gu, kn, fo, sp, ki, pl, ea, to, qu) x0) (fBest (co, gu, kn, fo, sp, ki, pl, ea, to, qu) x0 x1) u.1) ∧ va_P D vwCl (mdw cI cL b (enc co gu kn fo sp ki pl ea to qu) fd u.2.2.2 (enc co gu kn fo sp ki pl ea to qu) b1 tp tm so bg te wd va gd bo sz sh le im bf ik) H ∧ va_S A s.heap H locs ∧ lv_has ls 9 [(0, .ref (b 0)), (1, .int x0), (2, .int x1), (3, .int u.2.1), (4, .int u.2.2.1), (5, .int (nI u.1))]) (10) ((0, (-1), 0, mo)) ⟨by omega, rfl, hP, hS, lv_sub hl [3, 4, 5, 2, 1, 0] rfl⟩ (fun n ih u H locs ls hI => ?_)
      obtain ⟨i, bb, mm, mo1⟩ := u
      obtain ⟨hi0, hi1, hP, hS, hl⟩ := hI
      have hi0 : i + n = 10 := hi0
      have hi1 : (bb, mm) = sArg (okB (co, gu, kn, fo, sp, ki, pl, ea, to, qu) x0) (fBest (co, gu, kn, fo, sp, ki, pl, ea, to, qu) x0 x1) i := hi1
      have hl : lv_has ls 9 [(0, .ref (b 0)), (1, .int x0), (2, .int x1), (3, .int bb), (4, .int mm), (5, .int (nI i))] := hl
      have hP : va_P D vwCl (mdw cI cL b (enc co gu kn fo sp ki pl ea to qu) fd mo1 (enc co gu kn fo sp ki pl ea to qu) b1 tp tm so bg te wd va gd bo sz sh le im bf ik) H := hP
      have hix : ix (nI i) = i := ix_nI (by omega)
      refine lv_iload hx hb dX6_best_42 (lv_at hl 5 rfl) ?_
      refine lv_bipush (v := 10) hx hb dX6_best_44 (by decide) ?_
      refine lv_icmp_ge (tgt := 134) hx hb dX6_best_46 (by decide) (fun c_7 => ?_) (fun c_7 => ?_)
      · skip
        have c_7n := (cmp_le (a := 10) (b := i) rfl rfl (by omega) (by omega)).mp c_7
        refine lv_iload_n hx hb dX6_best_134 rfl (lv_at hl 3 rfl) ?_
        exact W.iret hx hb hr (fun t ht hW => ⟨⟨_, (mo1, enc co gu kn fo sp ki pl ea to qu, fd), rfl, (by unfold sBest; rw [iF_t hcc, show sArg _ _ 10 = (bb, mm) by rw [hi1, show i = 10 by omega]]), by dsimp only; rw [ht]; exact hP⟩, hS.F ht⟩) hS.2.2 dX6_best_135
      · skip
        have c_7n := mt (cmp_le (a := 10) (b := i) rfl rfl (by omega) (by omega)).mpr c_7
        have hip : vp_in (nI i) 10 := vp_in_nI (by omega) (by decide)
        refine lv_aload_n hx hb dX6_best_49 rfl (lv_at hl 0 rfl) ?_
        refine lv_iload hx hb dX6_best_50 (lv_at hl 5 rfl) ?_
        refine callE (W.runV (As := [.int (nI i)]) (rest := []) ⟨hx, hb, hml, hown, hts⟩ (k_X6_whoAt l D cI cL cS b co gu kn fo sp ki pl ea to qu fd mo1 (enc co gu kn fo sp ki pl ea to qu) b1 tp tm so bg te wd va gd bo sz sh le im bf ik (nI i) ok.gu) (cwV 1 hts gX6_best_X6_whoAt rfl rfl rfl (by decide +kernel) ⟨Nat.le_of_ble_eq_true rfl, Nat.le_of_ble_eq_true rfl⟩) ⟨PcR_fb, va_recv hK hP (ci := 4) (q0 := 0) rfl rfl, PcR_pre hP hK⟩ rfl rfl hl.1 rfl (lv_room (Nat.le_of_ble_eq_true rfl)) dX6_best_52 ⟨Nat.zero_le _, Nat.zero_le _⟩) ?_
        refine lv_istore (lv' := [(6, .int (sWhoN pl (nI i) (ix gu))), (0, .ref (b 0)), (1, .int x0), (2, .int x1), (3, .int bb), (4, .int mm), (5, .int (nI i))]) hx hb dX6_best_55 hl (by decide) rfl (fun ls hl => ?_)
        refine lv_iload hx hb dX6_best_57 (lv_at hl 0 rfl) ?_
        refine lv_if_lt (tgt := 68) hx hb dX6_best_59 (by decide) (fun c_8 => ?_) (fun c_8 => ?_)
        · skip
          have hfr : okB (co, gu, kn, fo, sp, ki, pl, ea, to, qu) x0 i := Or.inl (Classical.not_not.mp (fun h => (who_neg ok.gu).mpr h c_8))
          refine lv_aload_n hx hb dX6_best_68 rfl (lv_at hl 1 rfl) ?_
          refine lv_iload_n hx hb dX6_best_69 rfl (lv_at hl 2 rfl) ?_
          refine lv_iconst (v := 1) hx hb dX6_best_70 (by decide) ?_
          refine lv_iload hx hb dX6_best_71 (lv_at hl 6 rfl) ?_
          refine callMv (va_runV (As := [.int x0, .int 1, .int (nI i)]) (rest := []) ⟨hx, hb, hml, hown, hts⟩ (k_X6_puts1 l D cI cL cS b co gu kn fo sp ki pl ea to qu fd mo1 (enc co gu kn fo sp ki pl ea to qu) b1 tp tm so bg te wd va gd bo sz sh le im bf ik x0 (nI i) (va_DT (hD _ rfl) rfl) h8) (cwV 3 hts gX6_best_X6_puts rfl rfl rfl (by decide +kernel) ⟨Nat.le_of_ble_eq_true rfl, Nat.le_of_ble_eq_true rfl⟩) ⟨PcR_fb, va_recv hK hP (ci := 4) (q0 := 0) rfl rfl, PcR_pre hP hK⟩ rfl rfl hl.1 rfl (lv_room (Nat.le_of_ble_eq_true rfl)) dX6_best_73 ⟨Nat.zero_le _, Nat.zero_le _⟩) hP (hD _ rfl) hS 0 13 rfl (fun u_9 H locs hu_9 hP hS => ?_)
          have hP : va_P D vwCl (mdw cI cL b (enc co gu kn fo sp ki (upd pl (ix x0) (nI i)) ea to qu) fd mo1 (enc co gu kn fo sp ki pl ea to qu) b1 tp tm so bg te wd va gd bo sz sh le im bf ik) H := hP
          refine lv_aload_n hx hb dX6_best_76 rfl (lv_at hl 1 rfl) ?_
          refine lv_iload_n hx hb dX6_best_77 rfl (lv_at hl 2 rfl) ?_
          refine lv_iload_n hx hb dX6_best_78 rfl (lv_at hl 3 rfl) ?_
          refine callMi (va_runV (As := [.int x0, .int x1]) (rest := []) ⟨hx, hb, hml, hown, hts⟩ (k_X6_easeBehind l D cI cL cS b co gu kn fo sp ki (upd pl (ix x0) (nI i)) ea to qu fd mo1 b1 tp tm so bg te wd va gd bo sz sh le im bf ik co gu kn fo sp ki pl ea to qu x0 x1 (va_DT (hD _ rfl) rfl) ((ok_moveT ok h1n hip hfr).cC) oe h8 (wi_in hn (by decide) (by decide))) (cwV 2 hts gX6_best_X6_easeBehind rfl rfl rfl (by decide +kernel) ⟨Nat.le_of_ble_eq_true rfl, Nat.le_of_ble_eq_true rfl⟩) ⟨PcR_fb, va_recv hK hP (ci := 4) (q0 := 0) rfl rfl, PcR_pre hP hK⟩ rfl rfl hl.1 rfl (lv_room (Nat.le_of_ble_eq_true rfl)) dX6_best_79 ⟨Nat.zero_le _, Nat.zero_le _⟩) hP (hD _ rfl) hS 0 13 rfl (fun r_12 u_11 H locs hu_11 hP hS => ?_)
          obtain ⟨mo_13, rfl⟩ : ∃ z, z = u_11 := ⟨_, rfl⟩
          have hu_11 : r_12 = sEa (sPass (ix x1) (co, gu, kn, fo, sp, ki, upd pl (ix x0) (nI i), ea, to, qu)) (ix x0) := hu_11
          subst hu_11
          have hP : va_P D vwCl (mdw cI cL b (enc co gu kn fo sp ki pl ea to qu) fd mo_13 (enc co gu kn fo sp ki pl ea to qu) b1 tp tm so bg te wd va gd bo sz sh le im bf ik) H := hP
          refine lv_istore (lv' := [(7, .int (sEa (sPass (ix x1) (co, gu, kn, fo, sp, ki, upd pl (ix x0) (nI i), ea, to, qu)) (ix x0))), (6, .int (sWhoN pl (nI i) (ix gu))), (0, .ref (b 0)), (1, .int x0), (2, .int x1), (3, .int bb), (4, .int mm), (5, .int (nI i))]) hx hb dX6_best_82 hl (by decide) rfl (fun ls hl => ?_)
          refine lv_iload_n hx hb dX6_best_84 rfl (lv_at hl 5 rfl) ?_
          refine jn (fun v_14 : Int32 => v_14 = (if bb < 0 then 1 else (if (sEa (sPass (ix x1) (co, gu, kn, fo, sp, ki, upd pl (ix x0) (nI i), ea, to, qu)) (ix x0)) ≤ mm then 0 else 1) : Int32)) (fun v_14 => F0 m 100 ls [.int v_14]) (fun Jv_14 => ?_) (fun v_14 ev_14 => ?_)
          · skip
            refine lv_if_lt (tgt := 95) hx hb dX6_best_85 (by decide) (fun c_15 => ?_) (fun c_15 => ?_)
            · skip
              refine lv_iconst (v := 1) hx hb dX6_best_95 (by decide) ?_
              refine lv_goto (tgt := 100) hx hb dX6_best_96 (by decide) ?_
              exact Jv_14 _ (by rw [if_pos c_15])
            · skip
              refine lv_iload hx hb dX6_best_88 (lv_at hl 0 rfl) ?_
              refine lv_iload hx hb dX6_best_90 (lv_at hl 6 rfl) ?_
              refine lv_icmp_le (tgt := 99) hx hb dX6_best_92 (by decide) (fun c_16 => ?_) (fun c_16 => ?_)
              · skip
                refine lv_iconst (v := 0) hx hb dX6_best_99 (by decide) ?_
                exact Jv_14 _ (by rw [if_neg c_15, if_pos c_16])
              · skip
                refine lv_iconst (v := 1) hx hb dX6_best_95 (by decide) ?_
                refine lv_goto (tgt := 100) hx hb dX6_best_96 (by decide) ?_
                exact Jv_14 _ (by rw [if_neg c_15, if_neg c_16])
          subst ev_14
          refine lv_istore (lv' := [(8, .int (if bb < 0 then 1 else (if (sEa (sPass (ix x1) (co, gu, kn, fo, sp, ki, upd pl (ix x0) (nI i), ea, to, qu)) (ix x0)) ≤ mm then 0 else 1) : Int32)), (7, .int (sEa (sPass (ix x1) (co, gu, kn, fo, sp, ki, upd pl (ix x0) (nI i), ea, to, qu)) (ix x0))), (6, .int (sWhoN pl (nI i) (ix gu))), (0, .ref (b 0)), (1, .int x0), (2, .int x1), (3, .int bb), (4, .int mm), (5, .int (nI i))]) hx hb dX6_best_100 hl (by decide) rfl (fun ls hl => ?_)
          refine lv_iload hx hb dX6_best_102 (lv_at hl 0 rfl) ?_
          refine jn (fun v_17 : Int32 => v_17 = (if (if bb < 0 then 1 else (if (sEa (sPass (ix x1) (co, gu, kn, fo, sp, ki, upd pl (ix x0) (nI i), ea, to, qu)) (ix x0)) ≤ mm then 0 else 1) : Int32) = 0 then bb else nI i : Int32)) (fun v_17 => F0 m 113 ls [.int v_17]) (fun Jv_17 => ?_) (fun v_17 ev_17 => ?_)
          · skip
            refine lv_if_eq (tgt := 112) hx hb dX6_best_104 (by decide) (fun c_18 => ?_) (fun c_18 => ?_)
            · skip
              refine lv_iload_n hx hb dX6_best_112 rfl (lv_at hl 6 rfl) ?_
              exact Jv_17 _ (by rw [if_pos c_18])
            · skip
              refine lv_iload hx hb dX6_best_107 (lv_at hl 8 rfl) ?_
              refine lv_goto (tgt := 113) hx hb dX6_best_109 (by decide) ?_
              exact Jv_17 _ (by rw [if_neg c_18])
          subst ev_17
          refine lv_istore_n (lv' := [(3, .int (if (if bb < 0 then 1 else (if (sEa (sPass (ix x1) (co, gu, kn, fo, sp, ki, upd pl (ix x0) (nI i), ea, to, qu)) (ix x0)) ≤ mm then 0 else 1) : Int32) = 0 then bb else nI i : Int32)), (8, .int (if bb < 0 then 1 else (if (sEa (sPass (ix x1) (co, gu, kn, fo, sp, ki, upd pl (ix x0) (nI i), ea, to, qu)) (ix x0)) ≤ mm then 0 else 1) : Int32)), (7, .int (sEa (sPass (ix x1) (co, gu, kn, fo, sp, ki, upd pl (ix x0) (nI i), ea, to, qu)) (ix x0))), (6, .int (sWhoN pl (nI i) (ix gu))), (0, .ref (b 0)), (1, .int x0), (2, .int x1), (4, .int mm), (5, .int (nI i))]) hx hb dX6_best_113 rfl hl (by decide) rfl (fun ls hl => ?_)
          refine lv_iload hx hb dX6_best_114 (lv_at hl 1 rfl) ?_
          refine jn (fun v_19 : Int32 => v_19 = (if (if bb < 0 then 1 else (if (sEa (sPass (ix x1) (co, gu, kn, fo, sp, ki, upd pl (ix x0) (nI i), ea, to, qu)) (ix x0)) ≤ mm then 0 else 1) : Int32) = 0 then mm else (sEa (sPass (ix x1) (co, gu, kn, fo, sp, ki, upd pl (ix x0) (nI i), ea, to, qu)) (ix x0)) : Int32)) (fun v_19 => F0 m 126 ls [.int v_19]) (fun Jv_19 => ?_) (fun v_19 ev_19 => ?_)
          · skip
            refine lv_if_eq (tgt := 124) hx hb dX6_best_116 (by decide) (fun c_20 => ?_) (fun c_20 => ?_)
            · skip
              refine lv_iload hx hb dX6_best_124 (lv_at hl 7 rfl) ?_
              exact Jv_19 _ (by rw [if_pos c_20])
            · skip
              refine lv_iload hx hb dX6_best_119 (lv_at hl 2 rfl) ?_
              refine lv_goto (tgt := 126) hx hb dX6_best_121 (by decide) ?_
              exact Jv_19 _ (by rw [if_neg c_20])
          subst ev_19
          refine lv_istore (lv' := [(4, .int (if (if bb < 0 then 1 else (if (sEa (sPass (ix x1) (co, gu, kn, fo, sp, ki, upd pl (ix x0) (nI i), ea, to, qu)) (ix x0)) ≤ mm then 0 else 1) : Int32) = 0 then mm else (sEa (sPass (ix x1) (co, gu, kn, fo, sp, ki, upd pl (ix x0) (nI i), ea, to, qu)) (ix x0)) : Int32)), (3, .int (if (if bb < 0 then 1 else (if (sEa (sPass (ix x1) (co, gu, kn, fo, sp, ki, upd pl (ix x0) (nI i), ea, to, qu)) (ix x0)) ≤ mm then 0 else 1) : Int32) = 0 then bb else nI i : Int32)), (8, .int (if bb < 0 then 1 else (if (sEa (sPass (ix x1) (co, gu, kn, fo, sp, ki, upd pl (ix x0) (nI i), ea, to, qu)) (ix x0)) ≤ mm then 0 else 1) : Int32)), (7, .int (sEa (sPass (ix x1) (co, gu, kn, fo, sp, ki, upd pl (ix x0) (nI i), ea, to, qu)) (ix x0))), (6, .int (sWhoN pl (nI i) (ix gu))), (0, .ref (b 0)), (1, .int x0), (2, .int x1), (5, .int (nI i))]) hx hb dX6_best_126 hl (by decide) rfl (fun ls hl => ?_)
          refine lv_iinc (v := nI (i + 1)) (lv' := [(5, .int (nI (i + 1))), (4, .int (if (if bb < 0 then 1 else (if (sEa (sPass (ix x1) (co, gu, kn, fo, sp, ki, upd pl (ix x0) (nI i), ea, to, qu)) (ix x0)) ≤ mm then 0 else 1) : Int32) = 0 then mm else (sEa (sPass (ix x1) (co, gu, kn, fo, sp, ki, upd pl (ix x0) (nI i), ea, to, qu)) (ix x0)) : Int32)), (3, .int (if (if bb < 0 then 1 else (if (sEa (sPass (ix x1) (co, gu, kn, fo, sp, ki, upd pl (ix x0) (nI i), ea, to, qu)) (ix x0)) ≤ mm then 0 else 1) : Int32) = 0 then bb else nI i : Int32)), (8, .int (if bb < 0 then 1 else (if (sEa (sPass (ix x1) (co, gu, kn, fo, sp, ki, upd pl (ix x0) (nI i), ea, to, qu)) (ix x0)) ≤ mm then 0 else 1) : Int32)), (7, .int (sEa (sPass (ix x1) (co, gu, kn, fo, sp, ki, upd pl (ix x0) (nI i), ea, to, qu)) (ix x0))), (6, .int (sWhoN pl (nI i) (ix gu))), (0, .ref (b 0)), (1, .int x0), (2, .int x1)]) hx hb dX6_best_128 hl (k := 8) rfl (nI_1 _) (by decide) rfl (fun ls hl => ?_)
          refine lv_goto (tgt := 42) hx hb dX6_best_131 (by decide) ?_
          exact ih (n - 1) (by omega) ((i + 1, (if (if bb < 0 then 1 else (if (sEa (sPass (ix x1) (co, gu, kn, fo, sp, ki, upd pl (ix x0) (nI i), ea, to, qu)) (ix x0)) ≤ mm then 0 else 1) : Int32) = 0 then bb else nI i : Int32), (if (if bb < 0 then 1 else (if (sEa (sPass (ix x1) (co, gu, kn, fo, sp, ki, upd pl (ix x0) (nI i), ea, to, qu)) (ix x0)) ≤ mm then 0 else 1) : Int32) = 0 then mm else (sEa (sPass (ix x1) (co, gu, kn, fo, sp, ki, upd pl (ix x0) (nI i), ea, to, qu)) (ix x0)) : Int32), mo_13)) H locs ls ⟨by omega, arg_step hi1 hfr rfl, hP, hS, lv_sub hl [6, 7, 8, 2, 1, 0] rfl⟩
        · skip
          have hw0 := (who_neg ok.gu).mp c_8
          refine lv_iload hx hb dX6_best_62 (lv_at hl 0 rfl) ?_
          refine lv_iload_n hx hb dX6_best_64 rfl (lv_at hl 2 rfl) ?_
          refine lv_icmp_ne (tgt := 128) hx hb dX6_best_65 (by decide) (fun c_21 => ?_) (fun c_21 => ?_)
          · skip
            have hno : ¬ okB (co, gu, kn, fo, sp, ki, pl, ea, to, qu) x0 i := fun h => h.elim hw0 c_21
            refine lv_iinc (v := nI (i + 1)) (lv' := [(5, .int (nI (i + 1))), (6, .int (sWhoN pl (nI i) (ix gu))), (0, .ref (b 0)), (1, .int x0), (2, .int x1), (3, .int bb), (4, .int mm)]) hx hb dX6_best_128 hl (k := 6) rfl (nI_1 _) (by decide) rfl (fun ls hl => ?_)
            refine lv_goto (tgt := 42) hx hb dX6_best_131 (by decide) ?_
            exact ih (n - 1) (by omega) ((i + 1, bb, mm, mo1)) H locs ls ⟨by omega, arg_skip hi1 hno, hP, hS, lv_sub hl [2, 3, 4, 5, 6, 0] rfl⟩
          · skip
            have hfr : okB (co, gu, kn, fo, sp, ki, pl, ea, to, qu) x0 i := Or.inr c_21
            refine lv_aload_n hx hb dX6_best_68 rfl (lv_at hl 1 rfl) ?_
            refine lv_iload_n hx hb dX6_best_69 rfl (lv_at hl 2 rfl) ?_
            refine lv_iconst (v := 1) hx hb dX6_best_70 (by decide) ?_
            refine lv_iload hx hb dX6_best_71 (lv_at hl 6 rfl) ?_
            refine callMv (va_runV (As := [.int x0, .int 1, .int (nI i)]) (rest := []) ⟨hx, hb, hml, hown, hts⟩ (k_X6_puts1 l D cI cL cS b co gu kn fo sp ki pl ea to qu fd mo1 (enc co gu kn fo sp ki pl ea to qu) b1 tp tm so bg te wd va gd bo sz sh le im bf ik x0 (nI i) (va_DT (hD _ rfl) rfl) h8) (cwV 3 hts gX6_best_X6_puts rfl rfl rfl (by decide +kernel) ⟨Nat.le_of_ble_eq_true rfl, Nat.le_of_ble_eq_true rfl⟩) ⟨PcR_fb, va_recv hK hP (ci := 4) (q0 := 0) rfl rfl, PcR_pre hP hK⟩ rfl rfl hl.1 rfl (lv_room (Nat.le_of_ble_eq_true rfl)) dX6_best_73 ⟨Nat.zero_le _, Nat.zero_le _⟩) hP (hD _ rfl) hS 0 13 rfl (fun u_22 H locs hu_22 hP hS => ?_)
            have hP : va_P D vwCl (mdw cI cL b (enc co gu kn fo sp ki (upd pl (ix x0) (nI i)) ea to qu) fd mo1 (enc co gu kn fo sp ki pl ea to qu) b1 tp tm so bg te wd va gd bo sz sh le im bf ik) H := hP
            refine lv_aload_n hx hb dX6_best_76 rfl (lv_at hl 1 rfl) ?_
            refine lv_iload_n hx hb dX6_best_77 rfl (lv_at hl 2 rfl) ?_
            refine lv_iload_n hx hb dX6_best_78 rfl (lv_at hl 3 rfl) ?_
            refine callMi (va_runV (As := [.int x0, .int x1]) (rest := []) ⟨hx, hb, hml, hown, hts⟩ (k_X6_easeBehind l D cI cL cS b co gu kn fo sp ki (upd pl (ix x0) (nI i)) ea to qu fd mo1 b1 tp tm so bg te wd va gd bo sz sh le im bf ik co gu kn fo sp ki pl ea to qu x0 x1 (va_DT (hD _ rfl) rfl) ((ok_moveT ok h1n hip hfr).cC) oe h8 (wi_in hn (by decide) (by decide))) (cwV 2 hts gX6_best_X6_easeBehind rfl rfl rfl (by decide +kernel) ⟨Nat.le_of_ble_eq_true rfl, Nat.le_of_ble_eq_true rfl⟩) ⟨PcR_fb, va_recv hK hP (ci := 4) (q0 := 0) rfl rfl, PcR_pre hP hK⟩ rfl rfl hl.1 rfl (lv_room (Nat.le_of_ble_eq_true rfl)) dX6_best_79 ⟨Nat.zero_le _, Nat.zero_le _⟩) hP (hD _ rfl) hS 0 13 rfl (fun r_25 u_24 H locs hu_24 hP hS => ?_)
            obtain ⟨mo_26, rfl⟩ : ∃ z, z = u_24 := ⟨_, rfl⟩
            have hu_24 : r_25 = sEa (sPass (ix x1) (co, gu, kn, fo, sp, ki, upd pl (ix x0) (nI i), ea, to, qu)) (ix x0) := hu_24
            subst hu_24
            have hP : va_P D vwCl (mdw cI cL b (enc co gu kn fo sp ki pl ea to qu) fd mo_26 (enc co gu kn fo sp ki pl ea to qu) b1 tp tm so bg te wd va gd bo sz sh le im bf ik) H := hP
            refine lv_istore (lv' := [(7, .int (sEa (sPass (ix x1) (co, gu, kn, fo, sp, ki, upd pl (ix x0) (nI i), ea, to, qu)) (ix x0))), (6, .int (sWhoN pl (nI i) (ix gu))), (0, .ref (b 0)), (1, .int x0), (2, .int x1), (3, .int bb), (4, .int mm), (5, .int (nI i))]) hx hb dX6_best_82 hl (by decide) rfl (fun ls hl => ?_)
            refine lv_iload_n hx hb dX6_best_84 rfl (lv_at hl 5 rfl) ?_
            refine jn (fun v_27 : Int32 => v_27 = (if bb < 0 then 1 else (if (sEa (sPass (ix x1) (co, gu, kn, fo, sp, ki, upd pl (ix x0) (nI i), ea, to, qu)) (ix x0)) ≤ mm then 0 else 1) : Int32)) (fun v_27 => F0 m 100 ls [.int v_27]) (fun Jv_27 => ?_) (fun v_27 ev_27 => ?_)
            · skip
              refine lv_if_lt (tgt := 95) hx hb dX6_best_85 (by decide) (fun c_28 => ?_) (fun c_28 => ?_)
              · skip
                refine lv_iconst (v := 1) hx hb dX6_best_95 (by decide) ?_
                refine lv_goto (tgt := 100) hx hb dX6_best_96 (by decide) ?_
                exact Jv_27 _ (by rw [if_pos c_28])
              · skip
                refine lv_iload hx hb dX6_best_88 (lv_at hl 0 rfl) ?_
                refine lv_iload hx hb dX6_best_90 (lv_at hl 6 rfl) ?_
                refine lv_icmp_le (tgt := 99) hx hb dX6_best_92 (by decide) (fun c_29 => ?_) (fun c_29 => ?_)
                · skip
                  refine lv_iconst (v := 0) hx hb dX6_best_99 (by decide) ?_
                  exact Jv_27 _ (by rw [if_neg c_28, if_pos c_29])
                · skip
                  refine lv_iconst (v := 1) hx hb dX6_best_95 (by decide) ?_
                  refine lv_goto (tgt := 100) hx hb dX6_best_96 (by decide) ?_
                  exact Jv_27 _ (by rw [if_neg c_28, if_neg c_29])
            subst ev_27
            refine lv_istore (lv' := [(8, .int (if bb < 0 then 1 else (if (sEa (sPass (ix x1) (co, gu, kn, fo, sp, ki, upd pl (ix x0) (nI i), ea, to, qu)) (ix x0)) ≤ mm then 0 else 1) : Int32)), (7, .int (sEa (sPass (ix x1) (co, gu, kn, fo, sp, ki, upd pl (ix x0) (nI i), ea, to, qu)) (ix x0))), (6, .int (sWhoN pl (nI i) (ix gu))), (0, .ref (b 0)), (1, .int x0), (2, .int x1), (3, .int bb), (4, .int mm), (5, .int (nI i))]) hx hb dX6_best_100 hl (by decide) rfl (fun ls hl => ?_)
            refine lv_iload hx hb dX6_best_102 (lv_at hl 0 rfl) ?_
            refine jn (fun v_30 : Int32 => v_30 = (if (if bb < 0 then 1 else (if (sEa (sPass (ix x1) (co, gu, kn, fo, sp, ki, upd pl (ix x0) (nI i), ea, to, qu)) (ix x0)) ≤ mm then 0 else 1) : Int32) = 0 then bb else nI i : Int32)) (fun v_30 => F0 m 113 ls [.int v_30]) (fun Jv_30 => ?_) (fun v_30 ev_30 => ?_)
            · skip
              refine lv_if_eq (tgt := 112) hx hb dX6_best_104 (by decide) (fun c_31 => ?_) (fun c_31 => ?_)
              · skip
                refine lv_iload_n hx hb dX6_best_112 rfl (lv_at hl 6 rfl) ?_
                exact Jv_30 _ (by rw [if_pos c_31])
              · skip
                refine lv_iload hx hb dX6_best_107 (lv_at hl 8 rfl) ?_
                refine lv_goto (tgt := 113) hx hb dX6_best_109 (by decide) ?_
                exact Jv_30 _ (by rw [if_neg c_31])
            subst ev_30
            refine lv_istore_n (lv' := [(3, .int (if (if bb < 0 then 1 else (if (sEa (sPass (ix x1) (co, gu, kn, fo, sp, ki, upd pl (ix x0) (nI i), ea, to, qu)) (ix x0)) ≤ mm then 0 else 1) : Int32) = 0 then bb else nI i : Int32)), (8, .int (if bb < 0 then 1 else (if (sEa (sPass (ix x1) (co, gu, kn, fo, sp, ki, upd pl (ix x0) (nI i), ea, to, qu)) (ix x0)) ≤ mm then 0 else 1) : Int32)), (7, .int (sEa (sPass (ix x1) (co, gu, kn, fo, sp, ki, upd pl (ix x0) (nI i), ea, to, qu)) (ix x0))), (6, .int (sWhoN pl (nI i) (ix gu))), (0, .ref (b 0)), (1, .int x0), (2, .int x1), (4, .int mm), (5, .int (nI i))]) hx hb dX6_best_113 rfl hl (by decide) rfl (fun ls hl => ?_)
            refine lv_iload hx hb dX6_best_114 (lv_at hl 1 rfl) ?_
            refine jn (fun v_32 : Int32 => v_32 = (if (if bb < 0 then 1 else (if (sEa (sPass (ix x1) (co, gu, kn, fo, sp, ki, upd pl (ix x0) (nI i), ea, to, qu)) (ix x0)) ≤ mm then 0 else 1) : Int32) = 0 then mm else (sEa (sPass (ix x1) (co, gu, kn, fo, sp, ki, upd pl (ix x0) (nI i), ea, to, qu)) (ix x0)) : Int32)) (fun v_32 => F0 m 126 ls [.int v_32]) (fun Jv_32 => ?_) (fun v_32 ev_32 => ?_)
            · skip
              refine lv_if_eq (tgt := 124) hx hb dX6_best_116 (by decide) (fun c_33 => ?_) (fun c_33 => ?_)
              · skip
                refine lv_iload hx hb dX6_best_124 (lv_at hl 7 rfl) ?_
                exact Jv_32 _ (by rw [if_pos c_33])
              · skip
                refine lv_iload hx hb dX6_best_119 (lv_at hl 2 rfl) ?_
                refine lv_goto (tgt := 126) hx hb dX6_best_121 (by decide) ?_
                exact Jv_32 _ (by rw [if_neg c_33])
            subst ev_32
            refine lv_istore (lv' := [(4, .int (if (if bb < 0 then 1 else (if (sEa (sPass (ix x1) (co, gu, kn, fo, sp, ki, upd pl (ix x0) (nI i), ea, to, qu)) (ix x0)) ≤ mm then 0 else 1) : Int32) = 0 then mm else (sEa (sPass (ix x1) (co, gu, kn, fo, sp, ki, upd pl (ix x0) (nI i), ea, to, qu)) (ix x0)) : Int32)), (3, .int (if (if bb < 0 then 1 else (if (sEa (sPass (ix x1) (co, gu, kn, fo, sp, ki, upd pl (ix x0) (nI i), ea, to, qu)) (ix x0)) ≤ mm then 0 else 1) : Int32) = 0 then bb else nI i : Int32)), (8, .int (if bb < 0 then 1 else (if (sEa (sPass (ix x1) (co, gu, kn, fo, sp, ki, upd pl (ix x0) (nI i), ea, to, qu)) (ix x0)) ≤ mm then 0 else 1) : Int32)), (7, .int (sEa (sPass (ix x1) (co, gu, kn, fo, sp, ki, upd pl (ix x0) (nI i), ea, to, qu)) (ix x0))), (6, .int (sWhoN pl (nI i) (ix gu))), (0, .ref (b 0)), (1, .int x0), (2, .int x1), (5, .int (nI i))]) hx hb dX6_best_126 hl (by decide) rfl (fun ls hl => ?_)
            refine lv_iinc (v := nI (i + 1)) (lv' := [(5, .int (nI (i + 1))), (4, .int (if (if bb < 0 then 1 else (if (sEa (sPass (ix x1) (co, gu, kn, fo, sp, ki, upd pl (ix x0) (nI i), ea, to, qu)) (ix x0)) ≤ mm then 0 else 1) : Int32) = 0 then mm else (sEa (sPass (ix x1) (co, gu, kn, fo, sp, ki, upd pl (ix x0) (nI i), ea, to, qu)) (ix x0)) : Int32)), (3, .int (if (if bb < 0 then 1 else (if (sEa (sPass (ix x1) (co, gu, kn, fo, sp, ki, upd pl (ix x0) (nI i), ea, to, qu)) (ix x0)) ≤ mm then 0 else 1) : Int32) = 0 then bb else nI i : Int32)), (8, .int (if bb < 0 then 1 else (if (sEa (sPass (ix x1) (co, gu, kn, fo, sp, ki, upd pl (ix x0) (nI i), ea, to, qu)) (ix x0)) ≤ mm then 0 else 1) : Int32)), (7, .int (sEa (sPass (ix x1) (co, gu, kn, fo, sp, ki, upd pl (ix x0) (nI i), ea, to, qu)) (ix x0))), (6, .int (sWhoN pl (nI i) (ix gu))), (0, .ref (b 0)), (1, .int x0), (2, .int x1)]) hx hb dX6_best_128 hl (k := 8) rfl (nI_1 _) (by decide) rfl (fun ls hl => ?_)
            refine lv_goto (tgt := 42) hx hb dX6_best_131 (by decide) ?_
            exact ih (n - 1) (by omega) ((i + 1, (if (if bb < 0 then 1 else (if (sEa (sPass (ix x1) (co, gu, kn, fo, sp, ki, upd pl (ix x0) (nI i), ea, to, qu)) (ix x0)) ≤ mm then 0 else 1) : Int32) = 0 then bb else nI i : Int32), (if (if bb < 0 then 1 else (if (sEa (sPass (ix x1) (co, gu, kn, fo, sp, ki, upd pl (ix x0) (nI i), ea, to, qu)) (ix x0)) ≤ mm then 0 else 1) : Int32) = 0 then mm else (sEa (sPass (ix x1) (co, gu, kn, fo, sp, ki, upd pl (ix x0) (nI i), ea, to, qu)) (ix x0)) : Int32), mo_26)) H locs ls ⟨by omega, arg_step hi1 hfr rfl, hP, hS, lv_sub hl [6, 7, 8, 2, 1, 0] rfl⟩
    · skip
      have c_4b := bI_0 c_4
      refine lv_aload_n hx hb dX6_best_18 rfl (lv_at hl 0 rfl) ?_
      refine lv_ldc hx hb hown k47 dX6_best_19 ?_
      refine callMi (va_runV (As := [.int (-1000000001)]) (rest := []) ⟨hx, hb, hml, hown, hts⟩ (k_X6_finds l D cI cL cS b co gu kn fo sp ki pl ea to qu fd mo tr b1 tp tm so bg te wd va gd bo sz sh le im bf ik (-1000000001) (va_DT (hD _ rfl) rfl) (vp_in_iff.mpr (by decide))) (cwV 1 hts gX6_best_X6_finds rfl rfl rfl (by decide +kernel) ⟨Nat.le_of_ble_eq_true rfl, Nat.le_of_ble_eq_true rfl⟩) ⟨PcR_fb, va_recv hK hP (ci := 4) (q0 := 0) rfl rfl, PcR_pre hP hK⟩ rfl rfl hl.1 rfl (lv_room (Nat.le_of_ble_eq_true rfl)) dX6_best_21 ⟨Nat.zero_le _, Nat.zero_le _⟩) hP (hD _ rfl) hS 0 13 rfl (fun r_35 u_34 H locs hu_34 hP hS => ?_)
      obtain ⟨hu_34r, hu_34⟩ := hu_34
      subst hu_34r
      have hP : va_P D vwCl (mdw cI cL b (enc co gu kn fo sp ki pl ea to qu) (bump fd (-1000000001)) mo tr b1 tp tm so bg te wd va gd bo sz sh le im bf ik) H := hP
      exact W.iret hx hb hr (fun t ht hW => ⟨⟨_, (mo, tr, bump fd (-1000000001)), rfl, (by exact (iF_f (fun h => by first | exact absurd h.1 c_4b | exact absurd c_4b h.1 | exact absurd h.2 c_4b | exact absurd c_4b h.2)).symm), by dsimp only; rw [ht]; exact hP⟩, hS.F ht⟩) hS.2.2 dX6_best_24

set_option maxRecDepth 100000 in
set_option maxHeartbeats 4000000 in
theorem k_X6_laid (l : Launch) (D : va_G) (cI cL cS : ClassId) (b : Nat → Nat) (co gu : Int32) (kn fo sp ki pl ea to qu : FI) (fd : FI) (mo : FI) (tr : FI) (b1 : FI) (tp : FI) (tm : Int32) (so : Int32) (bg : Int32) (te : Int32) (wd : Int64) (va : Int32) (gd : Int32) (bo : FI) (sz : FI) (sh : FJ) (le : FJ) (im : FI) (bf : FI) (ik : Int32) (x0 : Int32) (x1 : Int32) (dj : va_D (fun _ => True) (dj0 b 13)) (ok : okT gu kn fo sp (whC gu pl) ki pl) (oe : okE ea to qu) : Met l yX6_laid wsX6_laid { frames := 8, cells := 0, slots := 0, locals := 183 } (PcR D vwCl (tyG cI cL cS) [.ref (b 0), .int x0, .int x1] (mdw cI cL b (enc co gu kn fo sp ki pl ea to qu) fd mo tr b1 tp tm so bg te wd va gd bo sz sh le im bf ik)) (va_Qi (fun (r : Int32) (u : FI × FI × FI) => (r, u.2.2) = sLaid (co, gu, kn, fo, sp, ki, pl, ea, to, qu) fd x0 x1) (fun u t => va_P D vwCl (mdw cI cL b (enc co gu kn fo sp ki pl ea to qu) u.2.2 u.1 u.2.1 b1 tp tm so bg te wd va gd bo sz sh le im bf ik) t.heap) (Aof (mdw cI cL b (enc co gu kn fo sp ki pl ea to qu) fd mo tr b1 tp tm so bg te wd va gd bo sz sh le im bf ik))) 0 0 (Aof (mdw cI cL b (enc co gu kn fo sp ki pl ea to qu) fd mo tr b1 tp tm so bg te wd va gd bo sz sh le im bf ik)) := by
  refine Met.ofW (cc := cX6_laid) (maxL := 8) (ret := (some .int)) (by decide) rfl ?_
  intro p e s m args below meth c s₁ B hml hv
  obtain ⟨rfl, hP, hK⟩ := hv
  have hx := B.exec
  have hb := B.bytes
  have hr := B.returns
  have hts := atoms_spec (ws := wsX6_laid) B.pre
  have hown : s.vm.findClass RX6 = some m.cls := findClass_of_methodNamed B.named
  have hlocks := B.notSynchronized
  obtain ⟨A, hAe⟩ : ∃ A, A = Aof (mdw cI cL b (enc co gu kn fo sp ki pl ea to qu) fd mo tr b1 tp tm so bg te wd va gd bo sz sh le im bf ik) := ⟨_, rfl⟩
  rw [← hAe]
  have hD : ∀ ws' : va_W, ws'.map Prod.fst = (mdw cI cL b (enc co gu kn fo sp ki pl ea to qu) fd mo tr b1 tp tm so bg te wd va gd bo sz sh le im bf ik).map Prod.fst → va_D A ws' := fun ws' e => by rw [hAe]; exact va_D_adr (va_D_self (va_D_adr dj rfl)) e
  have hS : va_S A s.heap s.heap [] := va_S.rf
  have hP : va_P D vwCl (mdw cI cL b (enc co gu kn fo sp ki pl ea to qu) fd mo tr b1 tp tm so bg te wd va gd bo sz sh le im bf ik) s.heap := hP
  have hl := lv_entry ([.ref (b 0), .int x0, .int x1]) (n := 8) (Nat.le_of_ble_eq_true rfl)
  rw [lg_entry_eq]
  generalize (lg_sl ([.ref (b 0), .int x0, .int x1]) ++ List.replicate (8 - (lg_sl ([.ref (b 0), .int x0, .int x1])).length) Slot.unset).toArray = ls at hl ⊢
  have hl : lv_has ls 8 [(0, .ref (b 0)), (1, .int x0), (2, .int x1)] := hl
  have k47 := hts (.constant RX6 47 (-1000000001)) (List.mem_of_getElem? (i := 1) rfl)
  have f19 := hts (.fieldLink RX6 19 "KnivesLaidModel" "tried" "[I") (List.mem_of_getElem? (i := 2) rfl)
  have inX6 : ∀ w ∈ u_ws RX6 TX6 20, w ∈ wsX6_laid := in_at 103 _ _ rfl
  have f7 := hts (.fieldLink RX6 7 "KnivesLaidModel" "row" "[I") (List.mem_of_getElem? (i := 3) rfl)
  skip
  refine lv_iload_n hx hb dX6_laid_0 rfl (lv_at hl 1 rfl) ?_
  refine callE (W.runS (As := [.int x0]) (rest := []) ⟨hx, hb, hml, hown, hts⟩ (k_X6_isPlace l x0) (va_cwS 1 hts gX6_laid_X6_isPlace rfl rfl rfl (by decide +kernel) ⟨Nat.le_of_ble_eq_true rfl, Nat.le_of_ble_eq_true rfl⟩) ⟨PcP_fb, fun U _ _ => ⟨rfl, trivial⟩⟩ rfl rfl hl.1 rfl (lv_room (Nat.le_of_ble_eq_true rfl)) dX6_laid_1 ⟨Nat.zero_le _, Nat.zero_le _⟩) ?_
  refine lv_if_eq (tgt := 17) hx hb dX6_laid_4 (by decide) (fun c_1 => ?_) (fun c_1 => ?_)
  · skip
    have c_1b := bI_0 c_1
    refine lv_aload_n hx hb dX6_laid_17 rfl (lv_at hl 0 rfl) ?_
    refine lv_ldc hx hb hown k47 dX6_laid_18 ?_
    refine callMi (va_runV (As := [.int (-1000000001)]) (rest := []) ⟨hx, hb, hml, hown, hts⟩ (k_X6_finds l D cI cL cS b co gu kn fo sp ki pl ea to qu fd mo tr b1 tp tm so bg te wd va gd bo sz sh le im bf ik (-1000000001) (va_DT (hD _ rfl) rfl) (vp_in_iff.mpr (by decide))) (cwV 1 hts gX6_laid_X6_finds rfl rfl rfl (by decide +kernel) ⟨Nat.le_of_ble_eq_true rfl, Nat.le_of_ble_eq_true rfl⟩) ⟨PcR_fb, va_recv hK hP (ci := 4) (q0 := 0) rfl rfl, PcR_pre hP hK⟩ rfl rfl hl.1 rfl (lv_room (Nat.le_of_ble_eq_true rfl)) dX6_laid_20 ⟨Nat.zero_le _, Nat.zero_le _⟩) hP (hD _ rfl) hS 0 13 rfl (fun r_3 u_2 H locs hu_2 hP hS => ?_)
    obtain ⟨hu_2r, hu_2⟩ := hu_2
    subst hu_2r
    have hP : va_P D vwCl (mdw cI cL b (enc co gu kn fo sp ki pl ea to qu) (bump fd (-1000000001)) mo tr b1 tp tm so bg te wd va gd bo sz sh le im bf ik) H := hP
    exact W.iret hx hb hr (fun t ht hW => ⟨⟨_, (mo, tr, bump fd (-1000000001)), rfl, (by exact (iF_f (fun h => by first | exact absurd h.1 c_1b | exact absurd c_1b h.1 | exact absurd h.2 c_1b | exact absurd c_1b h.2)).symm), by dsimp only; rw [ht]; exact hP⟩, hS.F ht⟩) hS.2.2 dX6_laid_23
  · skip
    have c_1b := bI_n c_1
    have h1n := c_1b
    refine lv_iload_n hx hb dX6_laid_7 rfl (lv_at hl 2 rfl) ?_
    refine lv_iconst (v := 1) hx hb dX6_laid_8 (by decide) ?_
    refine lv_bipush (v := 40) hx hb dX6_laid_9 (by decide) ?_
    refine callE (W.runS (As := [.int x1, .int 1, .int 40]) (rest := []) ⟨hx, hb, hml, hown, hts⟩ (k_X6_in l x1 1 40) (va_cwS 3 hts gX6_laid_X6_in rfl rfl rfl (by decide +kernel) ⟨Nat.le_of_ble_eq_true rfl, Nat.le_of_ble_eq_true rfl⟩) ⟨PcP_fb, fun U _ _ => ⟨rfl, trivial⟩⟩ rfl rfl hl.1 rfl (lv_room (Nat.le_of_ble_eq_true rfl)) dX6_laid_11 ⟨Nat.zero_le _, Nat.zero_le _⟩) ?_
    refine lv_if_ne (tgt := 24) hx hb dX6_laid_14 (by decide) (fun c_4 => ?_) (fun c_4 => ?_)
    · skip
      have c_4b := bI_n c_4
      have hn := c_4b
      have hcc : vp_in x0 10 ∧ c40 x1 := ⟨h1n, hn⟩
      refine lv_aload_n hx hb dX6_laid_24 rfl (lv_at hl 0 rfl) ?_
      refine lv_iconst (v := 1) hx hb dX6_laid_25 (by decide) ?_
      refine lv_aload_n hx hb dX6_laid_26 rfl (lv_at hl 0 rfl) ?_
      refine va_get (ci := 4) (v := .ref (b 4)) (C := RX6) (T := TX6) (N := 20) hx hb hts inX6 hown hK hP 0 rfl rfl 3 (by decide) f19 (fun _ h9 => h9) rfl dX6_laid_27 ?_
      refine callMv (va_runV (As := [.int 1, .ref (b 4)]) (rest := []) ⟨hx, hb, hml, hown, hts⟩ (k_X6_moveAll_tr1 l D cI cL cS b co gu kn fo sp ki pl ea to qu fd mo tr b1 tp tm so bg te wd va gd bo sz sh le im bf ik (va_DT (hD _ rfl) rfl)) (cwV 2 hts gX6_laid_X6_moveAll rfl rfl rfl (by decide +kernel) ⟨Nat.le_of_ble_eq_true rfl, Nat.le_of_ble_eq_true rfl⟩) ⟨PcR_fb, va_recv hK hP (ci := 4) (q0 := 0) rfl rfl, PcR_pre hP hK⟩ rfl rfl hl.1 rfl (lv_room (Nat.le_of_ble_eq_true rfl)) dX6_laid_30 ⟨Nat.zero_le _, Nat.zero_le _⟩) hP (hD _ rfl) hS 0 13 rfl (fun u_5 H locs hu_5 hP hS => ?_)
      have hP : va_P D vwCl (mdw cI cL b (enc co gu kn fo sp ki pl ea to qu) fd mo (enc co gu kn fo sp ki pl ea to qu) b1 tp tm so bg te wd va gd bo sz sh le im bf ik) H := hP
      refine lv_iconst (v := (-1)) hx hb dX6_laid_33 (by decide) ?_
      refine lv_istore_n (lv' := [(3, .int (-1)), (0, .ref (b 0)), (1, .int x0), (2, .int x1)]) hx hb dX6_laid_34 rfl hl (by decide) rfl (fun ls hl => ?_)
      refine lv_iconst (v := 0) hx hb dX6_laid_35 (by decide) ?_
      refine lv_istore (lv' := [(4, .int 0), (3, .int (-1)), (0, .ref (b 0)), (1, .int x0), (2, .int x1)]) hx hb dX6_laid_36 hl (by decide) rfl (fun ls hl => ?_)
      refine lv_iconst (v := 0) hx hb dX6_laid_38 (by decide) ?_
      refine lv_istore (lv' := [(5, .int 0), (4, .int 0), (3, .int (-1)), (0, .ref (b 0)), (1, .int x0), (2, .int x1)]) hx hb dX6_laid_39 hl (by decide) rfl (fun ls hl => ?_)
      refine lpW (fun n (u : Nat × Int32 × Int32 × FI) H locs ls => (u.1 + n = 4) ∧ ((u.2.1, u.2.2.1) = sArg (fun _ => True) (fLaid (co, gu, kn, fo, sp, ki, pl, ea, to, qu) x0 x1) u.1) ∧ va_P D vwCl (mdw cI cL b (enc co gu kn fo sp ki pl ea to qu) fd u.2.2.2 (enc co gu kn fo sp ki pl ea to qu) b1 tp tm so bg te wd va gd bo sz sh le im bf ik) H ∧ va_S A s.heap H locs ∧ lv_has ls 8 [(0, .ref (b 0)), (1, .int x0), (2, .int x1), (3, .int u.2.1), (4, .int u.2.2.1), (5, .int (nI u.1))]) (4) ((0, (-1), 0, mo)) ⟨by omega, rfl, hP, hS, lv_sub hl [3, 4, 5, 2, 1, 0] rfl⟩ (fun n ih u H locs ls hI => ?_)
      obtain ⟨i, bb, mm, mo1⟩ := u
      obtain ⟨hi0, hi1, hP, hS, hl⟩ := hI
      have hi0 : i + n = 4 := hi0
      have hi1 : (bb, mm) = sArg (fun _ => True) (fLaid (co, gu, kn, fo, sp, ki, pl, ea, to, qu) x0 x1) i := hi1
      have hl : lv_has ls 8 [(0, .ref (b 0)), (1, .int x0), (2, .int x1), (3, .int bb), (4, .int mm), (5, .int (nI i))] := hl
      have hP : va_P D vwCl (mdw cI cL b (enc co gu kn fo sp ki pl ea to qu) fd mo1 (enc co gu kn fo sp ki pl ea to qu) b1 tp tm so bg te wd va gd bo sz sh le im bf ik) H := hP
      have hix : ix (nI i) = i := ix_nI (by omega)
      refine lv_iload hx hb dX6_laid_41 (lv_at hl 5 rfl) ?_
      refine lv_iconst (v := 4) hx hb dX6_laid_43 (by decide) ?_
      refine lv_icmp_ge (tgt := 135) hx hb dX6_laid_44 (by decide) (fun c_7 => ?_) (fun c_7 => ?_)
      · skip
        have c_7n := (cmp_le (a := 4) (b := i) rfl rfl (by omega) (by omega)).mp c_7
        refine lv_iload_n hx hb dX6_laid_135 rfl (lv_at hl 3 rfl) ?_
        exact W.iret hx hb hr (fun t ht hW => ⟨⟨_, (mo1, enc co gu kn fo sp ki pl ea to qu, fd), rfl, (by unfold sLaid; rw [iF_t hcc, show sArg _ _ 4 = (bb, mm) by rw [hi1, show i = 4 by omega]]), by dsimp only; rw [ht]; exact hP⟩, hS.F ht⟩) hS.2.2 dX6_laid_136
      · skip
        have c_7n := mt (cmp_le (a := 4) (b := i) rfl rfl (by omega) (by omega)).mpr c_7
        refine lv_aload_n hx hb dX6_laid_47 rfl (lv_at hl 0 rfl) ?_
        refine va_get (ci := 4) (v := .ref (b 1)) (C := RX6) (T := TX6) (N := 20) hx hb hts inX6 hown hK hP 0 rfl rfl 0 (by decide) f7 (fun _ h9 => h9) rfl dX6_laid_48 ?_
        refine lv_iconst (v := 2) hx hb dX6_laid_51 (by decide) ?_
        refine lv_iconst (v := 3) hx hb dX6_laid_52 (by decide) ?_
        refine lv_iload_n hx hb dX6_laid_53 rfl (lv_at hl 1 rfl) ?_
        refine lv_imul hx hb dX6_laid_54 ?_
        refine lv_iadd hx hb dX6_laid_55 ?_
        refine lv_iload hx hb dX6_laid_56 (lv_at hl 5 rfl) ?_
        refine lv_iconst (v := 2) hx hb dX6_laid_58 (by decide) ?_
        refine lv_irem hx hb dX6_laid_59 (by decide) ?_
        refine va_iast hx hb hK hP (hD _ rfl) hS 1 0 rfl rfl (lay0_in h1n) dX6_laid_60 (fun H locs hP _ hS => ?_)
        have hP : va_P D vwCl (mdw cI cL b (enc co gu (upd kn (ix x0) (nI (i % 2))) fo sp ki pl ea to qu) fd mo1 (enc co gu kn fo sp ki pl ea to qu) b1 tp tm so bg te wd va gd bo sz sh le im bf ik) H := by rw [way_c i (by omega)] at hP; rw [← enc_q0z h1n]; exact hP
        refine lv_aload_n hx hb dX6_laid_61 rfl (lv_at hl 0 rfl) ?_
        refine va_get (ci := 4) (v := .ref (b 1)) (C := RX6) (T := TX6) (N := 20) hx hb hts inX6 hown hK hP 0 rfl rfl 0 (by decide) f7 (fun _ h9 => h9) rfl dX6_laid_62 ?_
        refine lv_iconst (v := 2) hx hb dX6_laid_65 (by decide) ?_
        refine lv_iconst (v := 3) hx hb dX6_laid_66 (by decide) ?_
        refine lv_iload_n hx hb dX6_laid_67 rfl (lv_at hl 1 rfl) ?_
        refine lv_imul hx hb dX6_laid_68 ?_
        refine lv_iadd hx hb dX6_laid_69 ?_
        refine lv_iconst (v := 1) hx hb dX6_laid_70 (by decide) ?_
        refine lv_iadd hx hb dX6_laid_71 ?_
        refine lv_iload hx hb dX6_laid_72 (lv_at hl 5 rfl) ?_
        refine lv_iconst (v := 2) hx hb dX6_laid_74 (by decide) ?_
        refine lv_idiv hx hb dX6_laid_75 (by decide) ?_
        refine va_iast hx hb hK hP (hD _ rfl) hS 1 0 rfl rfl ((ixp h1n (vp_in_iff.mpr (by decide))).2) dX6_laid_76 (fun H locs hP _ hS => ?_)
        have hP : va_P D vwCl (mdw cI cL b (enc co gu (upd kn (ix x0) (nI (i % 2))) (upd fo (ix x0) (nI (i / 2))) sp ki pl ea to qu) fd mo1 (enc co gu kn fo sp ki pl ea to qu) b1 tp tm so bg te wd va gd bo sz sh le im bf ik) H := by rw [way_d i (by omega)] at hP; rw [← enc_q1 h1n]; exact hP
        refine lv_aload_n hx hb dX6_laid_77 rfl (lv_at hl 0 rfl) ?_
        refine lv_iload_n hx hb dX6_laid_78 rfl (lv_at hl 2 rfl) ?_
        refine lv_iconst (v := 2) hx hb dX6_laid_79 (by decide) ?_
        refine callMi (va_runV (As := [.int x1, .int 2]) (rest := []) ⟨hx, hb, hml, hown, hts⟩ (k_X6_allBehind2 l D cI cL cS b co gu (upd kn (ix x0) (nI (i % 2))) (upd fo (ix x0) (nI (i / 2))) sp ki pl ea to qu fd mo1 b1 tp tm so bg te wd va gd bo sz sh le im bf ik co gu kn fo sp ki pl ea to qu x1 (va_DT (hD _ rfl) rfl) ((ok_laid (σ := (co, gu, kn, fo, sp, ki, pl, ea, to, qu)) (w := whC gu pl) ⟨ok, oe⟩ x0 (i := i) (by omega)).1.cC) ((ok_laid (σ := (co, gu, kn, fo, sp, ki, pl, ea, to, qu)) (w := whC gu pl) ⟨ok, oe⟩ x0 (i := i) (by omega)).2) (wi_in hn (by decide) (by decide))) (cwV 2 hts gX6_laid_X6_allBehind rfl rfl rfl (by decide +kernel) ⟨Nat.le_of_ble_eq_true rfl, Nat.le_of_ble_eq_true rfl⟩) ⟨PcR_fb, va_recv hK hP (ci := 4) (q0 := 0) rfl rfl, PcR_pre hP hK⟩ rfl rfl hl.1 rfl (lv_room (Nat.le_of_ble_eq_true rfl)) dX6_laid_80 ⟨Nat.zero_le _, Nat.zero_le _⟩) hP (hD _ rfl) hS 0 13 rfl (fun r_9 u_8 H locs hu_8 hP hS => ?_)
        obtain ⟨mo_10, rfl⟩ : ∃ z, z = u_8 := ⟨_, rfl⟩
        have hu_8 : r_9 = sSum (sEa (sPass (ix x1) (co, gu, upd kn (ix x0) (nI (i % 2)), upd fo (ix x0) (nI (i / 2)), sp, ki, pl, ea, to, qu))) (ix gu) := hu_8
        subst hu_8
        have hP : va_P D vwCl (mdw cI cL b (enc co gu kn fo sp ki pl ea to qu) fd mo_10 (enc co gu kn fo sp ki pl ea to qu) b1 tp tm so bg te wd va gd bo sz sh le im bf ik) H := hP
        refine lv_istore (lv' := [(6, .int (sSum (sEa (sPass (ix x1) (co, gu, upd kn (ix x0) (nI (i % 2)), upd fo (ix x0) (nI (i / 2)), sp, ki, pl, ea, to, qu))) (ix gu))), (0, .ref (b 0)), (1, .int x0), (2, .int x1), (3, .int bb), (4, .int mm), (5, .int (nI i))]) hx hb dX6_laid_83 hl (by decide) rfl (fun ls hl => ?_)
        refine lv_iload_n hx hb dX6_laid_85 rfl (lv_at hl 4 rfl) ?_
        refine jn (fun v_11 : Int32 => v_11 = (if bb < 0 then 1 else (if (sSum (sEa (sPass (ix x1) (co, gu, upd kn (ix x0) (nI (i % 2)), upd fo (ix x0) (nI (i / 2)), sp, ki, pl, ea, to, qu))) (ix gu)) ≤ mm then 0 else 1) : Int32)) (fun v_11 => F0 m 101 ls [.int v_11]) (fun Jv_11 => ?_) (fun v_11 ev_11 => ?_)
        · skip
          refine lv_if_lt (tgt := 96) hx hb dX6_laid_86 (by decide) (fun c_12 => ?_) (fun c_12 => ?_)
          · skip
            refine lv_iconst (v := 1) hx hb dX6_laid_96 (by decide) ?_
            refine lv_goto (tgt := 101) hx hb dX6_laid_97 (by decide) ?_
            exact Jv_11 _ (by rw [if_pos c_12])
          · skip
            refine lv_iload hx hb dX6_laid_89 (lv_at hl 0 rfl) ?_
            refine lv_iload hx hb dX6_laid_91 (lv_at hl 5 rfl) ?_
            refine lv_icmp_le (tgt := 100) hx hb dX6_laid_93 (by decide) (fun c_13 => ?_) (fun c_13 => ?_)
            · skip
              refine lv_iconst (v := 0) hx hb dX6_laid_100 (by decide) ?_
              exact Jv_11 _ (by rw [if_neg c_12, if_pos c_13])
            · skip
              refine lv_iconst (v := 1) hx hb dX6_laid_96 (by decide) ?_
              refine lv_goto (tgt := 101) hx hb dX6_laid_97 (by decide) ?_
              exact Jv_11 _ (by rw [if_neg c_12, if_neg c_13])
        subst ev_11
        refine lv_istore (lv' := [(7, .int (if bb < 0 then 1 else (if (sSum (sEa (sPass (ix x1) (co, gu, upd kn (ix x0) (nI (i % 2)), upd fo (ix x0) (nI (i / 2)), sp, ki, pl, ea, to, qu))) (ix gu)) ≤ mm then 0 else 1) : Int32)), (6, .int (sSum (sEa (sPass (ix x1) (co, gu, upd kn (ix x0) (nI (i % 2)), upd fo (ix x0) (nI (i / 2)), sp, ki, pl, ea, to, qu))) (ix gu))), (0, .ref (b 0)), (1, .int x0), (2, .int x1), (3, .int bb), (4, .int mm), (5, .int (nI i))]) hx hb dX6_laid_101 hl (by decide) rfl (fun ls hl => ?_)
        refine lv_iload hx hb dX6_laid_103 (lv_at hl 0 rfl) ?_
        refine jn (fun v_14 : Int32 => v_14 = (if (if bb < 0 then 1 else (if (sSum (sEa (sPass (ix x1) (co, gu, upd kn (ix x0) (nI (i % 2)), upd fo (ix x0) (nI (i / 2)), sp, ki, pl, ea, to, qu))) (ix gu)) ≤ mm then 0 else 1) : Int32) = 0 then bb else nI i : Int32)) (fun v_14 => F0 m 114 ls [.int v_14]) (fun Jv_14 => ?_) (fun v_14 ev_14 => ?_)
        · skip
          refine lv_if_eq (tgt := 113) hx hb dX6_laid_105 (by decide) (fun c_15 => ?_) (fun c_15 => ?_)
          · skip
            refine lv_iload_n hx hb dX6_laid_113 rfl (lv_at hl 5 rfl) ?_
            exact Jv_14 _ (by rw [if_pos c_15])
          · skip
            refine lv_iload hx hb dX6_laid_108 (lv_at hl 7 rfl) ?_
            refine lv_goto (tgt := 114) hx hb dX6_laid_110 (by decide) ?_
            exact Jv_14 _ (by rw [if_neg c_15])
        subst ev_14
        refine lv_istore_n (lv' := [(3, .int (if (if bb < 0 then 1 else (if (sSum (sEa (sPass (ix x1) (co, gu, upd kn (ix x0) (nI (i % 2)), upd fo (ix x0) (nI (i / 2)), sp, ki, pl, ea, to, qu))) (ix gu)) ≤ mm then 0 else 1) : Int32) = 0 then bb else nI i : Int32)), (7, .int (if bb < 0 then 1 else (if (sSum (sEa (sPass (ix x1) (co, gu, upd kn (ix x0) (nI (i % 2)), upd fo (ix x0) (nI (i / 2)), sp, ki, pl, ea, to, qu))) (ix gu)) ≤ mm then 0 else 1) : Int32)), (6, .int (sSum (sEa (sPass (ix x1) (co, gu, upd kn (ix x0) (nI (i % 2)), upd fo (ix x0) (nI (i / 2)), sp, ki, pl, ea, to, qu))) (ix gu))), (0, .ref (b 0)), (1, .int x0), (2, .int x1), (4, .int mm), (5, .int (nI i))]) hx hb dX6_laid_114 rfl hl (by decide) rfl (fun ls hl => ?_)
        refine lv_iload hx hb dX6_laid_115 (lv_at hl 1 rfl) ?_
        refine jn (fun v_16 : Int32 => v_16 = (if (if bb < 0 then 1 else (if (sSum (sEa (sPass (ix x1) (co, gu, upd kn (ix x0) (nI (i % 2)), upd fo (ix x0) (nI (i / 2)), sp, ki, pl, ea, to, qu))) (ix gu)) ≤ mm then 0 else 1) : Int32) = 0 then mm else (sSum (sEa (sPass (ix x1) (co, gu, upd kn (ix x0) (nI (i % 2)), upd fo (ix x0) (nI (i / 2)), sp, ki, pl, ea, to, qu))) (ix gu)) : Int32)) (fun v_16 => F0 m 127 ls [.int v_16]) (fun Jv_16 => ?_) (fun v_16 ev_16 => ?_)
        · skip
          refine lv_if_eq (tgt := 125) hx hb dX6_laid_117 (by decide) (fun c_17 => ?_) (fun c_17 => ?_)
          · skip
            refine lv_iload hx hb dX6_laid_125 (lv_at hl 6 rfl) ?_
            exact Jv_16 _ (by rw [if_pos c_17])
          · skip
            refine lv_iload hx hb dX6_laid_120 (lv_at hl 2 rfl) ?_
            refine lv_goto (tgt := 127) hx hb dX6_laid_122 (by decide) ?_
            exact Jv_16 _ (by rw [if_neg c_17])
        subst ev_16
        refine lv_istore (lv' := [(4, .int (if (if bb < 0 then 1 else (if (sSum (sEa (sPass (ix x1) (co, gu, upd kn (ix x0) (nI (i % 2)), upd fo (ix x0) (nI (i / 2)), sp, ki, pl, ea, to, qu))) (ix gu)) ≤ mm then 0 else 1) : Int32) = 0 then mm else (sSum (sEa (sPass (ix x1) (co, gu, upd kn (ix x0) (nI (i % 2)), upd fo (ix x0) (nI (i / 2)), sp, ki, pl, ea, to, qu))) (ix gu)) : Int32)), (3, .int (if (if bb < 0 then 1 else (if (sSum (sEa (sPass (ix x1) (co, gu, upd kn (ix x0) (nI (i % 2)), upd fo (ix x0) (nI (i / 2)), sp, ki, pl, ea, to, qu))) (ix gu)) ≤ mm then 0 else 1) : Int32) = 0 then bb else nI i : Int32)), (7, .int (if bb < 0 then 1 else (if (sSum (sEa (sPass (ix x1) (co, gu, upd kn (ix x0) (nI (i % 2)), upd fo (ix x0) (nI (i / 2)), sp, ki, pl, ea, to, qu))) (ix gu)) ≤ mm then 0 else 1) : Int32)), (6, .int (sSum (sEa (sPass (ix x1) (co, gu, upd kn (ix x0) (nI (i % 2)), upd fo (ix x0) (nI (i / 2)), sp, ki, pl, ea, to, qu))) (ix gu))), (0, .ref (b 0)), (1, .int x0), (2, .int x1), (5, .int (nI i))]) hx hb dX6_laid_127 hl (by decide) rfl (fun ls hl => ?_)
        refine lv_iinc (v := nI (i + 1)) (lv' := [(5, .int (nI (i + 1))), (4, .int (if (if bb < 0 then 1 else (if (sSum (sEa (sPass (ix x1) (co, gu, upd kn (ix x0) (nI (i % 2)), upd fo (ix x0) (nI (i / 2)), sp, ki, pl, ea, to, qu))) (ix gu)) ≤ mm then 0 else 1) : Int32) = 0 then mm else (sSum (sEa (sPass (ix x1) (co, gu, upd kn (ix x0) (nI (i % 2)), upd fo (ix x0) (nI (i / 2)), sp, ki, pl, ea, to, qu))) (ix gu)) : Int32)), (3, .int (if (if bb < 0 then 1 else (if (sSum (sEa (sPass (ix x1) (co, gu, upd kn (ix x0) (nI (i % 2)), upd fo (ix x0) (nI (i / 2)), sp, ki, pl, ea, to, qu))) (ix gu)) ≤ mm then 0 else 1) : Int32) = 0 then bb else nI i : Int32)), (7, .int (if bb < 0 then 1 else (if (sSum (sEa (sPass (ix x1) (co, gu, upd kn (ix x0) (nI (i % 2)), upd fo (ix x0) (nI (i / 2)), sp, ki, pl, ea, to, qu))) (ix gu)) ≤ mm then 0 else 1) : Int32)), (6, .int (sSum (sEa (sPass (ix x1) (co, gu, upd kn (ix x0) (nI (i % 2)), upd fo (ix x0) (nI (i / 2)), sp, ki, pl, ea, to, qu))) (ix gu))), (0, .ref (b 0)), (1, .int x0), (2, .int x1)]) hx hb dX6_laid_129 hl (k := 7) rfl (nI_1 _) (by decide) rfl (fun ls hl => ?_)
        refine lv_goto (tgt := 41) hx hb dX6_laid_132 (by decide) ?_
        exact ih (n - 1) (by omega) ((i + 1, (if (if bb < 0 then 1 else (if (sSum (sEa (sPass (ix x1) (co, gu, upd kn (ix x0) (nI (i % 2)), upd fo (ix x0) (nI (i / 2)), sp, ki, pl, ea, to, qu))) (ix gu)) ≤ mm then 0 else 1) : Int32) = 0 then bb else nI i : Int32), (if (if bb < 0 then 1 else (if (sSum (sEa (sPass (ix x1) (co, gu, upd kn (ix x0) (nI (i % 2)), upd fo (ix x0) (nI (i / 2)), sp, ki, pl, ea, to, qu))) (ix gu)) ≤ mm then 0 else 1) : Int32) = 0 then mm else (sSum (sEa (sPass (ix x1) (co, gu, upd kn (ix x0) (nI (i % 2)), upd fo (ix x0) (nI (i / 2)), sp, ki, pl, ea, to, qu))) (ix gu)) : Int32), mo_10)) H locs ls ⟨by omega, arg_step hi1 trivial rfl, hP, hS, lv_sub hl [5, 6, 7, 2, 1, 0] rfl⟩
    · skip
      have c_4b := bI_0 c_4
      refine lv_aload_n hx hb dX6_laid_17 rfl (lv_at hl 0 rfl) ?_
      refine lv_ldc hx hb hown k47 dX6_laid_18 ?_
      refine callMi (va_runV (As := [.int (-1000000001)]) (rest := []) ⟨hx, hb, hml, hown, hts⟩ (k_X6_finds l D cI cL cS b co gu kn fo sp ki pl ea to qu fd mo tr b1 tp tm so bg te wd va gd bo sz sh le im bf ik (-1000000001) (va_DT (hD _ rfl) rfl) (vp_in_iff.mpr (by decide))) (cwV 1 hts gX6_laid_X6_finds rfl rfl rfl (by decide +kernel) ⟨Nat.le_of_ble_eq_true rfl, Nat.le_of_ble_eq_true rfl⟩) ⟨PcR_fb, va_recv hK hP (ci := 4) (q0 := 0) rfl rfl, PcR_pre hP hK⟩ rfl rfl hl.1 rfl (lv_room (Nat.le_of_ble_eq_true rfl)) dX6_laid_20 ⟨Nat.zero_le _, Nat.zero_le _⟩) hP (hD _ rfl) hS 0 13 rfl (fun r_19 u_18 H locs hu_18 hP hS => ?_)
      obtain ⟨hu_18r, hu_18⟩ := hu_18
      subst hu_18r
      have hP : va_P D vwCl (mdw cI cL b (enc co gu kn fo sp ki pl ea to qu) (bump fd (-1000000001)) mo tr b1 tp tm so bg te wd va gd bo sz sh le im bf ik) H := hP
      exact W.iret hx hb hr (fun t ht hW => ⟨⟨_, (mo, tr, bump fd (-1000000001)), rfl, (by exact (iF_f (fun h => by first | exact absurd h.1 c_4b | exact absurd c_4b h.1 | exact absurd h.2 c_4b | exact absurd c_4b h.2)).symm), by dsimp only; rw [ht]; exact hP⟩, hS.F ht⟩) hS.2.2 dX6_laid_23

set_option maxRecDepth 100000 in
set_option maxHeartbeats 4000000 in
theorem k_X6_knife (l : Launch) (D : va_G) (cI cL cS : ClassId) (b : Nat → Nat) (co gu : Int32) (kn fo sp ki pl ea to qu : FI) (fd : FI) (mo : FI) (tr : FI) (b1 : FI) (tp : FI) (tm : Int32) (so : Int32) (bg : Int32) (te : Int32) (wd : Int64) (va : Int32) (gd : Int32) (bo : FI) (sz : FI) (sh : FJ) (le : FJ) (im : FI) (bf : FI) (ik : Int32) (x0 : Int32) (dj : va_D (fun _ => True) (dj0 b 13)) (ok : okT gu kn fo sp (whC gu pl) ki pl) (oe : okE ea to qu) : Met l yX6_knife wsX6_knife { frames := 8, cells := 0, slots := 0, locals := 183 } (PcR D vwCl (tyG cI cL cS) [.ref (b 0), .int x0] (mdw cI cL b (enc co gu kn fo sp ki pl ea to qu) fd mo tr b1 tp tm so bg te wd va gd bo sz sh le im bf ik)) (va_Qi (fun (r : Int32) (u : FI × FI × FI) => (r, u.2.2) = sKnife (co, gu, kn, fo, sp, ki, pl, ea, to, qu) fd x0) (fun u t => va_P D vwCl (mdw cI cL b (enc co gu kn fo sp ki pl ea to qu) u.2.2 u.1 u.2.1 b1 tp tm so bg te wd va gd bo sz sh le im bf ik) t.heap) (Aof (mdw cI cL b (enc co gu kn fo sp ki pl ea to qu) fd mo tr b1 tp tm so bg te wd va gd bo sz sh le im bf ik))) 0 0 (Aof (mdw cI cL b (enc co gu kn fo sp ki pl ea to qu) fd mo tr b1 tp tm so bg te wd va gd bo sz sh le im bf ik)) := by
  refine Met.ofW (cc := cX6_knife) (maxL := 7) (ret := (some .int)) (by decide) rfl ?_
  intro p e s m args below meth c s₁ B hml hv
  obtain ⟨rfl, hP, hK⟩ := hv
  have hx := B.exec
  have hb := B.bytes
  have hr := B.returns
  have hts := atoms_spec (ws := wsX6_knife) B.pre
  have hown : s.vm.findClass RX6 = some m.cls := findClass_of_methodNamed B.named
  have hlocks := B.notSynchronized
  obtain ⟨A, hAe⟩ : ∃ A, A = Aof (mdw cI cL b (enc co gu kn fo sp ki pl ea to qu) fd mo tr b1 tp tm so bg te wd va gd bo sz sh le im bf ik) := ⟨_, rfl⟩
  rw [← hAe]
  have hD : ∀ ws' : va_W, ws'.map Prod.fst = (mdw cI cL b (enc co gu kn fo sp ki pl ea to qu) fd mo tr b1 tp tm so bg te wd va gd bo sz sh le im bf ik).map Prod.fst → va_D A ws' := fun ws' e => by rw [hAe]; exact va_D_adr (va_D_self (va_D_adr dj rfl)) e
  have hS : va_S A s.heap s.heap [] := va_S.rf
  have hP : va_P D vwCl (mdw cI cL b (enc co gu kn fo sp ki pl ea to qu) fd mo tr b1 tp tm so bg te wd va gd bo sz sh le im bf ik) s.heap := hP
  have hl := lv_entry ([.ref (b 0), .int x0]) (n := 7) (Nat.le_of_ble_eq_true rfl)
  rw [lg_entry_eq]
  generalize (lg_sl ([.ref (b 0), .int x0]) ++ List.replicate (7 - (lg_sl ([.ref (b 0), .int x0])).length) Slot.unset).toArray = ls at hl ⊢
  have hl : lv_has ls 7 [(0, .ref (b 0)), (1, .int x0)] := hl
  have f19 := hts (.fieldLink RX6 19 "KnivesLaidModel" "tried" "[I") (List.mem_of_getElem? (i := 2) rfl)
  have inX6 : ∀ w ∈ u_ws RX6 TX6 20, w ∈ wsX6_knife := in_at 100 _ _ rfl
  have f7 := hts (.fieldLink RX6 7 "KnivesLaidModel" "row" "[I") (List.mem_of_getElem? (i := 3) rfl)
  have k47 := hts (.constant RX6 47 (-1000000001)) (List.mem_of_getElem? (i := 1) rfl)
  skip
  refine lv_iload_n hx hb dX6_knife_0 rfl (lv_at hl 1 rfl) ?_
  refine lv_iconst (v := 1) hx hb dX6_knife_1 (by decide) ?_
  refine lv_bipush (v := 40) hx hb dX6_knife_2 (by decide) ?_
  refine callE (W.runS (As := [.int x0, .int 1, .int 40]) (rest := []) ⟨hx, hb, hml, hown, hts⟩ (k_X6_in l x0 1 40) (va_cwS 3 hts gX6_knife_X6_in rfl rfl rfl (by decide +kernel) ⟨Nat.le_of_ble_eq_true rfl, Nat.le_of_ble_eq_true rfl⟩) ⟨PcP_fb, fun U _ _ => ⟨rfl, trivial⟩⟩ rfl rfl hl.1 rfl (lv_room (Nat.le_of_ble_eq_true rfl)) dX6_knife_4 ⟨Nat.zero_le _, Nat.zero_le _⟩) ?_
  refine lv_if_ne (tgt := 17) hx hb dX6_knife_7 (by decide) (fun c_1 => ?_) (fun c_1 => ?_)
  · skip
    have c_1b := bI_n c_1
    have hn := c_1b
    have hcc : c40 x0 := hn
    refine lv_aload_n hx hb dX6_knife_17 rfl (lv_at hl 0 rfl) ?_
    refine lv_iconst (v := 1) hx hb dX6_knife_18 (by decide) ?_
    refine lv_aload_n hx hb dX6_knife_19 rfl (lv_at hl 0 rfl) ?_
    refine va_get (ci := 4) (v := .ref (b 4)) (C := RX6) (T := TX6) (N := 20) hx hb hts inX6 hown hK hP 0 rfl rfl 3 (by decide) f19 (fun _ h9 => h9) rfl dX6_knife_20 ?_
    refine callMv (va_runV (As := [.int 1, .ref (b 4)]) (rest := []) ⟨hx, hb, hml, hown, hts⟩ (k_X6_moveAll_tr1 l D cI cL cS b co gu kn fo sp ki pl ea to qu fd mo tr b1 tp tm so bg te wd va gd bo sz sh le im bf ik (va_DT (hD _ rfl) rfl)) (cwV 2 hts gX6_knife_X6_moveAll rfl rfl rfl (by decide +kernel) ⟨Nat.le_of_ble_eq_true rfl, Nat.le_of_ble_eq_true rfl⟩) ⟨PcR_fb, va_recv hK hP (ci := 4) (q0 := 0) rfl rfl, PcR_pre hP hK⟩ rfl rfl hl.1 rfl (lv_room (Nat.le_of_ble_eq_true rfl)) dX6_knife_23 ⟨Nat.zero_le _, Nat.zero_le _⟩) hP (hD _ rfl) hS 0 13 rfl (fun u_2 H locs hu_2 hP hS => ?_)
    have hP : va_P D vwCl (mdw cI cL b (enc co gu kn fo sp ki pl ea to qu) fd mo (enc co gu kn fo sp ki pl ea to qu) b1 tp tm so bg te wd va gd bo sz sh le im bf ik) H := hP
    refine lv_iconst (v := (-1)) hx hb dX6_knife_26 (by decide) ?_
    refine lv_istore_n (lv' := [(2, .int (-1)), (0, .ref (b 0)), (1, .int x0)]) hx hb dX6_knife_27 rfl hl (by decide) rfl (fun ls hl => ?_)
    refine lv_iconst (v := 0) hx hb dX6_knife_28 (by decide) ?_
    refine lv_istore_n (lv' := [(3, .int 0), (2, .int (-1)), (0, .ref (b 0)), (1, .int x0)]) hx hb dX6_knife_29 rfl hl (by decide) rfl (fun ls hl => ?_)
    refine lv_iconst (v := 0) hx hb dX6_knife_30 (by decide) ?_
    refine lv_istore (lv' := [(4, .int 0), (3, .int 0), (2, .int (-1)), (0, .ref (b 0)), (1, .int x0)]) hx hb dX6_knife_31 hl (by decide) rfl (fun ls hl => ?_)
    refine lpW (fun n (u : Nat × Int32 × Int32 × FI) H locs ls => (u.1 + n = 10) ∧ ((u.2.1, u.2.2.1) = sArg (fun _ => True) (fKnife (co, gu, kn, fo, sp, ki, pl, ea, to, qu) x0) u.1) ∧ va_P D vwCl (mdw cI cL b (enc co gu kn fo sp ki pl ea to qu) fd u.2.2.2 (enc co gu kn fo sp ki pl ea to qu) b1 tp tm so bg te wd va gd bo sz sh le im bf ik) H ∧ va_S A s.heap H locs ∧ lv_has ls 7 [(0, .ref (b 0)), (1, .int x0), (2, .int u.2.1), (3, .int u.2.2.1), (4, .int (nI u.1))]) (10) ((0, (-1), 0, mo)) ⟨by omega, rfl, hP, hS, lv_sub hl [3, 4, 2, 1, 0] rfl⟩ (fun n ih u H locs ls hI => ?_)
    obtain ⟨i, bb, mm, mo1⟩ := u
    obtain ⟨hi0, hi1, hP, hS, hl⟩ := hI
    have hi0 : i + n = 10 := hi0
    have hi1 : (bb, mm) = sArg (fun _ => True) (fKnife (co, gu, kn, fo, sp, ki, pl, ea, to, qu) x0) i := hi1
    have hl : lv_has ls 7 [(0, .ref (b 0)), (1, .int x0), (2, .int bb), (3, .int mm), (4, .int (nI i))] := hl
    have hP : va_P D vwCl (mdw cI cL b (enc co gu kn fo sp ki pl ea to qu) fd mo1 (enc co gu kn fo sp ki pl ea to qu) b1 tp tm so bg te wd va gd bo sz sh le im bf ik) H := hP
    have hix : ix (nI i) = i := ix_nI (by omega)
    refine lv_iload hx hb dX6_knife_33 (lv_at hl 4 rfl) ?_
    refine lv_bipush (v := 10) hx hb dX6_knife_35 (by decide) ?_
    refine lv_icmp_ge (tgt := 115) hx hb dX6_knife_37 (by decide) (fun c_4 => ?_) (fun c_4 => ?_)
    · skip
      have c_4n := (cmp_le (a := 10) (b := i) rfl rfl (by omega) (by omega)).mp c_4
      refine lv_iload_n hx hb dX6_knife_115 rfl (lv_at hl 2 rfl) ?_
      exact W.iret hx hb hr (fun t ht hW => ⟨⟨_, (mo1, enc co gu kn fo sp ki pl ea to qu, fd), rfl, (by unfold sKnife; rw [iF_t hcc, show sArg _ _ 10 = (bb, mm) by rw [hi1, show i = 10 by omega]]), by dsimp only; rw [ht]; exact hP⟩, hS.F ht⟩) hS.2.2 dX6_knife_116
    · skip
      have c_4n := mt (cmp_le (a := 10) (b := i) rfl rfl (by omega) (by omega)).mpr c_4
      have hip : vp_in (nI i) 10 := vp_in_nI (by omega) (by decide)
      refine lv_aload_n hx hb dX6_knife_40 rfl (lv_at hl 0 rfl) ?_
      refine va_get (ci := 4) (v := .ref (b 1)) (C := RX6) (T := TX6) (N := 20) hx hb hts inX6 hown hK hP 0 rfl rfl 0 (by decide) f7 (fun _ h9 => h9) rfl dX6_knife_41 ?_
      refine lv_iconst (v := 2) hx hb dX6_knife_44 (by decide) ?_
      refine lv_iconst (v := 3) hx hb dX6_knife_45 (by decide) ?_
      refine lv_iload hx hb dX6_knife_46 (lv_at hl 4 rfl) ?_
      refine lv_imul hx hb dX6_knife_48 ?_
      refine lv_iadd hx hb dX6_knife_49 ?_
      refine lv_iconst (v := 1) hx hb dX6_knife_50 (by decide) ?_
      refine lv_aload_n hx hb dX6_knife_51 rfl (lv_at hl 0 rfl) ?_
      refine lv_iload hx hb dX6_knife_52 (lv_at hl 4 rfl) ?_
      refine lv_iconst (v := 0) hx hb dX6_knife_54 (by decide) ?_
      refine callE (W.runV (As := [.int (nI i), .int 0]) (rest := [.int 1, .int (2 + (3 * (nI i))), .ref (b 1)]) ⟨hx, hb, hml, hown, hts⟩ (k_X6_laidAt0 l D cI cL cS b co gu kn fo sp ki pl ea to qu fd mo1 (enc co gu kn fo sp ki pl ea to qu) b1 tp tm so bg te wd va gd bo sz sh le im bf ik (nI i) hip) (cwV 2 hts gX6_knife_X6_laidAt rfl rfl rfl (by decide +kernel) ⟨Nat.le_of_ble_eq_true rfl, Nat.le_of_ble_eq_true rfl⟩) ⟨PcR_fb, va_recv hK hP (ci := 4) (q0 := 0) rfl rfl, PcR_pre hP hK⟩ rfl rfl hl.1 rfl (lv_room (Nat.le_of_ble_eq_true rfl)) dX6_knife_55 ⟨Nat.zero_le _, Nat.zero_le _⟩) ?_
      refine lv_isub hx hb dX6_knife_58 ?_
      refine va_iast hx hb hK hP (hD _ rfl) hS 1 0 rfl rfl (lay0_in hip) dX6_knife_59 (fun H locs hP _ hS => ?_)
      have hP : va_P D vwCl (mdw cI cL b (enc co gu (upd kn i (1 - kn i)) fo sp ki pl ea to qu) fd mo1 (enc co gu kn fo sp ki pl ea to qu) b1 tp tm so bg te wd va gd bo sz sh le im bf ik) H := by have q := enc_q0z (co := co) (gu := gu) (kn := kn) (fo := fo) (sp := sp) (ki := ki) (pl := pl) (ea := ea) (to := to) (qu := qu) (v := 1 - kn i) hip; rw [hix] at q hP; rw [← q]; exact hP
      refine lv_aload_n hx hb dX6_knife_60 rfl (lv_at hl 0 rfl) ?_
      refine lv_iload_n hx hb dX6_knife_61 rfl (lv_at hl 1 rfl) ?_
      refine lv_iconst (v := 2) hx hb dX6_knife_62 (by decide) ?_
      refine callMi (va_runV (As := [.int x0, .int 2]) (rest := []) ⟨hx, hb, hml, hown, hts⟩ (k_X6_allBehind2 l D cI cL cS b co gu (upd kn i (1 - kn i)) fo sp ki pl ea to qu fd mo1 b1 tp tm so bg te wd va gd bo sz sh le im bf ik co gu kn fo sp ki pl ea to qu x0 (va_DT (hD _ rfl) rfl) ((ok_knife (σ := (co, gu, kn, fo, sp, ki, pl, ea, to, qu)) (w := whC gu pl) ⟨ok, oe⟩ (i := i) (by omega)).1.cC) ((ok_knife (σ := (co, gu, kn, fo, sp, ki, pl, ea, to, qu)) (w := whC gu pl) ⟨ok, oe⟩ (i := i) (by omega)).2) (wi_in hn (by decide) (by decide))) (cwV 2 hts gX6_knife_X6_allBehind rfl rfl rfl (by decide +kernel) ⟨Nat.le_of_ble_eq_true rfl, Nat.le_of_ble_eq_true rfl⟩) ⟨PcR_fb, va_recv hK hP (ci := 4) (q0 := 0) rfl rfl, PcR_pre hP hK⟩ rfl rfl hl.1 rfl (lv_room (Nat.le_of_ble_eq_true rfl)) dX6_knife_63 ⟨Nat.zero_le _, Nat.zero_le _⟩) hP (hD _ rfl) hS 0 13 rfl (fun r_6 u_5 H locs hu_5 hP hS => ?_)
      obtain ⟨mo_7, rfl⟩ : ∃ z, z = u_5 := ⟨_, rfl⟩
      have hu_5 : r_6 = sSum (sEa (sPass (ix x0) (co, gu, upd kn i (1 - kn i), fo, sp, ki, pl, ea, to, qu))) (ix gu) := hu_5
      subst hu_5
      have hP : va_P D vwCl (mdw cI cL b (enc co gu kn fo sp ki pl ea to qu) fd mo_7 (enc co gu kn fo sp ki pl ea to qu) b1 tp tm so bg te wd va gd bo sz sh le im bf ik) H := hP
      refine lv_istore (lv' := [(5, .int (sSum (sEa (sPass (ix x0) (co, gu, upd kn i (1 - kn i), fo, sp, ki, pl, ea, to, qu))) (ix gu))), (0, .ref (b 0)), (1, .int x0), (2, .int bb), (3, .int mm), (4, .int (nI i))]) hx hb dX6_knife_66 hl (by decide) rfl (fun ls hl => ?_)
      refine lv_iload_n hx hb dX6_knife_68 rfl (lv_at hl 3 rfl) ?_
      refine jn (fun v_8 : Int32 => v_8 = (if bb < 0 then 1 else (if (sSum (sEa (sPass (ix x0) (co, gu, upd kn i (1 - kn i), fo, sp, ki, pl, ea, to, qu))) (ix gu)) ≤ mm then 0 else 1) : Int32)) (fun v_8 => F0 m 83 ls [.int v_8]) (fun Jv_8 => ?_) (fun v_8 ev_8 => ?_)
      · skip
        refine lv_if_lt (tgt := 78) hx hb dX6_knife_69 (by decide) (fun c_9 => ?_) (fun c_9 => ?_)
        · skip
          refine lv_iconst (v := 1) hx hb dX6_knife_78 (by decide) ?_
          refine lv_goto (tgt := 83) hx hb dX6_knife_79 (by decide) ?_
          exact Jv_8 _ (by rw [if_pos c_9])
        · skip
          refine lv_iload hx hb dX6_knife_72 (lv_at hl 0 rfl) ?_
          refine lv_iload_n hx hb dX6_knife_74 rfl (lv_at hl 4 rfl) ?_
          refine lv_icmp_le (tgt := 82) hx hb dX6_knife_75 (by decide) (fun c_10 => ?_) (fun c_10 => ?_)
          · skip
            refine lv_iconst (v := 0) hx hb dX6_knife_82 (by decide) ?_
            exact Jv_8 _ (by rw [if_neg c_9, if_pos c_10])
          · skip
            refine lv_iconst (v := 1) hx hb dX6_knife_78 (by decide) ?_
            refine lv_goto (tgt := 83) hx hb dX6_knife_79 (by decide) ?_
            exact Jv_8 _ (by rw [if_neg c_9, if_neg c_10])
      subst ev_8
      refine lv_istore (lv' := [(6, .int (if bb < 0 then 1 else (if (sSum (sEa (sPass (ix x0) (co, gu, upd kn i (1 - kn i), fo, sp, ki, pl, ea, to, qu))) (ix gu)) ≤ mm then 0 else 1) : Int32)), (5, .int (sSum (sEa (sPass (ix x0) (co, gu, upd kn i (1 - kn i), fo, sp, ki, pl, ea, to, qu))) (ix gu))), (0, .ref (b 0)), (1, .int x0), (2, .int bb), (3, .int mm), (4, .int (nI i))]) hx hb dX6_knife_83 hl (by decide) rfl (fun ls hl => ?_)
      refine lv_iload hx hb dX6_knife_85 (lv_at hl 0 rfl) ?_
      refine jn (fun v_11 : Int32 => v_11 = (if (if bb < 0 then 1 else (if (sSum (sEa (sPass (ix x0) (co, gu, upd kn i (1 - kn i), fo, sp, ki, pl, ea, to, qu))) (ix gu)) ≤ mm then 0 else 1) : Int32) = 0 then bb else nI i : Int32)) (fun v_11 => F0 m 96 ls [.int v_11]) (fun Jv_11 => ?_) (fun v_11 ev_11 => ?_)
      · skip
        refine lv_if_eq (tgt := 95) hx hb dX6_knife_87 (by decide) (fun c_12 => ?_) (fun c_12 => ?_)
        · skip
          refine lv_iload_n hx hb dX6_knife_95 rfl (lv_at hl 4 rfl) ?_
          exact Jv_11 _ (by rw [if_pos c_12])
        · skip
          refine lv_iload hx hb dX6_knife_90 (lv_at hl 6 rfl) ?_
          refine lv_goto (tgt := 96) hx hb dX6_knife_92 (by decide) ?_
          exact Jv_11 _ (by rw [if_neg c_12])
      subst ev_11
      refine lv_istore_n (lv' := [(2, .int (if (if bb < 0 then 1 else (if (sSum (sEa (sPass (ix x0) (co, gu, upd kn i (1 - kn i), fo, sp, ki, pl, ea, to, qu))) (ix gu)) ≤ mm then 0 else 1) : Int32) = 0 then bb else nI i : Int32)), (6, .int (if bb < 0 then 1 else (if (sSum (sEa (sPass (ix x0) (co, gu, upd kn i (1 - kn i), fo, sp, ki, pl, ea, to, qu))) (ix gu)) ≤ mm then 0 else 1) : Int32)), (5, .int (sSum (sEa (sPass (ix x0) (co, gu, upd kn i (1 - kn i), fo, sp, ki, pl, ea, to, qu))) (ix gu))), (0, .ref (b 0)), (1, .int x0), (3, .int mm), (4, .int (nI i))]) hx hb dX6_knife_96 rfl hl (by decide) rfl (fun ls hl => ?_)
      refine lv_iload hx hb dX6_knife_97 (lv_at hl 1 rfl) ?_
      refine jn (fun v_13 : Int32 => v_13 = (if (if bb < 0 then 1 else (if (sSum (sEa (sPass (ix x0) (co, gu, upd kn i (1 - kn i), fo, sp, ki, pl, ea, to, qu))) (ix gu)) ≤ mm then 0 else 1) : Int32) = 0 then mm else (sSum (sEa (sPass (ix x0) (co, gu, upd kn i (1 - kn i), fo, sp, ki, pl, ea, to, qu))) (ix gu)) : Int32)) (fun v_13 => F0 m 108 ls [.int v_13]) (fun Jv_13 => ?_) (fun v_13 ev_13 => ?_)
      · skip
        refine lv_if_eq (tgt := 107) hx hb dX6_knife_99 (by decide) (fun c_14 => ?_) (fun c_14 => ?_)
        · skip
          refine lv_iload_n hx hb dX6_knife_107 rfl (lv_at hl 5 rfl) ?_
          exact Jv_13 _ (by rw [if_pos c_14])
        · skip
          refine lv_iload hx hb dX6_knife_102 (lv_at hl 2 rfl) ?_
          refine lv_goto (tgt := 108) hx hb dX6_knife_104 (by decide) ?_
          exact Jv_13 _ (by rw [if_neg c_14])
      subst ev_13
      refine lv_istore_n (lv' := [(3, .int (if (if bb < 0 then 1 else (if (sSum (sEa (sPass (ix x0) (co, gu, upd kn i (1 - kn i), fo, sp, ki, pl, ea, to, qu))) (ix gu)) ≤ mm then 0 else 1) : Int32) = 0 then mm else (sSum (sEa (sPass (ix x0) (co, gu, upd kn i (1 - kn i), fo, sp, ki, pl, ea, to, qu))) (ix gu)) : Int32)), (2, .int (if (if bb < 0 then 1 else (if (sSum (sEa (sPass (ix x0) (co, gu, upd kn i (1 - kn i), fo, sp, ki, pl, ea, to, qu))) (ix gu)) ≤ mm then 0 else 1) : Int32) = 0 then bb else nI i : Int32)), (6, .int (if bb < 0 then 1 else (if (sSum (sEa (sPass (ix x0) (co, gu, upd kn i (1 - kn i), fo, sp, ki, pl, ea, to, qu))) (ix gu)) ≤ mm then 0 else 1) : Int32)), (5, .int (sSum (sEa (sPass (ix x0) (co, gu, upd kn i (1 - kn i), fo, sp, ki, pl, ea, to, qu))) (ix gu))), (0, .ref (b 0)), (1, .int x0), (4, .int (nI i))]) hx hb dX6_knife_108 rfl hl (by decide) rfl (fun ls hl => ?_)
      refine lv_iinc (v := nI (i + 1)) (lv' := [(4, .int (nI (i + 1))), (3, .int (if (if bb < 0 then 1 else (if (sSum (sEa (sPass (ix x0) (co, gu, upd kn i (1 - kn i), fo, sp, ki, pl, ea, to, qu))) (ix gu)) ≤ mm then 0 else 1) : Int32) = 0 then mm else (sSum (sEa (sPass (ix x0) (co, gu, upd kn i (1 - kn i), fo, sp, ki, pl, ea, to, qu))) (ix gu)) : Int32)), (2, .int (if (if bb < 0 then 1 else (if (sSum (sEa (sPass (ix x0) (co, gu, upd kn i (1 - kn i), fo, sp, ki, pl, ea, to, qu))) (ix gu)) ≤ mm then 0 else 1) : Int32) = 0 then bb else nI i : Int32)), (6, .int (if bb < 0 then 1 else (if (sSum (sEa (sPass (ix x0) (co, gu, upd kn i (1 - kn i), fo, sp, ki, pl, ea, to, qu))) (ix gu)) ≤ mm then 0 else 1) : Int32)), (5, .int (sSum (sEa (sPass (ix x0) (co, gu, upd kn i (1 - kn i), fo, sp, ki, pl, ea, to, qu))) (ix gu))), (0, .ref (b 0)), (1, .int x0)]) hx hb dX6_knife_109 hl (k := 6) rfl (nI_1 _) (by decide) rfl (fun ls hl => ?_)
      refine lv_goto (tgt := 33) hx hb dX6_knife_112 (by decide) ?_
      exact ih (n - 1) (by omega) ((i + 1, (if (if bb < 0 then 1 else (if (sSum (sEa (sPass (ix x0) (co, gu, upd kn i (1 - kn i), fo, sp, ki, pl, ea, to, qu))) (ix gu)) ≤ mm then 0 else 1) : Int32) = 0 then bb else nI i : Int32), (if (if bb < 0 then 1 else (if (sSum (sEa (sPass (ix x0) (co, gu, upd kn i (1 - kn i), fo, sp, ki, pl, ea, to, qu))) (ix gu)) ≤ mm then 0 else 1) : Int32) = 0 then mm else (sSum (sEa (sPass (ix x0) (co, gu, upd kn i (1 - kn i), fo, sp, ki, pl, ea, to, qu))) (ix gu)) : Int32), mo_7)) H locs ls ⟨by omega, arg_step hi1 trivial rfl, hP, hS, lv_sub hl [5, 6, 2, 1, 0] rfl⟩
  · skip
    have c_1b := bI_0 c_1
    refine lv_aload_n hx hb dX6_knife_10 rfl (lv_at hl 0 rfl) ?_
    refine lv_ldc hx hb hown k47 dX6_knife_11 ?_
    refine callMi (va_runV (As := [.int (-1000000001)]) (rest := []) ⟨hx, hb, hml, hown, hts⟩ (k_X6_finds l D cI cL cS b co gu kn fo sp ki pl ea to qu fd mo tr b1 tp tm so bg te wd va gd bo sz sh le im bf ik (-1000000001) (va_DT (hD _ rfl) rfl) (vp_in_iff.mpr (by decide))) (cwV 1 hts gX6_knife_X6_finds rfl rfl rfl (by decide +kernel) ⟨Nat.le_of_ble_eq_true rfl, Nat.le_of_ble_eq_true rfl⟩) ⟨PcR_fb, va_recv hK hP (ci := 4) (q0 := 0) rfl rfl, PcR_pre hP hK⟩ rfl rfl hl.1 rfl (lv_room (Nat.le_of_ble_eq_true rfl)) dX6_knife_13 ⟨Nat.zero_le _, Nat.zero_le _⟩) hP (hD _ rfl) hS 0 13 rfl (fun r_16 u_15 H locs hu_15 hP hS => ?_)
    obtain ⟨hu_15r, hu_15⟩ := hu_15
    subst hu_15r
    have hP : va_P D vwCl (mdw cI cL b (enc co gu kn fo sp ki pl ea to qu) (bump fd (-1000000001)) mo tr b1 tp tm so bg te wd va gd bo sz sh le im bf ik) H := hP
    exact W.iret hx hb hr (fun t ht hW => ⟨⟨_, (mo, tr, bump fd (-1000000001)), rfl, (by exact (iF_f c_1b).symm), by dsimp only; rw [ht]; exact hP⟩, hS.F ht⟩) hS.2.2 dX6_knife_16

set_option maxRecDepth 100000 in
set_option maxHeartbeats 4000000 in
theorem k_X6_kind (l : Launch) (D : va_G) (cI cL cS : ClassId) (b : Nat → Nat) (co gu : Int32) (kn fo sp ki pl ea to qu : FI) (fd : FI) (mo : FI) (tr : FI) (b1 : FI) (tp : FI) (tm : Int32) (so : Int32) (bg : Int32) (te : Int32) (wd : Int64) (va : Int32) (gd : Int32) (bo : FI) (sz : FI) (sh : FJ) (le : FJ) (im : FI) (bf : FI) (ik : Int32) (x0 : Int32) (x1 : Int32) (dj : va_D (fun _ => True) (dj0 b 13)) (ok : okT gu kn fo sp (whC gu pl) ki pl) (oe : okE ea to qu) : Met l yX6_kind wsX6_kind { frames := 8, cells := 0, slots := 0, locals := 183 } (PcR D vwCl (tyG cI cL cS) [.ref (b 0), .int x0, .int x1] (mdw cI cL b (enc co gu kn fo sp ki pl ea to qu) fd mo tr b1 tp tm so bg te wd va gd bo sz sh le im bf ik)) (va_Qi (fun (r : Int32) (u : FI × FI × FI) => (r, u.2.2) = sKind (co, gu, kn, fo, sp, ki, pl, ea, to, qu) fd x0 x1) (fun u t => va_P D vwCl (mdw cI cL b (enc co gu kn fo sp ki pl ea to qu) u.2.2 u.1 u.2.1 b1 tp tm so bg te wd va gd bo sz sh le im bf ik) t.heap) (Aof (mdw cI cL b (enc co gu kn fo sp ki pl ea to qu) fd mo tr b1 tp tm so bg te wd va gd bo sz sh le im bf ik))) 0 0 (Aof (mdw cI cL b (enc co gu kn fo sp ki pl ea to qu) fd mo tr b1 tp tm so bg te wd va gd bo sz sh le im bf ik)) := by
  refine Met.ofW (cc := cX6_kind) (maxL := 8) (ret := (some .int)) (by decide) rfl ?_
  intro p e s m args below meth c s₁ B hml hv
  obtain ⟨rfl, hP, hK⟩ := hv
  have hx := B.exec
  have hb := B.bytes
  have hr := B.returns
  have hts := atoms_spec (ws := wsX6_kind) B.pre
  have hown : s.vm.findClass RX6 = some m.cls := findClass_of_methodNamed B.named
  have hlocks := B.notSynchronized
  obtain ⟨A, hAe⟩ : ∃ A, A = Aof (mdw cI cL b (enc co gu kn fo sp ki pl ea to qu) fd mo tr b1 tp tm so bg te wd va gd bo sz sh le im bf ik) := ⟨_, rfl⟩
  rw [← hAe]
  have hD : ∀ ws' : va_W, ws'.map Prod.fst = (mdw cI cL b (enc co gu kn fo sp ki pl ea to qu) fd mo tr b1 tp tm so bg te wd va gd bo sz sh le im bf ik).map Prod.fst → va_D A ws' := fun ws' e => by rw [hAe]; exact va_D_adr (va_D_self (va_D_adr dj rfl)) e
  have hS : va_S A s.heap s.heap [] := va_S.rf
  have hP : va_P D vwCl (mdw cI cL b (enc co gu kn fo sp ki pl ea to qu) fd mo tr b1 tp tm so bg te wd va gd bo sz sh le im bf ik) s.heap := hP
  have hl := lv_entry ([.ref (b 0), .int x0, .int x1]) (n := 8) (Nat.le_of_ble_eq_true rfl)
  rw [lg_entry_eq]
  generalize (lg_sl ([.ref (b 0), .int x0, .int x1]) ++ List.replicate (8 - (lg_sl ([.ref (b 0), .int x0, .int x1])).length) Slot.unset).toArray = ls at hl ⊢
  have hl : lv_has ls 8 [(0, .ref (b 0)), (1, .int x0), (2, .int x1)] := hl
  have k47 := hts (.constant RX6 47 (-1000000001)) (List.mem_of_getElem? (i := 1) rfl)
  have f19 := hts (.fieldLink RX6 19 "KnivesLaidModel" "tried" "[I") (List.mem_of_getElem? (i := 2) rfl)
  have inX6 : ∀ w ∈ u_ws RX6 TX6 20, w ∈ wsX6_kind := in_at 100 _ _ rfl
  skip
  refine lv_aload_n hx hb dX6_kind_0 rfl (lv_at hl 0 rfl) ?_
  refine lv_iload_n hx hb dX6_kind_1 rfl (lv_at hl 1 rfl) ?_
  refine callE (W.runV (As := [.int x0]) (rest := []) ⟨hx, hb, hml, hown, hts⟩ (k_X6_isOne l D cI cL cS b co gu kn fo sp ki pl ea to qu fd mo tr b1 tp tm so bg te wd va gd bo sz sh le im bf ik x0 ok.gu) (cwV 1 hts gX6_kind_X6_isOne rfl rfl rfl (by decide +kernel) ⟨Nat.le_of_ble_eq_true rfl, Nat.le_of_ble_eq_true rfl⟩) ⟨PcR_fb, va_recv hK hP (ci := 4) (q0 := 0) rfl rfl, PcR_pre hP hK⟩ rfl rfl hl.1 rfl (lv_room (Nat.le_of_ble_eq_true rfl)) dX6_kind_2 ⟨Nat.zero_le _, Nat.zero_le _⟩) ?_
  refine lv_if_eq (tgt := 18) hx hb dX6_kind_5 (by decide) (fun c_1 => ?_) (fun c_1 => ?_)
  · skip
    have c_1b := bI_0 c_1
    refine lv_aload_n hx hb dX6_kind_18 rfl (lv_at hl 0 rfl) ?_
    refine lv_ldc hx hb hown k47 dX6_kind_19 ?_
    refine callMi (va_runV (As := [.int (-1000000001)]) (rest := []) ⟨hx, hb, hml, hown, hts⟩ (k_X6_finds l D cI cL cS b co gu kn fo sp ki pl ea to qu fd mo tr b1 tp tm so bg te wd va gd bo sz sh le im bf ik (-1000000001) (va_DT (hD _ rfl) rfl) (vp_in_iff.mpr (by decide))) (cwV 1 hts gX6_kind_X6_finds rfl rfl rfl (by decide +kernel) ⟨Nat.le_of_ble_eq_true rfl, Nat.le_of_ble_eq_true rfl⟩) ⟨PcR_fb, va_recv hK hP (ci := 4) (q0 := 0) rfl rfl, PcR_pre hP hK⟩ rfl rfl hl.1 rfl (lv_room (Nat.le_of_ble_eq_true rfl)) dX6_kind_21 ⟨Nat.zero_le _, Nat.zero_le _⟩) hP (hD _ rfl) hS 0 13 rfl (fun r_3 u_2 H locs hu_2 hP hS => ?_)
    obtain ⟨hu_2r, hu_2⟩ := hu_2
    subst hu_2r
    have hP : va_P D vwCl (mdw cI cL b (enc co gu kn fo sp ki pl ea to qu) (bump fd (-1000000001)) mo tr b1 tp tm so bg te wd va gd bo sz sh le im bf ik) H := hP
    exact W.iret hx hb hr (fun t ht hW => ⟨⟨_, (mo, tr, bump fd (-1000000001)), rfl, (by exact (iF_f (fun h => by first | exact absurd h.1 c_1b | exact absurd c_1b h.1 | exact absurd h.2 c_1b | exact absurd c_1b h.2)).symm), by dsimp only; rw [ht]; exact hP⟩, hS.F ht⟩) hS.2.2 dX6_kind_24
  · skip
    have c_1b := bI_n c_1
    have h1n := c_1b
    have h8 : vp_in x0 8 := in_8 ok.gu h1n
    refine lv_iload_n hx hb dX6_kind_8 rfl (lv_at hl 2 rfl) ?_
    refine lv_iconst (v := 1) hx hb dX6_kind_9 (by decide) ?_
    refine lv_bipush (v := 40) hx hb dX6_kind_10 (by decide) ?_
    refine callE (W.runS (As := [.int x1, .int 1, .int 40]) (rest := []) ⟨hx, hb, hml, hown, hts⟩ (k_X6_in l x1 1 40) (va_cwS 3 hts gX6_kind_X6_in rfl rfl rfl (by decide +kernel) ⟨Nat.le_of_ble_eq_true rfl, Nat.le_of_ble_eq_true rfl⟩) ⟨PcP_fb, fun U _ _ => ⟨rfl, trivial⟩⟩ rfl rfl hl.1 rfl (lv_room (Nat.le_of_ble_eq_true rfl)) dX6_kind_12 ⟨Nat.zero_le _, Nat.zero_le _⟩) ?_
    refine lv_if_ne (tgt := 25) hx hb dX6_kind_15 (by decide) (fun c_4 => ?_) (fun c_4 => ?_)
    · skip
      have c_4b := bI_n c_4
      have hn := c_4b
      have hcc : sOne (co, gu, kn, fo, sp, ki, pl, ea, to, qu) x0 ∧ c40 x1 := ⟨h1n, hn⟩
      refine lv_aload_n hx hb dX6_kind_25 rfl (lv_at hl 0 rfl) ?_
      refine lv_iconst (v := 1) hx hb dX6_kind_26 (by decide) ?_
      refine lv_aload_n hx hb dX6_kind_27 rfl (lv_at hl 0 rfl) ?_
      refine va_get (ci := 4) (v := .ref (b 4)) (C := RX6) (T := TX6) (N := 20) hx hb hts inX6 hown hK hP 0 rfl rfl 3 (by decide) f19 (fun _ h9 => h9) rfl dX6_kind_28 ?_
      refine callMv (va_runV (As := [.int 1, .ref (b 4)]) (rest := []) ⟨hx, hb, hml, hown, hts⟩ (k_X6_moveAll_tr1 l D cI cL cS b co gu kn fo sp ki pl ea to qu fd mo tr b1 tp tm so bg te wd va gd bo sz sh le im bf ik (va_DT (hD _ rfl) rfl)) (cwV 2 hts gX6_kind_X6_moveAll rfl rfl rfl (by decide +kernel) ⟨Nat.le_of_ble_eq_true rfl, Nat.le_of_ble_eq_true rfl⟩) ⟨PcR_fb, va_recv hK hP (ci := 4) (q0 := 0) rfl rfl, PcR_pre hP hK⟩ rfl rfl hl.1 rfl (lv_room (Nat.le_of_ble_eq_true rfl)) dX6_kind_31 ⟨Nat.zero_le _, Nat.zero_le _⟩) hP (hD _ rfl) hS 0 13 rfl (fun u_5 H locs hu_5 hP hS => ?_)
      have hP : va_P D vwCl (mdw cI cL b (enc co gu kn fo sp ki pl ea to qu) fd mo (enc co gu kn fo sp ki pl ea to qu) b1 tp tm so bg te wd va gd bo sz sh le im bf ik) H := hP
      refine lv_iconst (v := (-1)) hx hb dX6_kind_34 (by decide) ?_
      refine lv_istore_n (lv' := [(3, .int (-1)), (0, .ref (b 0)), (1, .int x0), (2, .int x1)]) hx hb dX6_kind_35 rfl hl (by decide) rfl (fun ls hl => ?_)
      refine lv_iconst (v := 0) hx hb dX6_kind_36 (by decide) ?_
      refine lv_istore (lv' := [(4, .int 0), (3, .int (-1)), (0, .ref (b 0)), (1, .int x0), (2, .int x1)]) hx hb dX6_kind_37 hl (by decide) rfl (fun ls hl => ?_)
      refine lv_iconst (v := 0) hx hb dX6_kind_39 (by decide) ?_
      refine lv_istore (lv' := [(5, .int 0), (4, .int 0), (3, .int (-1)), (0, .ref (b 0)), (1, .int x0), (2, .int x1)]) hx hb dX6_kind_40 hl (by decide) rfl (fun ls hl => ?_)
      refine lpW (fun n (u : Nat × Int32 × Int32 × FI) H locs ls => (u.1 + n = 6) ∧ ((u.2.1, u.2.2.1) = sArg (fun _ => True) (fKind (co, gu, kn, fo, sp, ki, pl, ea, to, qu) x0 x1) u.1) ∧ va_P D vwCl (mdw cI cL b (enc co gu kn fo sp ki pl ea to qu) fd u.2.2.2 (enc co gu kn fo sp ki pl ea to qu) b1 tp tm so bg te wd va gd bo sz sh le im bf ik) H ∧ va_S A s.heap H locs ∧ lv_has ls 8 [(0, .ref (b 0)), (1, .int x0), (2, .int x1), (3, .int u.2.1), (4, .int u.2.2.1), (5, .int (nI u.1))]) (6) ((0, (-1), 0, mo)) ⟨by omega, rfl, hP, hS, lv_sub hl [3, 4, 5, 2, 1, 0] rfl⟩ (fun n ih u H locs ls hI => ?_)
      obtain ⟨i, bb, mm, mo1⟩ := u
      obtain ⟨hi0, hi1, hP, hS, hl⟩ := hI
      have hi0 : i + n = 6 := hi0
      have hi1 : (bb, mm) = sArg (fun _ => True) (fKind (co, gu, kn, fo, sp, ki, pl, ea, to, qu) x0 x1) i := hi1
      have hl : lv_has ls 8 [(0, .ref (b 0)), (1, .int x0), (2, .int x1), (3, .int bb), (4, .int mm), (5, .int (nI i))] := hl
      have hP : va_P D vwCl (mdw cI cL b (enc co gu kn fo sp ki pl ea to qu) fd mo1 (enc co gu kn fo sp ki pl ea to qu) b1 tp tm so bg te wd va gd bo sz sh le im bf ik) H := hP
      have hix : ix (nI i) = i := ix_nI (by omega)
      refine lv_iload hx hb dX6_kind_42 (lv_at hl 5 rfl) ?_
      refine lv_bipush (v := 6) hx hb dX6_kind_44 (by decide) ?_
      refine lv_icmp_ge (tgt := 115) hx hb dX6_kind_46 (by decide) (fun c_7 => ?_) (fun c_7 => ?_)
      · skip
        have c_7n := (cmp_le (a := 6) (b := i) rfl rfl (by omega) (by omega)).mp c_7
        refine lv_iload_n hx hb dX6_kind_115 rfl (lv_at hl 3 rfl) ?_
        exact W.iret hx hb hr (fun t ht hW => ⟨⟨_, (mo1, enc co gu kn fo sp ki pl ea to qu, fd), rfl, (by unfold sKind; rw [iF_t hcc, show sArg _ _ 6 = (bb, mm) by rw [hi1, show i = 6 by omega]]), by dsimp only; rw [ht]; exact hP⟩, hS.F ht⟩) hS.2.2 dX6_kind_116
      · skip
        have c_7n := mt (cmp_le (a := 6) (b := i) rfl rfl (by omega) (by omega)).mpr c_7
        refine lv_aload_n hx hb dX6_kind_49 rfl (lv_at hl 0 rfl) ?_
        refine lv_iload_n hx hb dX6_kind_50 rfl (lv_at hl 1 rfl) ?_
        refine lv_iconst (v := 0) hx hb dX6_kind_51 (by decide) ?_
        refine lv_iload hx hb dX6_kind_52 (lv_at hl 5 rfl) ?_
        refine callMv (va_runV (As := [.int x0, .int 0, .int (nI i)]) (rest := []) ⟨hx, hb, hml, hown, hts⟩ (k_X6_puts0 l D cI cL cS b co gu kn fo sp ki pl ea to qu fd mo1 (enc co gu kn fo sp ki pl ea to qu) b1 tp tm so bg te wd va gd bo sz sh le im bf ik x0 (nI i) (va_DT (hD _ rfl) rfl) h8) (cwV 3 hts gX6_kind_X6_puts rfl rfl rfl (by decide +kernel) ⟨Nat.le_of_ble_eq_true rfl, Nat.le_of_ble_eq_true rfl⟩) ⟨PcR_fb, va_recv hK hP (ci := 4) (q0 := 0) rfl rfl, PcR_pre hP hK⟩ rfl rfl hl.1 rfl (lv_room (Nat.le_of_ble_eq_true rfl)) dX6_kind_54 ⟨Nat.zero_le _, Nat.zero_le _⟩) hP (hD _ rfl) hS 0 13 rfl (fun u_8 H locs hu_8 hP hS => ?_)
        have hP : va_P D vwCl (mdw cI cL b (enc co gu kn fo sp (upd ki (ix x0) (nI i)) pl ea to qu) fd mo1 (enc co gu kn fo sp ki pl ea to qu) b1 tp tm so bg te wd va gd bo sz sh le im bf ik) H := hP
        refine lv_aload_n hx hb dX6_kind_57 rfl (lv_at hl 0 rfl) ?_
        refine lv_iload_n hx hb dX6_kind_58 rfl (lv_at hl 1 rfl) ?_
        refine lv_iload_n hx hb dX6_kind_59 rfl (lv_at hl 2 rfl) ?_
        refine callMi (va_runV (As := [.int x0, .int x1]) (rest := []) ⟨hx, hb, hml, hown, hts⟩ (k_X6_easeBehind l D cI cL cS b co gu kn fo sp (upd ki (ix x0) (nI i)) pl ea to qu fd mo1 b1 tp tm so bg te wd va gd bo sz sh le im bf ik co gu kn fo sp ki pl ea to qu x0 x1 (va_DT (hD _ rfl) rfl) ((ok_kind (σ := (co, gu, kn, fo, sp, ki, pl, ea, to, qu)) (w := whC gu pl) ⟨ok, oe⟩ x0 (i := i) (by omega)).1.cC) ((ok_kind (σ := (co, gu, kn, fo, sp, ki, pl, ea, to, qu)) (w := whC gu pl) ⟨ok, oe⟩ x0 (i := i) (by omega)).2) h8 (wi_in hn (by decide) (by decide))) (cwV 2 hts gX6_kind_X6_easeBehind rfl rfl rfl (by decide +kernel) ⟨Nat.le_of_ble_eq_true rfl, Nat.le_of_ble_eq_true rfl⟩) ⟨PcR_fb, va_recv hK hP (ci := 4) (q0 := 0) rfl rfl, PcR_pre hP hK⟩ rfl rfl hl.1 rfl (lv_room (Nat.le_of_ble_eq_true rfl)) dX6_kind_60 ⟨Nat.zero_le _, Nat.zero_le _⟩) hP (hD _ rfl) hS 0 13 rfl (fun r_11 u_10 H locs hu_10 hP hS => ?_)
        obtain ⟨mo_12, rfl⟩ : ∃ z, z = u_10 := ⟨_, rfl⟩
        have hu_10 : r_11 = sEa (sPass (ix x1) (co, gu, kn, fo, sp, upd ki (ix x0) (nI i), pl, ea, to, qu)) (ix x0) := hu_10
        subst hu_10
        have hP : va_P D vwCl (mdw cI cL b (enc co gu kn fo sp ki pl ea to qu) fd mo_12 (enc co gu kn fo sp ki pl ea to qu) b1 tp tm so bg te wd va gd bo sz sh le im bf ik) H := hP
        refine lv_istore (lv' := [(6, .int (sEa (sPass (ix x1) (co, gu, kn, fo, sp, upd ki (ix x0) (nI i), pl, ea, to, qu)) (ix x0))), (0, .ref (b 0)), (1, .int x0), (2, .int x1), (3, .int bb), (4, .int mm), (5, .int (nI i))]) hx hb dX6_kind_63 hl (by decide) rfl (fun ls hl => ?_)
        refine lv_iload_n hx hb dX6_kind_65 rfl (lv_at hl 4 rfl) ?_
        refine jn (fun v_13 : Int32 => v_13 = (if bb < 0 then 1 else (if (sEa (sPass (ix x1) (co, gu, kn, fo, sp, upd ki (ix x0) (nI i), pl, ea, to, qu)) (ix x0)) ≤ mm then 0 else 1) : Int32)) (fun v_13 => F0 m 81 ls [.int v_13]) (fun Jv_13 => ?_) (fun v_13 ev_13 => ?_)
        · skip
          refine lv_if_lt (tgt := 76) hx hb dX6_kind_66 (by decide) (fun c_14 => ?_) (fun c_14 => ?_)
          · skip
            refine lv_iconst (v := 1) hx hb dX6_kind_76 (by decide) ?_
            refine lv_goto (tgt := 81) hx hb dX6_kind_77 (by decide) ?_
            exact Jv_13 _ (by rw [if_pos c_14])
          · skip
            refine lv_iload hx hb dX6_kind_69 (lv_at hl 0 rfl) ?_
            refine lv_iload hx hb dX6_kind_71 (lv_at hl 5 rfl) ?_
            refine lv_icmp_le (tgt := 80) hx hb dX6_kind_73 (by decide) (fun c_15 => ?_) (fun c_15 => ?_)
            · skip
              refine lv_iconst (v := 0) hx hb dX6_kind_80 (by decide) ?_
              exact Jv_13 _ (by rw [if_neg c_14, if_pos c_15])
            · skip
              refine lv_iconst (v := 1) hx hb dX6_kind_76 (by decide) ?_
              refine lv_goto (tgt := 81) hx hb dX6_kind_77 (by decide) ?_
              exact Jv_13 _ (by rw [if_neg c_14, if_neg c_15])
        subst ev_13
        refine lv_istore (lv' := [(7, .int (if bb < 0 then 1 else (if (sEa (sPass (ix x1) (co, gu, kn, fo, sp, upd ki (ix x0) (nI i), pl, ea, to, qu)) (ix x0)) ≤ mm then 0 else 1) : Int32)), (6, .int (sEa (sPass (ix x1) (co, gu, kn, fo, sp, upd ki (ix x0) (nI i), pl, ea, to, qu)) (ix x0))), (0, .ref (b 0)), (1, .int x0), (2, .int x1), (3, .int bb), (4, .int mm), (5, .int (nI i))]) hx hb dX6_kind_81 hl (by decide) rfl (fun ls hl => ?_)
        refine lv_iload hx hb dX6_kind_83 (lv_at hl 0 rfl) ?_
        refine jn (fun v_16 : Int32 => v_16 = (if (if bb < 0 then 1 else (if (sEa (sPass (ix x1) (co, gu, kn, fo, sp, upd ki (ix x0) (nI i), pl, ea, to, qu)) (ix x0)) ≤ mm then 0 else 1) : Int32) = 0 then bb else nI i : Int32)) (fun v_16 => F0 m 94 ls [.int v_16]) (fun Jv_16 => ?_) (fun v_16 ev_16 => ?_)
        · skip
          refine lv_if_eq (tgt := 93) hx hb dX6_kind_85 (by decide) (fun c_17 => ?_) (fun c_17 => ?_)
          · skip
            refine lv_iload_n hx hb dX6_kind_93 rfl (lv_at hl 5 rfl) ?_
            exact Jv_16 _ (by rw [if_pos c_17])
          · skip
            refine lv_iload hx hb dX6_kind_88 (lv_at hl 7 rfl) ?_
            refine lv_goto (tgt := 94) hx hb dX6_kind_90 (by decide) ?_
            exact Jv_16 _ (by rw [if_neg c_17])
        subst ev_16
        refine lv_istore_n (lv' := [(3, .int (if (if bb < 0 then 1 else (if (sEa (sPass (ix x1) (co, gu, kn, fo, sp, upd ki (ix x0) (nI i), pl, ea, to, qu)) (ix x0)) ≤ mm then 0 else 1) : Int32) = 0 then bb else nI i : Int32)), (7, .int (if bb < 0 then 1 else (if (sEa (sPass (ix x1) (co, gu, kn, fo, sp, upd ki (ix x0) (nI i), pl, ea, to, qu)) (ix x0)) ≤ mm then 0 else 1) : Int32)), (6, .int (sEa (sPass (ix x1) (co, gu, kn, fo, sp, upd ki (ix x0) (nI i), pl, ea, to, qu)) (ix x0))), (0, .ref (b 0)), (1, .int x0), (2, .int x1), (4, .int mm), (5, .int (nI i))]) hx hb dX6_kind_94 rfl hl (by decide) rfl (fun ls hl => ?_)
        refine lv_iload hx hb dX6_kind_95 (lv_at hl 1 rfl) ?_
        refine jn (fun v_18 : Int32 => v_18 = (if (if bb < 0 then 1 else (if (sEa (sPass (ix x1) (co, gu, kn, fo, sp, upd ki (ix x0) (nI i), pl, ea, to, qu)) (ix x0)) ≤ mm then 0 else 1) : Int32) = 0 then mm else (sEa (sPass (ix x1) (co, gu, kn, fo, sp, upd ki (ix x0) (nI i), pl, ea, to, qu)) (ix x0)) : Int32)) (fun v_18 => F0 m 107 ls [.int v_18]) (fun Jv_18 => ?_) (fun v_18 ev_18 => ?_)
        · skip
          refine lv_if_eq (tgt := 105) hx hb dX6_kind_97 (by decide) (fun c_19 => ?_) (fun c_19 => ?_)
          · skip
            refine lv_iload hx hb dX6_kind_105 (lv_at hl 6 rfl) ?_
            exact Jv_18 _ (by rw [if_pos c_19])
          · skip
            refine lv_iload hx hb dX6_kind_100 (lv_at hl 2 rfl) ?_
            refine lv_goto (tgt := 107) hx hb dX6_kind_102 (by decide) ?_
            exact Jv_18 _ (by rw [if_neg c_19])
        subst ev_18
        refine lv_istore (lv' := [(4, .int (if (if bb < 0 then 1 else (if (sEa (sPass (ix x1) (co, gu, kn, fo, sp, upd ki (ix x0) (nI i), pl, ea, to, qu)) (ix x0)) ≤ mm then 0 else 1) : Int32) = 0 then mm else (sEa (sPass (ix x1) (co, gu, kn, fo, sp, upd ki (ix x0) (nI i), pl, ea, to, qu)) (ix x0)) : Int32)), (3, .int (if (if bb < 0 then 1 else (if (sEa (sPass (ix x1) (co, gu, kn, fo, sp, upd ki (ix x0) (nI i), pl, ea, to, qu)) (ix x0)) ≤ mm then 0 else 1) : Int32) = 0 then bb else nI i : Int32)), (7, .int (if bb < 0 then 1 else (if (sEa (sPass (ix x1) (co, gu, kn, fo, sp, upd ki (ix x0) (nI i), pl, ea, to, qu)) (ix x0)) ≤ mm then 0 else 1) : Int32)), (6, .int (sEa (sPass (ix x1) (co, gu, kn, fo, sp, upd ki (ix x0) (nI i), pl, ea, to, qu)) (ix x0))), (0, .ref (b 0)), (1, .int x0), (2, .int x1), (5, .int (nI i))]) hx hb dX6_kind_107 hl (by decide) rfl (fun ls hl => ?_)
        refine lv_iinc (v := nI (i + 1)) (lv' := [(5, .int (nI (i + 1))), (4, .int (if (if bb < 0 then 1 else (if (sEa (sPass (ix x1) (co, gu, kn, fo, sp, upd ki (ix x0) (nI i), pl, ea, to, qu)) (ix x0)) ≤ mm then 0 else 1) : Int32) = 0 then mm else (sEa (sPass (ix x1) (co, gu, kn, fo, sp, upd ki (ix x0) (nI i), pl, ea, to, qu)) (ix x0)) : Int32)), (3, .int (if (if bb < 0 then 1 else (if (sEa (sPass (ix x1) (co, gu, kn, fo, sp, upd ki (ix x0) (nI i), pl, ea, to, qu)) (ix x0)) ≤ mm then 0 else 1) : Int32) = 0 then bb else nI i : Int32)), (7, .int (if bb < 0 then 1 else (if (sEa (sPass (ix x1) (co, gu, kn, fo, sp, upd ki (ix x0) (nI i), pl, ea, to, qu)) (ix x0)) ≤ mm then 0 else 1) : Int32)), (6, .int (sEa (sPass (ix x1) (co, gu, kn, fo, sp, upd ki (ix x0) (nI i), pl, ea, to, qu)) (ix x0))), (0, .ref (b 0)), (1, .int x0), (2, .int x1)]) hx hb dX6_kind_109 hl (k := 7) rfl (nI_1 _) (by decide) rfl (fun ls hl => ?_)
        refine lv_goto (tgt := 42) hx hb dX6_kind_112 (by decide) ?_
        exact ih (n - 1) (by omega) ((i + 1, (if (if bb < 0 then 1 else (if (sEa (sPass (ix x1) (co, gu, kn, fo, sp, upd ki (ix x0) (nI i), pl, ea, to, qu)) (ix x0)) ≤ mm then 0 else 1) : Int32) = 0 then bb else nI i : Int32), (if (if bb < 0 then 1 else (if (sEa (sPass (ix x1) (co, gu, kn, fo, sp, upd ki (ix x0) (nI i), pl, ea, to, qu)) (ix x0)) ≤ mm then 0 else 1) : Int32) = 0 then mm else (sEa (sPass (ix x1) (co, gu, kn, fo, sp, upd ki (ix x0) (nI i), pl, ea, to, qu)) (ix x0)) : Int32), mo_12)) H locs ls ⟨by omega, arg_step hi1 trivial rfl, hP, hS, lv_sub hl [5, 6, 7, 2, 1, 0] rfl⟩
    · skip
      have c_4b := bI_0 c_4
      refine lv_aload_n hx hb dX6_kind_18 rfl (lv_at hl 0 rfl) ?_
      refine lv_ldc hx hb hown k47 dX6_kind_19 ?_
      refine callMi (va_runV (As := [.int (-1000000001)]) (rest := []) ⟨hx, hb, hml, hown, hts⟩ (k_X6_finds l D cI cL cS b co gu kn fo sp ki pl ea to qu fd mo tr b1 tp tm so bg te wd va gd bo sz sh le im bf ik (-1000000001) (va_DT (hD _ rfl) rfl) (vp_in_iff.mpr (by decide))) (cwV 1 hts gX6_kind_X6_finds rfl rfl rfl (by decide +kernel) ⟨Nat.le_of_ble_eq_true rfl, Nat.le_of_ble_eq_true rfl⟩) ⟨PcR_fb, va_recv hK hP (ci := 4) (q0 := 0) rfl rfl, PcR_pre hP hK⟩ rfl rfl hl.1 rfl (lv_room (Nat.le_of_ble_eq_true rfl)) dX6_kind_21 ⟨Nat.zero_le _, Nat.zero_le _⟩) hP (hD _ rfl) hS 0 13 rfl (fun r_21 u_20 H locs hu_20 hP hS => ?_)
      obtain ⟨hu_20r, hu_20⟩ := hu_20
      subst hu_20r
      have hP : va_P D vwCl (mdw cI cL b (enc co gu kn fo sp ki pl ea to qu) (bump fd (-1000000001)) mo tr b1 tp tm so bg te wd va gd bo sz sh le im bf ik) H := hP
      exact W.iret hx hb hr (fun t ht hW => ⟨⟨_, (mo, tr, bump fd (-1000000001)), rfl, (by exact (iF_f (fun h => by first | exact absurd h.1 c_4b | exact absurd c_4b h.1 | exact absurd h.2 c_4b | exact absurd c_4b h.2)).symm), by dsimp only; rw [ht]; exact hP⟩, hS.F ht⟩) hS.2.2 dX6_kind_24

set_option maxRecDepth 100000 in
set_option maxHeartbeats 4000000 in
theorem k_X6_spoon (l : Launch) (D : va_G) (cI cL cS : ClassId) (b : Nat → Nat) (co gu : Int32) (kn fo sp ki pl ea to qu : FI) (fd : FI) (mo : FI) (tr : FI) (b1 : FI) (tp : FI) (tm : Int32) (so : Int32) (bg : Int32) (te : Int32) (wd : Int64) (va : Int32) (gd : Int32) (bo : FI) (sz : FI) (sh : FJ) (le : FJ) (im : FI) (bf : FI) (ik : Int32) (x0 : Int32) (x1 : Int32) (x2 : Int32) (dj : va_D (fun _ => True) (dj0 b 13)) (ok : okT gu kn fo sp (whC gu pl) ki pl) (oe : okE ea to qu) : Met l yX6_spoon wsX6_spoon { frames := 8, cells := 0, slots := 0, locals := 183 } (PcR D vwCl (tyG cI cL cS) [.ref (b 0), .int x0, .int x1, .int x2] (mdw cI cL b (enc co gu kn fo sp ki pl ea to qu) fd mo tr b1 tp tm so bg te wd va gd bo sz sh le im bf ik)) (va_Qi (fun (r : Int32) (u : FI × FI × FI) => (r, u.2.2) = sSpoon (co, gu, kn, fo, sp, ki, pl, ea, to, qu) fd x0 x1 x2) (fun u t => va_P D vwCl (mdw cI cL b (enc co gu kn fo sp ki pl ea to qu) u.2.2 u.1 u.2.1 b1 tp tm so bg te wd va gd bo sz sh le im bf ik) t.heap) (Aof (mdw cI cL b (enc co gu kn fo sp ki pl ea to qu) fd mo tr b1 tp tm so bg te wd va gd bo sz sh le im bf ik))) 0 0 (Aof (mdw cI cL b (enc co gu kn fo sp ki pl ea to qu) fd mo tr b1 tp tm so bg te wd va gd bo sz sh le im bf ik)) := by
  refine Met.ofW (cc := cX6_spoon) (maxL := 6) (ret := (some .int)) (by decide) rfl ?_
  intro p e s m args below meth c s₁ B hml hv
  obtain ⟨rfl, hP, hK⟩ := hv
  have hx := B.exec
  have hb := B.bytes
  have hr := B.returns
  have hts := atoms_spec (ws := wsX6_spoon) B.pre
  have hown : s.vm.findClass RX6 = some m.cls := findClass_of_methodNamed B.named
  have hlocks := B.notSynchronized
  obtain ⟨A, hAe⟩ : ∃ A, A = Aof (mdw cI cL b (enc co gu kn fo sp ki pl ea to qu) fd mo tr b1 tp tm so bg te wd va gd bo sz sh le im bf ik) := ⟨_, rfl⟩
  rw [← hAe]
  have hD : ∀ ws' : va_W, ws'.map Prod.fst = (mdw cI cL b (enc co gu kn fo sp ki pl ea to qu) fd mo tr b1 tp tm so bg te wd va gd bo sz sh le im bf ik).map Prod.fst → va_D A ws' := fun ws' e => by rw [hAe]; exact va_D_adr (va_D_self (va_D_adr dj rfl)) e
  have hS : va_S A s.heap s.heap [] := va_S.rf
  have hP : va_P D vwCl (mdw cI cL b (enc co gu kn fo sp ki pl ea to qu) fd mo tr b1 tp tm so bg te wd va gd bo sz sh le im bf ik) s.heap := hP
  have hl := lv_entry ([.ref (b 0), .int x0, .int x1, .int x2]) (n := 6) (Nat.le_of_ble_eq_true rfl)
  rw [lg_entry_eq]
  generalize (lg_sl ([.ref (b 0), .int x0, .int x1, .int x2]) ++ List.replicate (6 - (lg_sl ([.ref (b 0), .int x0, .int x1, .int x2])).length) Slot.unset).toArray = ls at hl ⊢
  have hl : lv_has ls 6 [(0, .ref (b 0)), (1, .int x0), (2, .int x1), (3, .int x2)] := hl
  have k47 := hts (.constant RX6 47 (-1000000001)) (List.mem_of_getElem? (i := 1) rfl)
  have f19 := hts (.fieldLink RX6 19 "KnivesLaidModel" "tried" "[I") (List.mem_of_getElem? (i := 2) rfl)
  have inX6 : ∀ w ∈ u_ws RX6 TX6 20, w ∈ wsX6_spoon := in_at 104 _ _ rfl
  have k156 := hts (.constant RX6 156 (-1000000004)) (List.mem_of_getElem? (i := 4) rfl)
  have f7 := hts (.fieldLink RX6 7 "KnivesLaidModel" "row" "[I") (List.mem_of_getElem? (i := 3) rfl)
  skip
  refine lv_iload_n hx hb dX6_spoon_0 rfl (lv_at hl 1 rfl) ?_
  refine callE (W.runS (As := [.int x0]) (rest := []) ⟨hx, hb, hml, hown, hts⟩ (k_X6_isPlace l x0) (va_cwS 1 hts gX6_spoon_X6_isPlace rfl rfl rfl (by decide +kernel) ⟨Nat.le_of_ble_eq_true rfl, Nat.le_of_ble_eq_true rfl⟩) ⟨PcP_fb, fun U _ _ => ⟨rfl, trivial⟩⟩ rfl rfl hl.1 rfl (lv_room (Nat.le_of_ble_eq_true rfl)) dX6_spoon_1 ⟨Nat.zero_le _, Nat.zero_le _⟩) ?_
  refine lv_if_eq (tgt := 30) hx hb dX6_spoon_4 (by decide) (fun c_1 => ?_) (fun c_1 => ?_)
  · skip
    have c_1b := bI_0 c_1
    refine lv_aload_n hx hb dX6_spoon_30 rfl (lv_at hl 0 rfl) ?_
    refine lv_ldc hx hb hown k47 dX6_spoon_31 ?_
    refine callMi (va_runV (As := [.int (-1000000001)]) (rest := []) ⟨hx, hb, hml, hown, hts⟩ (k_X6_finds l D cI cL cS b co gu kn fo sp ki pl ea to qu fd mo tr b1 tp tm so bg te wd va gd bo sz sh le im bf ik (-1000000001) (va_DT (hD _ rfl) rfl) (vp_in_iff.mpr (by decide))) (cwV 1 hts gX6_spoon_X6_finds rfl rfl rfl (by decide +kernel) ⟨Nat.le_of_ble_eq_true rfl, Nat.le_of_ble_eq_true rfl⟩) ⟨PcR_fb, va_recv hK hP (ci := 4) (q0 := 0) rfl rfl, PcR_pre hP hK⟩ rfl rfl hl.1 rfl (lv_room (Nat.le_of_ble_eq_true rfl)) dX6_spoon_33 ⟨Nat.zero_le _, Nat.zero_le _⟩) hP (hD _ rfl) hS 0 13 rfl (fun r_3 u_2 H locs hu_2 hP hS => ?_)
    obtain ⟨hu_2r, hu_2⟩ := hu_2
    subst hu_2r
    have hP : va_P D vwCl (mdw cI cL b (enc co gu kn fo sp ki pl ea to qu) (bump fd (-1000000001)) mo tr b1 tp tm so bg te wd va gd bo sz sh le im bf ik) H := hP
    exact W.iret hx hb hr (fun t ht hW => ⟨⟨_, (mo, tr, bump fd (-1000000001)), rfl, (by exact (iF_f (fun h => by first | exact absurd h.1 c_1b | exact absurd c_1b h.1 | exact absurd h.2.1 c_1b | exact absurd c_1b h.2.1 | exact absurd h.2.2 c_1b | exact absurd c_1b h.2.2)).symm), by dsimp only; rw [ht]; exact hP⟩, hS.F ht⟩) hS.2.2 dX6_spoon_36
  · skip
    have c_1b := bI_n c_1
    have h1n := c_1b
    refine lv_iload_n hx hb dX6_spoon_7 rfl (lv_at hl 2 rfl) ?_
    refine lv_iconst (v := 1) hx hb dX6_spoon_8 (by decide) ?_
    refine lv_bipush (v := 40) hx hb dX6_spoon_9 (by decide) ?_
    refine callE (W.runS (As := [.int x1, .int 1, .int 40]) (rest := []) ⟨hx, hb, hml, hown, hts⟩ (k_X6_in l x1 1 40) (va_cwS 3 hts gX6_spoon_X6_in rfl rfl rfl (by decide +kernel) ⟨Nat.le_of_ble_eq_true rfl, Nat.le_of_ble_eq_true rfl⟩) ⟨PcP_fb, fun U _ _ => ⟨rfl, trivial⟩⟩ rfl rfl hl.1 rfl (lv_room (Nat.le_of_ble_eq_true rfl)) dX6_spoon_11 ⟨Nat.zero_le _, Nat.zero_le _⟩) ?_
    refine lv_if_eq (tgt := 30) hx hb dX6_spoon_14 (by decide) (fun c_4 => ?_) (fun c_4 => ?_)
    · skip
      have c_4b := bI_0 c_4
      refine lv_aload_n hx hb dX6_spoon_30 rfl (lv_at hl 0 rfl) ?_
      refine lv_ldc hx hb hown k47 dX6_spoon_31 ?_
      refine callMi (va_runV (As := [.int (-1000000001)]) (rest := []) ⟨hx, hb, hml, hown, hts⟩ (k_X6_finds l D cI cL cS b co gu kn fo sp ki pl ea to qu fd mo tr b1 tp tm so bg te wd va gd bo sz sh le im bf ik (-1000000001) (va_DT (hD _ rfl) rfl) (vp_in_iff.mpr (by decide))) (cwV 1 hts gX6_spoon_X6_finds rfl rfl rfl (by decide +kernel) ⟨Nat.le_of_ble_eq_true rfl, Nat.le_of_ble_eq_true rfl⟩) ⟨PcR_fb, va_recv hK hP (ci := 4) (q0 := 0) rfl rfl, PcR_pre hP hK⟩ rfl rfl hl.1 rfl (lv_room (Nat.le_of_ble_eq_true rfl)) dX6_spoon_33 ⟨Nat.zero_le _, Nat.zero_le _⟩) hP (hD _ rfl) hS 0 13 rfl (fun r_6 u_5 H locs hu_5 hP hS => ?_)
      obtain ⟨hu_5r, hu_5⟩ := hu_5
      subst hu_5r
      have hP : va_P D vwCl (mdw cI cL b (enc co gu kn fo sp ki pl ea to qu) (bump fd (-1000000001)) mo tr b1 tp tm so bg te wd va gd bo sz sh le im bf ik) H := hP
      exact W.iret hx hb hr (fun t ht hW => ⟨⟨_, (mo, tr, bump fd (-1000000001)), rfl, (by exact (iF_f (fun h => by first | exact absurd h.1 c_4b | exact absurd c_4b h.1 | exact absurd h.2.1 c_4b | exact absurd c_4b h.2.1 | exact absurd h.2.2 c_4b | exact absurd c_4b h.2.2)).symm), by dsimp only; rw [ht]; exact hP⟩, hS.F ht⟩) hS.2.2 dX6_spoon_36
    · skip
      have c_4b := bI_n c_4
      have hn := c_4b
      refine lv_iload_n hx hb dX6_spoon_17 rfl (lv_at hl 3 rfl) ?_
      refine lv_sipush (v := (-999)) hx hb dX6_spoon_18 (by decide) ?_
      refine lv_sipush (v := 999) hx hb dX6_spoon_21 (by decide) ?_
      refine callE (W.runS (As := [.int x2, .int (-999), .int 999]) (rest := []) ⟨hx, hb, hml, hown, hts⟩ (k_X6_in l x2 (-999) 999) (va_cwS 3 hts gX6_spoon_X6_in rfl rfl rfl (by decide +kernel) ⟨Nat.le_of_ble_eq_true rfl, Nat.le_of_ble_eq_true rfl⟩) ⟨PcP_fb, fun U _ _ => ⟨rfl, trivial⟩⟩ rfl rfl hl.1 rfl (lv_room (Nat.le_of_ble_eq_true rfl)) dX6_spoon_24 ⟨Nat.zero_le _, Nat.zero_le _⟩) ?_
      refine lv_if_ne (tgt := 37) hx hb dX6_spoon_27 (by decide) (fun c_7 => ?_) (fun c_7 => ?_)
      · skip
        have c_7b := bI_n c_7
        have hcc : vp_in x0 10 ∧ c40 x1 ∧ (¬ x2 < -999 ∧ ¬ 999 < x2) := ⟨h1n, hn, c_7b⟩
        refine lv_aload_n hx hb dX6_spoon_37 rfl (lv_at hl 0 rfl) ?_
        refine lv_iconst (v := 1) hx hb dX6_spoon_38 (by decide) ?_
        refine lv_aload_n hx hb dX6_spoon_39 rfl (lv_at hl 0 rfl) ?_
        refine va_get (ci := 4) (v := .ref (b 4)) (C := RX6) (T := TX6) (N := 20) hx hb hts inX6 hown hK hP 0 rfl rfl 3 (by decide) f19 (fun _ h9 => h9) rfl dX6_spoon_40 ?_
        refine callMv (va_runV (As := [.int 1, .ref (b 4)]) (rest := []) ⟨hx, hb, hml, hown, hts⟩ (k_X6_moveAll_tr1 l D cI cL cS b co gu kn fo sp ki pl ea to qu fd mo tr b1 tp tm so bg te wd va gd bo sz sh le im bf ik (va_DT (hD _ rfl) rfl)) (cwV 2 hts gX6_spoon_X6_moveAll rfl rfl rfl (by decide +kernel) ⟨Nat.le_of_ble_eq_true rfl, Nat.le_of_ble_eq_true rfl⟩) ⟨PcR_fb, va_recv hK hP (ci := 4) (q0 := 0) rfl rfl, PcR_pre hP hK⟩ rfl rfl hl.1 rfl (lv_room (Nat.le_of_ble_eq_true rfl)) dX6_spoon_43 ⟨Nat.zero_le _, Nat.zero_le _⟩) hP (hD _ rfl) hS 0 13 rfl (fun u_8 H locs hu_8 hP hS => ?_)
        have hP : va_P D vwCl (mdw cI cL b (enc co gu kn fo sp ki pl ea to qu) fd mo (enc co gu kn fo sp ki pl ea to qu) b1 tp tm so bg te wd va gd bo sz sh le im bf ik) H := hP
        refine lv_bipush (v := 10) hx hb dX6_spoon_46 (by decide) ?_
        refine lv_istore (lv' := [(4, .int 10), (0, .ref (b 0)), (1, .int x0), (2, .int x1), (3, .int x2)]) hx hb dX6_spoon_48 hl (by decide) rfl (fun ls hl => ?_)
        refine lv_iconst (v := 0) hx hb dX6_spoon_50 (by decide) ?_
        refine lv_istore (lv' := [(5, .int 0), (4, .int 10), (0, .ref (b 0)), (1, .int x0), (2, .int x1), (3, .int x2)]) hx hb dX6_spoon_51 hl (by decide) rfl (fun ls hl => ?_)
        refine lpW (fun n (u : Nat × Int32 × FI) H locs ls => (u.1 ≤ 10) ∧ (n = u.1) ∧ ((u.2.1 = 0 ∧ sSeekD (pSpoon (co, gu, kn, fo, sp, ki, pl, ea, to, qu) x0 x1 x2) 10 = sSeekD (pSpoon (co, gu, kn, fo, sp, ki, pl, ea, to, qu) x0 x1 x2) u.1) ∨ (u.2.1 = 1 ∧ sSeekD (pSpoon (co, gu, kn, fo, sp, ki, pl, ea, to, qu) x0 x1 x2) 10 = nI u.1)) ∧ va_P D vwCl (mdw cI cL b (enc co gu kn fo sp ki pl ea to qu) fd u.2.2 (enc co gu kn fo sp ki pl ea to qu) b1 tp tm so bg te wd va gd bo sz sh le im bf ik) H ∧ va_S A s.heap H locs ∧ lv_has ls 6 [(0, .ref (b 0)), (1, .int x0), (2, .int x1), (3, .int x2), (4, .int (nI u.1)), (5, .int u.2.1)]) (10) ((10, 0, mo)) ⟨by omega, rfl, Or.inl ⟨rfl, rfl⟩, hP, hS, lv_sub hl [2, 3, 4, 5, 1, 0] rfl⟩ (fun n ih u H locs ls hI => ?_)
        obtain ⟨i, zz, mo1⟩ := u
        obtain ⟨hi0, hi1, hi2, hP, hS, hl⟩ := hI
        have hi0 : i ≤ 10 := hi0
        have hi1 : n = i := hi1
        have hi2 : (zz = 0 ∧ sSeekD (pSpoon (co, gu, kn, fo, sp, ki, pl, ea, to, qu) x0 x1 x2) 10 = sSeekD (pSpoon (co, gu, kn, fo, sp, ki, pl, ea, to, qu) x0 x1 x2) i) ∨ (zz = 1 ∧ sSeekD (pSpoon (co, gu, kn, fo, sp, ki, pl, ea, to, qu) x0 x1 x2) 10 = nI i) := hi2
        have hl : lv_has ls 6 [(0, .ref (b 0)), (1, .int x0), (2, .int x1), (3, .int x2), (4, .int (nI i)), (5, .int zz)] := hl
        have hP : va_P D vwCl (mdw cI cL b (enc co gu kn fo sp ki pl ea to qu) fd mo1 (enc co gu kn fo sp ki pl ea to qu) b1 tp tm so bg te wd va gd bo sz sh le im bf ik) H := hP
        refine lv_iload hx hb dX6_spoon_53 (lv_at hl 4 rfl) ?_
        refine lv_if_le (tgt := 100) hx hb dX6_spoon_55 (by decide) (fun c_10 => ?_) (fun c_10 => ?_)
        · skip
          have c_10n := (cmp_le (a := i) (b := 0) rfl rfl (by omega) (by omega)).mp c_10
          refine lv_iload hx hb dX6_spoon_100 (lv_at hl 5 rfl) ?_
          refine lv_if_eq (tgt := 110) hx hb dX6_spoon_102 (by decide) (fun c_11 => ?_) (fun c_11 => ?_)
          · skip
            refine lv_aload_n hx hb dX6_spoon_110 rfl (lv_at hl 0 rfl) ?_
            refine lv_ldc hx hb hown k156 dX6_spoon_111 ?_
            refine callMi (va_runV (As := [.int (-1000000004)]) (rest := []) ⟨hx, hb, hml, hown, hts⟩ (k_X6_finds l D cI cL cS b co gu kn fo sp ki pl ea to qu fd mo1 (enc co gu kn fo sp ki pl ea to qu) b1 tp tm so bg te wd va gd bo sz sh le im bf ik (-1000000004) (va_DT (hD _ rfl) rfl) (vp_in_iff.mpr (by decide))) (cwV 1 hts gX6_spoon_X6_finds rfl rfl rfl (by decide +kernel) ⟨Nat.le_of_ble_eq_true rfl, Nat.le_of_ble_eq_true rfl⟩) ⟨PcR_fb, va_recv hK hP (ci := 4) (q0 := 0) rfl rfl, PcR_pre hP hK⟩ rfl rfl hl.1 rfl (lv_room (Nat.le_of_ble_eq_true rfl)) dX6_spoon_113 ⟨Nat.zero_le _, Nat.zero_le _⟩) hP (hD _ rfl) hS 0 13 rfl (fun r_13 u_12 H locs hu_12 hP hS => ?_)
            obtain ⟨hu_12r, hu_12⟩ := hu_12
            subst hu_12r
            have hP : va_P D vwCl (mdw cI cL b (enc co gu kn fo sp ki pl ea to qu) (bump fd (-1000000004)) mo1 (enc co gu kn fo sp ki pl ea to qu) b1 tp tm so bg te wd va gd bo sz sh le im bf ik) H := hP
            exact W.iret hx hb hr (fun t ht hW => ⟨⟨_, (mo1, enc co gu kn fo sp ki pl ea to qu, bump fd (-1000000004)), rfl, (by unfold sSpoon; rw [iF_t hcc]; exact sp_no (P := (pSpoon (co, gu, kn, fo, sp, ki, pl, ea, to, qu) x0 x1 x2)) hi2 (by omega) c_11), by dsimp only; rw [ht]; exact hP⟩, hS.F ht⟩) hS.2.2 dX6_spoon_116
          · skip
            refine lv_iload hx hb dX6_spoon_105 (lv_at hl 4 rfl) ?_
            refine lv_goto (tgt := 116) hx hb dX6_spoon_107 (by decide) ?_
            exact W.iret hx hb hr (fun t ht hW => ⟨⟨_, (mo1, enc co gu kn fo sp ki pl ea to qu, fd), rfl, (by unfold sSpoon; rw [iF_t hcc]; exact sp_yes (P := (pSpoon (co, gu, kn, fo, sp, ki, pl, ea, to, qu) x0 x1 x2)) hi2 (by omega) c_11), by dsimp only; rw [ht]; exact hP⟩, hS.F ht⟩) hS.2.2 dX6_spoon_116
        · skip
          have c_10n := mt (cmp_le (a := i) (b := 0) rfl rfl (by omega) (by omega)).mpr c_10
          refine lv_iload hx hb dX6_spoon_58 (lv_at hl 5 rfl) ?_
          refine lv_if_ne (tgt := 100) hx hb dX6_spoon_60 (by decide) (fun c_14 => ?_) (fun c_14 => ?_)
          · skip
            refine lv_iload hx hb dX6_spoon_100 (lv_at hl 5 rfl) ?_
            refine lv_if_eq (tgt := 110) hx hb dX6_spoon_102 (by decide) (fun c_15 => ?_) (fun c_15 => ?_)
            · skip
              exact absurd c_15 c_14
            · skip
              refine lv_iload hx hb dX6_spoon_105 (lv_at hl 4 rfl) ?_
              refine lv_goto (tgt := 116) hx hb dX6_spoon_107 (by decide) ?_
              exact W.iret hx hb hr (fun t ht hW => ⟨⟨_, (mo1, enc co gu kn fo sp ki pl ea to qu, fd), rfl, (by unfold sSpoon; rw [iF_t hcc]; exact sp_yes (P := (pSpoon (co, gu, kn, fo, sp, ki, pl, ea, to, qu) x0 x1 x2)) hi2 (by omega) c_15), by dsimp only; rw [ht]; exact hP⟩, hS.F ht⟩) hS.2.2 dX6_spoon_116
          · skip
            obtain ⟨k, rfl⟩ : ∃ k, i = k + 1 := ⟨i - 1, by omega⟩
            have hl : lv_has ls 6 [(0, .ref (b 0)), (1, .int x0), (2, .int x1), (3, .int x2), (4, .int (nI (k + 1))), (5, .int zz)] := hl
            refine lv_iinc (v := nI k) (lv' := [(4, .int (nI k)), (0, .ref (b 0)), (1, .int x0), (2, .int x1), (3, .int x2), (5, .int zz)]) hx hb dX6_spoon_63 hl (k := 4) rfl (pk_m1 _) (by decide) rfl (fun ls hl => ?_)
            refine lv_aload_n hx hb dX6_spoon_66 rfl (lv_at hl 1 rfl) ?_
            refine va_get (ci := 4) (v := .ref (b 1)) (C := RX6) (T := TX6) (N := 20) hx hb hts inX6 hown hK hP 0 rfl rfl 0 (by decide) f7 (fun _ h9 => h9) rfl dX6_spoon_67 ?_
            refine lv_iconst (v := 2) hx hb dX6_spoon_70 (by decide) ?_
            refine lv_iconst (v := 3) hx hb dX6_spoon_71 (by decide) ?_
            refine lv_iload_n hx hb dX6_spoon_72 rfl (lv_at hl 2 rfl) ?_
            refine lv_imul hx hb dX6_spoon_73 ?_
            refine lv_iadd hx hb dX6_spoon_74 ?_
            refine lv_iconst (v := 2) hx hb dX6_spoon_75 (by decide) ?_
            refine lv_iadd hx hb dX6_spoon_76 ?_
            refine lv_iload hx hb dX6_spoon_77 (lv_at hl 0 rfl) ?_
            refine va_iast hx hb hK hP (hD _ rfl) hS 1 0 rfl rfl ((ixp h1n (vp_in_iff.mpr (by decide))).2) dX6_spoon_79 (fun H locs hP _ hS => ?_)
            have hP : va_P D vwCl (mdw cI cL b (enc co gu kn fo (upd sp (ix x0) (nI k)) ki pl ea to qu) fd mo1 (enc co gu kn fo sp ki pl ea to qu) b1 tp tm so bg te wd va gd bo sz sh le im bf ik) H := by rw [← enc_q2 h1n]; exact hP
            refine lv_aload_n hx hb dX6_spoon_80 rfl (lv_at hl 1 rfl) ?_
            refine lv_iload_n hx hb dX6_spoon_81 rfl (lv_at hl 3 rfl) ?_
            refine lv_iconst (v := 2) hx hb dX6_spoon_82 (by decide) ?_
            refine callMi (va_runV (As := [.int x1, .int 2]) (rest := []) ⟨hx, hb, hml, hown, hts⟩ (k_X6_allBehind2 l D cI cL cS b co gu kn fo (upd sp (ix x0) (nI k)) ki pl ea to qu fd mo1 b1 tp tm so bg te wd va gd bo sz sh le im bf ik co gu kn fo sp ki pl ea to qu x1 (va_DT (hD _ rfl) rfl) ((ok_spoon (σ := (co, gu, kn, fo, sp, ki, pl, ea, to, qu)) (w := whC gu pl) ⟨ok, oe⟩ x0 (i := k) (by omega)).1.cC) ((ok_spoon (σ := (co, gu, kn, fo, sp, ki, pl, ea, to, qu)) (w := whC gu pl) ⟨ok, oe⟩ x0 (i := k) (by omega)).2) (wi_in hn (by decide) (by decide))) (cwV 2 hts gX6_spoon_X6_allBehind rfl rfl rfl (by decide +kernel) ⟨Nat.le_of_ble_eq_true rfl, Nat.le_of_ble_eq_true rfl⟩) ⟨PcR_fb, va_recv hK hP (ci := 4) (q0 := 0) rfl rfl, PcR_pre hP hK⟩ rfl rfl hl.1 rfl (lv_room (Nat.le_of_ble_eq_true rfl)) dX6_spoon_83 ⟨Nat.zero_le _, Nat.zero_le _⟩) hP (hD _ rfl) hS 0 13 rfl (fun r_17 u_16 H locs hu_16 hP hS => ?_)
            obtain ⟨mo_18, rfl⟩ : ∃ z, z = u_16 := ⟨_, rfl⟩
            have hu_16 : r_17 = sSum (sEa (sPass (ix x1) (co, gu, kn, fo, upd sp (ix x0) (nI k), ki, pl, ea, to, qu))) (ix gu) := hu_16
            subst hu_16
            have hP : va_P D vwCl (mdw cI cL b (enc co gu kn fo sp ki pl ea to qu) fd mo_18 (enc co gu kn fo sp ki pl ea to qu) b1 tp tm so bg te wd va gd bo sz sh le im bf ik) H := hP
            refine lv_iload_n hx hb dX6_spoon_86 rfl (lv_at hl 4 rfl) ?_
            refine jn (fun v_19 : Int32 => v_19 = (if (sSum (sEa (sPass (ix x1) (co, gu, kn, fo, upd sp (ix x0) (nI k), ki, pl, ea, to, qu))) (ix gu)) < x2 then 0 else 1 : Int32)) (fun v_19 => F0 m 95 ls [.int v_19]) (fun Jv_19 => ?_) (fun v_19 ev_19 => ?_)
            · skip
              refine lv_icmp_lt (tgt := 94) hx hb dX6_spoon_87 (by decide) (fun c_20 => ?_) (fun c_20 => ?_)
              · skip
                refine lv_iconst (v := 0) hx hb dX6_spoon_94 (by decide) ?_
                exact Jv_19 _ (by rw [if_pos c_20])
              · skip
                refine lv_iconst (v := 1) hx hb dX6_spoon_90 (by decide) ?_
                refine lv_goto (tgt := 95) hx hb dX6_spoon_91 (by decide) ?_
                exact Jv_19 _ (by rw [if_neg c_20])
            subst ev_19
            refine lv_istore (lv' := [(5, .int (if (sSum (sEa (sPass (ix x1) (co, gu, kn, fo, upd sp (ix x0) (nI k), ki, pl, ea, to, qu))) (ix gu)) < x2 then 0 else 1 : Int32)), (4, .int (nI k)), (0, .ref (b 0)), (1, .int x0), (2, .int x1), (3, .int x2)]) hx hb dX6_spoon_95 hl (by decide) rfl (fun ls hl => ?_)
            refine lv_goto (tgt := 53) hx hb dX6_spoon_97 (by decide) ?_
            exact ih (k) (by omega) ((k, (if (sSum (sEa (sPass (ix x1) (co, gu, kn, fo, upd sp (ix x0) (nI k), ki, pl, ea, to, qu))) (ix gu)) < x2 then 0 else 1 : Int32), mo_18)) H locs ls ⟨by omega, rfl, sp_step (P := (pSpoon (co, gu, kn, fo, sp, ki, pl, ea, to, qu) x0 x1 x2)) hi2 c_14 Iff.rfl, hP, hS, lv_sub hl [2, 3, 4, 5, 1, 0] rfl⟩
      · skip
        have c_7b := bI_0 c_7
        refine lv_aload_n hx hb dX6_spoon_30 rfl (lv_at hl 0 rfl) ?_
        refine lv_ldc hx hb hown k47 dX6_spoon_31 ?_
        refine callMi (va_runV (As := [.int (-1000000001)]) (rest := []) ⟨hx, hb, hml, hown, hts⟩ (k_X6_finds l D cI cL cS b co gu kn fo sp ki pl ea to qu fd mo tr b1 tp tm so bg te wd va gd bo sz sh le im bf ik (-1000000001) (va_DT (hD _ rfl) rfl) (vp_in_iff.mpr (by decide))) (cwV 1 hts gX6_spoon_X6_finds rfl rfl rfl (by decide +kernel) ⟨Nat.le_of_ble_eq_true rfl, Nat.le_of_ble_eq_true rfl⟩) ⟨PcR_fb, va_recv hK hP (ci := 4) (q0 := 0) rfl rfl, PcR_pre hP hK⟩ rfl rfl hl.1 rfl (lv_room (Nat.le_of_ble_eq_true rfl)) dX6_spoon_33 ⟨Nat.zero_le _, Nat.zero_le _⟩) hP (hD _ rfl) hS 0 13 rfl (fun r_22 u_21 H locs hu_21 hP hS => ?_)
        obtain ⟨hu_21r, hu_21⟩ := hu_21
        subst hu_21r
        have hP : va_P D vwCl (mdw cI cL b (enc co gu kn fo sp ki pl ea to qu) (bump fd (-1000000001)) mo tr b1 tp tm so bg te wd va gd bo sz sh le im bf ik) H := hP
        exact W.iret hx hb hr (fun t ht hW => ⟨⟨_, (mo, tr, bump fd (-1000000001)), rfl, (by exact (iF_f (fun h => by first | exact absurd h.1 c_7b | exact absurd c_7b h.1 | exact absurd h.2.1 c_7b | exact absurd c_7b h.2.1 | exact absurd h.2.2 c_7b | exact absurd c_7b h.2.2)).symm), by dsimp only; rw [ht]; exact hP⟩, hS.F ht⟩) hS.2.2 dX6_spoon_36

set_option maxRecDepth 100000 in
set_option maxHeartbeats 4000000 in
theorem k_X6_change (l : Launch) (D : va_G) (cI cL cS : ClassId) (b : Nat → Nat) (co gu : Int32) (kn fo sp ki pl ea to qu : FI) (fd : FI) (mo : FI) (tr : FI) (b1 : FI) (tp : FI) (tm : Int32) (so : Int32) (bg : Int32) (te : Int32) (wd : Int64) (va : Int32) (gd : Int32) (bo : FI) (sz : FI) (sh : FJ) (le : FJ) (im : FI) (bf : FI) (ik : Int32) (x0 : Int32) (dj : va_D (fun _ => True) (dj0 b 13)) (ok : okT gu kn fo sp (whC gu pl) ki pl) (oe : okE ea to qu) : Met l yX6_change wsX6_change { frames := 8, cells := 0, slots := 0, locals := 183 } (PcR D vwCl (tyG cI cL cS) [.ref (b 0), .int x0] (mdw cI cL b (enc co gu kn fo sp ki pl ea to qu) fd mo tr b1 tp tm so bg te wd va gd bo sz sh le im bf ik)) (va_Qi (fun (r : Int32) (u : FI × FI × FI) => (r, u.2.2) = sChange (co, gu, kn, fo, sp, ki, pl, ea, to, qu) fd x0) (fun u t => va_P D vwCl (mdw cI cL b (enc co gu kn fo sp ki pl ea to qu) u.2.2 u.1 u.2.1 b1 tp tm so bg te wd va gd bo sz sh le im bf ik) t.heap) (Aof (mdw cI cL b (enc co gu kn fo sp ki pl ea to qu) fd mo tr b1 tp tm so bg te wd va gd bo sz sh le im bf ik))) 0 0 (Aof (mdw cI cL b (enc co gu kn fo sp ki pl ea to qu) fd mo tr b1 tp tm so bg te wd va gd bo sz sh le im bf ik)) := by
  refine Met.ofW (cc := cX6_change) (maxL := 7) (ret := (some .int)) (by decide) rfl ?_
  intro p e s m args below meth c s₁ B hml hv
  obtain ⟨rfl, hP, hK⟩ := hv
  have hx := B.exec
  have hb := B.bytes
  have hr := B.returns
  have hts := atoms_spec (ws := wsX6_change) B.pre
  have hown : s.vm.findClass RX6 = some m.cls := findClass_of_methodNamed B.named
  have hlocks := B.notSynchronized
  obtain ⟨A, hAe⟩ : ∃ A, A = Aof (mdw cI cL b (enc co gu kn fo sp ki pl ea to qu) fd mo tr b1 tp tm so bg te wd va gd bo sz sh le im bf ik) := ⟨_, rfl⟩
  rw [← hAe]
  have hD : ∀ ws' : va_W, ws'.map Prod.fst = (mdw cI cL b (enc co gu kn fo sp ki pl ea to qu) fd mo tr b1 tp tm so bg te wd va gd bo sz sh le im bf ik).map Prod.fst → va_D A ws' := fun ws' e => by rw [hAe]; exact va_D_adr (va_D_self (va_D_adr dj rfl)) e
  have hS : va_S A s.heap s.heap [] := va_S.rf
  have hP : va_P D vwCl (mdw cI cL b (enc co gu kn fo sp ki pl ea to qu) fd mo tr b1 tp tm so bg te wd va gd bo sz sh le im bf ik) s.heap := hP
  have hl := lv_entry ([.ref (b 0), .int x0]) (n := 7) (Nat.le_of_ble_eq_true rfl)
  rw [lg_entry_eq]
  generalize (lg_sl ([.ref (b 0), .int x0]) ++ List.replicate (7 - (lg_sl ([.ref (b 0), .int x0])).length) Slot.unset).toArray = ls at hl ⊢
  have hl : lv_has ls 7 [(0, .ref (b 0)), (1, .int x0)] := hl
  have f19 := hts (.fieldLink RX6 19 "KnivesLaidModel" "tried" "[I") (List.mem_of_getElem? (i := 2) rfl)
  have inX6 : ∀ w ∈ u_ws RX6 TX6 20, w ∈ wsX6_change := in_at 105 _ _ rfl
  have f7 := hts (.fieldLink RX6 7 "KnivesLaidModel" "row" "[I") (List.mem_of_getElem? (i := 3) rfl)
  have k156 := hts (.constant RX6 156 (-1000000004)) (List.mem_of_getElem? (i := 4) rfl)
  have k47 := hts (.constant RX6 47 (-1000000001)) (List.mem_of_getElem? (i := 1) rfl)
  skip
  have hgu := gu_of ok.gu
  have hgu8 := hgu.2
  refine lv_iload_n hx hb dX6_change_0 rfl (lv_at hl 1 rfl) ?_
  refine lv_iconst (v := 1) hx hb dX6_change_1 (by decide) ?_
  refine lv_bipush (v := 40) hx hb dX6_change_2 (by decide) ?_
  refine callE (W.runS (As := [.int x0, .int 1, .int 40]) (rest := []) ⟨hx, hb, hml, hown, hts⟩ (k_X6_in l x0 1 40) (va_cwS 3 hts gX6_change_X6_in rfl rfl rfl (by decide +kernel) ⟨Nat.le_of_ble_eq_true rfl, Nat.le_of_ble_eq_true rfl⟩) ⟨PcP_fb, fun U _ _ => ⟨rfl, trivial⟩⟩ rfl rfl hl.1 rfl (lv_room (Nat.le_of_ble_eq_true rfl)) dX6_change_4 ⟨Nat.zero_le _, Nat.zero_le _⟩) ?_
  refine lv_if_ne (tgt := 17) hx hb dX6_change_7 (by decide) (fun c_1 => ?_) (fun c_1 => ?_)
  · skip
    have c_1b := bI_n c_1
    have hn := c_1b
    refine lv_aload_n hx hb dX6_change_17 rfl (lv_at hl 0 rfl) ?_
    refine lv_iconst (v := 1) hx hb dX6_change_18 (by decide) ?_
    refine lv_aload_n hx hb dX6_change_19 rfl (lv_at hl 0 rfl) ?_
    refine va_get (ci := 4) (v := .ref (b 4)) (C := RX6) (T := TX6) (N := 20) hx hb hts inX6 hown hK hP 0 rfl rfl 3 (by decide) f19 (fun _ h9 => h9) rfl dX6_change_20 ?_
    refine callMv (va_runV (As := [.int 1, .ref (b 4)]) (rest := []) ⟨hx, hb, hml, hown, hts⟩ (k_X6_moveAll_tr1 l D cI cL cS b co gu kn fo sp ki pl ea to qu fd mo tr b1 tp tm so bg te wd va gd bo sz sh le im bf ik (va_DT (hD _ rfl) rfl)) (cwV 2 hts gX6_change_X6_moveAll rfl rfl rfl (by decide +kernel) ⟨Nat.le_of_ble_eq_true rfl, Nat.le_of_ble_eq_true rfl⟩) ⟨PcR_fb, va_recv hK hP (ci := 4) (q0 := 0) rfl rfl, PcR_pre hP hK⟩ rfl rfl hl.1 rfl (lv_room (Nat.le_of_ble_eq_true rfl)) dX6_change_23 ⟨Nat.zero_le _, Nat.zero_le _⟩) hP (hD _ rfl) hS 0 13 rfl (fun u_2 H locs hu_2 hP hS => ?_)
    have hP : va_P D vwCl (mdw cI cL b (enc co gu kn fo sp ki pl ea to qu) fd mo (enc co gu kn fo sp ki pl ea to qu) b1 tp tm so bg te wd va gd bo sz sh le im bf ik) H := hP
    refine lv_iconst (v := (-1)) hx hb dX6_change_26 (by decide) ?_
    refine lv_istore_n (lv' := [(2, .int (-1)), (0, .ref (b 0)), (1, .int x0)]) hx hb dX6_change_27 rfl hl (by decide) rfl (fun ls hl => ?_)
    refine lv_aload_n hx hb dX6_change_28 rfl (lv_at hl 1 rfl) ?_
    refine lv_iload_n hx hb dX6_change_29 rfl (lv_at hl 2 rfl) ?_
    refine lv_iconst (v := 4) hx hb dX6_change_30 (by decide) ?_
    refine callMi (va_runV (As := [.int x0, .int 4]) (rest := []) ⟨hx, hb, hml, hown, hts⟩ (k_X6_allBehind4 l D cI cL cS b co gu kn fo sp ki pl ea to qu fd mo b1 tp tm so bg te wd va gd bo sz sh le im bf ik co gu kn fo sp ki pl ea to qu x0 (va_DT (hD _ rfl) rfl) ok oe (wi_in hn (by decide) (by decide))) (cwV 2 hts gX6_change_X6_allBehind rfl rfl rfl (by decide +kernel) ⟨Nat.le_of_ble_eq_true rfl, Nat.le_of_ble_eq_true rfl⟩) ⟨PcR_fb, va_recv hK hP (ci := 4) (q0 := 0) rfl rfl, PcR_pre hP hK⟩ rfl rfl hl.1 rfl (lv_room (Nat.le_of_ble_eq_true rfl)) dX6_change_31 ⟨Nat.zero_le _, Nat.zero_le _⟩) hP (hD _ rfl) hS 0 13 rfl (fun r_5 u_4 H locs hu_4 hP hS => ?_)
    obtain ⟨mo_6, rfl⟩ : ∃ z, z = u_4 := ⟨_, rfl⟩
    have hu_4 : r_5 = sSum (sQu (sPass (ix x0) (co, gu, kn, fo, sp, ki, pl, ea, to, qu))) (ix gu) := hu_4
    subst hu_4
    have hP : va_P D vwCl (mdw cI cL b (enc co gu kn fo sp ki pl ea to qu) fd mo_6 (enc co gu kn fo sp ki pl ea to qu) b1 tp tm so bg te wd va gd bo sz sh le im bf ik) H := hP
    refine lv_istore_n (lv' := [(3, .int (sSum (sQu (sPass (ix x0) (co, gu, kn, fo, sp, ki, pl, ea, to, qu))) (ix gu))), (2, .int (-1)), (0, .ref (b 0)), (1, .int x0)]) hx hb dX6_change_34 rfl hl (by decide) rfl (fun ls hl => ?_)
    refine lv_iconst (v := 0) hx hb dX6_change_35 (by decide) ?_
    refine lv_istore (lv' := [(4, .int 0), (3, .int (sSum (sQu (sPass (ix x0) (co, gu, kn, fo, sp, ki, pl, ea, to, qu))) (ix gu))), (2, .int (-1)), (0, .ref (b 0)), (1, .int x0)]) hx hb dX6_change_36 hl (by decide) rfl (fun ls hl => ?_)
    refine lpW (fun n (u : Nat × Int32 × Int32 × FI) H locs ls => (u.1 + n = ix gu) ∧ ((u.2.1, u.2.2.1) = chOut (fChg (co, gu, kn, fo, sp, ki, pl, ea, to, qu) x0) (ix gu) u.1 ((-1), sSum (sQu (sPass (ix x0) (co, gu, kn, fo, sp, ki, pl, ea, to, qu))) (ix gu))) ∧ va_P D vwCl (mdw cI cL b (enc co gu kn fo sp ki pl ea to qu) fd u.2.2.2 (enc co gu kn fo sp ki pl ea to qu) b1 tp tm so bg te wd va gd bo sz sh le im bf ik) H ∧ va_S A s.heap H locs ∧ lv_has ls 7 [(0, .ref (b 0)), (1, .int x0), (2, .int u.2.1), (3, .int u.2.2.1), (4, .int (nI u.1))]) (ix gu) ((0, (-1), (sSum (sQu (sPass (ix x0) (co, gu, kn, fo, sp, ki, pl, ea, to, qu))) (ix gu)), mo_6)) ⟨by omega, rfl, hP, hS, lv_sub hl [3, 4, 2, 1, 0] rfl⟩ (fun n ih u H locs ls hI => ?_)
    obtain ⟨g, bb, mm, mo1⟩ := u
    obtain ⟨hi0, hi1, hP, hS, hl⟩ := hI
    have hi0 : g + n = ix gu := hi0
    have hi1 : (bb, mm) = chOut (fChg (co, gu, kn, fo, sp, ki, pl, ea, to, qu) x0) (ix gu) g ((-1), sSum (sQu (sPass (ix x0) (co, gu, kn, fo, sp, ki, pl, ea, to, qu))) (ix gu)) := hi1
    have hl : lv_has ls 7 [(0, .ref (b 0)), (1, .int x0), (2, .int bb), (3, .int mm), (4, .int (nI g))] := hl
    have hP : va_P D vwCl (mdw cI cL b (enc co gu kn fo sp ki pl ea to qu) fd mo1 (enc co gu kn fo sp ki pl ea to qu) b1 tp tm so bg te wd va gd bo sz sh le im bf ik) H := hP
    have ihg := ih
    refine lv_iload hx hb dX6_change_38 (lv_at hl 4 rfl) ?_
    refine lv_aload_n hx hb dX6_change_40 rfl (lv_at hl 0 rfl) ?_
    refine va_get (ci := 4) (v := .ref (b 1)) (C := RX6) (T := TX6) (N := 20) hx hb hts inX6 hown hK hP 0 rfl rfl 0 (by decide) f7 (fun _ h9 => h9) rfl dX6_change_41 ?_
    refine lv_iconst (v := 1) hx hb dX6_change_44 (by decide) ?_
    refine va_iald hx hb hK hP 1 0 rfl rfl (vp_in_iff.mpr (by decide)) dX6_change_45 ?_
    refine lv_to (y := gu) rfl ?_
    refine lv_icmp_ge (tgt := 126) hx hb dX6_change_46 (by decide) (fun c_7 => ?_) (fun c_7 => ?_)
    · skip
      have c_7n := (cmp_le (a := ix gu) (b := g) hgu.1 rfl (by omega) (by omega)).mp c_7
      have hrr : rChg (co, gu, kn, fo, sp, ki, pl, ea, to, qu) x0 = bb := congrArg Prod.fst (show chOut (fChg (co, gu, kn, fo, sp, ki, pl, ea, to, qu) x0) (ix gu) (ix gu) ((-1), sSum (sQu (sPass (ix x0) (co, gu, kn, fo, sp, ki, pl, ea, to, qu))) (ix gu)) = (bb, mm) by rw [hi1, show g = ix gu by omega])
      refine lv_iload_n hx hb dX6_change_126 rfl (lv_at hl 2 rfl) ?_
      refine lv_if_ge (tgt := 139) hx hb dX6_change_127 (by decide) (fun c_8 => ?_) (fun c_8 => ?_)
      · skip
        refine lv_iload_n hx hb dX6_change_139 rfl (lv_at hl 2 rfl) ?_
        exact W.iret hx hb hr (fun t ht hW => ⟨⟨_, (mo1, enc co gu kn fo sp ki pl ea to qu, fd), rfl, (by unfold sChange; rw [iF_t hn, iF_f (show ¬ rChg (co, gu, kn, fo, sp, ki, pl, ea, to, qu) x0 < 0 by rw [hrr]; exact Int32.not_lt.mpr c_8), hrr]), by dsimp only; rw [ht]; exact hP⟩, hS.F ht⟩) hS.2.2 dX6_change_140
      · skip
        refine lv_aload_n hx hb dX6_change_130 rfl (lv_at hl 0 rfl) ?_
        refine lv_ldc hx hb hown k156 dX6_change_131 ?_
        refine callMi (va_runV (As := [.int (-1000000004)]) (rest := []) ⟨hx, hb, hml, hown, hts⟩ (k_X6_finds l D cI cL cS b co gu kn fo sp ki pl ea to qu fd mo1 (enc co gu kn fo sp ki pl ea to qu) b1 tp tm so bg te wd va gd bo sz sh le im bf ik (-1000000004) (va_DT (hD _ rfl) rfl) (vp_in_iff.mpr (by decide))) (cwV 1 hts gX6_change_X6_finds rfl rfl rfl (by decide +kernel) ⟨Nat.le_of_ble_eq_true rfl, Nat.le_of_ble_eq_true rfl⟩) ⟨PcR_fb, va_recv hK hP (ci := 4) (q0 := 0) rfl rfl, PcR_pre hP hK⟩ rfl rfl hl.1 rfl (lv_room (Nat.le_of_ble_eq_true rfl)) dX6_change_133 ⟨Nat.zero_le _, Nat.zero_le _⟩) hP (hD _ rfl) hS 0 13 rfl (fun r_10 u_9 H locs hu_9 hP hS => ?_)
        obtain ⟨hu_9r, hu_9⟩ := hu_9
        subst hu_9r
        have hP : va_P D vwCl (mdw cI cL b (enc co gu kn fo sp ki pl ea to qu) (bump fd (-1000000004)) mo1 (enc co gu kn fo sp ki pl ea to qu) b1 tp tm so bg te wd va gd bo sz sh le im bf ik) H := hP
        refine lv_goto (tgt := 140) hx hb dX6_change_136 (by decide) ?_
        exact W.iret hx hb hr (fun t ht hW => ⟨⟨_, (mo1, enc co gu kn fo sp ki pl ea to qu, bump fd (-1000000004)), rfl, (by unfold sChange; rw [iF_t hn, iF_t (show rChg (co, gu, kn, fo, sp, ki, pl, ea, to, qu) x0 < 0 by rw [hrr]; exact Int32.not_le.mp c_8)]), by dsimp only; rw [ht]; exact hP⟩, hS.F ht⟩) hS.2.2 dX6_change_140
    · skip
      have c_7n := mt (cmp_le (a := ix gu) (b := g) hgu.1 rfl (by omega) (by omega)).mpr c_7
      refine lv_iload hx hb dX6_change_49 (lv_at hl 4 rfl) ?_
      refine lv_iconst (v := 1) hx hb dX6_change_51 (by decide) ?_
      refine lv_iadd hx hb dX6_change_52 ?_
      refine lv_to (y := nI (g + 1)) (nI_1 g) ?_
      refine lv_istore (lv' := [(5, .int (nI (g + 1))), (0, .ref (b 0)), (1, .int x0), (2, .int bb), (3, .int mm), (4, .int (nI g))]) hx hb dX6_change_53 hl (by decide) rfl (fun ls hl => ?_)
      obtain ⟨n0, hn0⟩ : ∃ z, z = n := ⟨_, rfl⟩
      refine lpW (fun n (u : Nat × Int32 × Int32 × FI) H locs ls => (g + 1 + u.1 + n = ix gu) ∧ ((u.2.1, u.2.2.1) = chIn (fChg (co, gu, kn, fo, sp, ki, pl, ea, to, qu) x0) g u.1 (chOut (fChg (co, gu, kn, fo, sp, ki, pl, ea, to, qu) x0) (ix gu) g ((-1), sSum (sQu (sPass (ix x0) (co, gu, kn, fo, sp, ki, pl, ea, to, qu))) (ix gu)))) ∧ va_P D vwCl (mdw cI cL b (enc co gu kn fo sp ki pl ea to qu) fd u.2.2.2 (enc co gu kn fo sp ki pl ea to qu) b1 tp tm so bg te wd va gd bo sz sh le im bf ik) H ∧ va_S A s.heap H locs ∧ lv_has ls 7 [(0, .ref (b 0)), (1, .int x0), (2, .int u.2.1), (3, .int u.2.2.1), (4, .int (nI g)), (5, .int (nI (g + 1 + u.1)))]) (ix gu - (g + 1)) ((0, bb, mm, mo1)) ⟨by omega, hi1, hP, hS, lv_sub hl [1, 2, 3, 4, 5, 0] rfl⟩ (fun n ih u H locs ls hI => ?_)
      obtain ⟨kq, bq, mq, mo2⟩ := u
      obtain ⟨hj0, hj1, hP, hS, hl⟩ := hI
      have hj0 : g + 1 + kq + n = ix gu := hj0
      have hj1 : (bq, mq) = chIn (fChg (co, gu, kn, fo, sp, ki, pl, ea, to, qu) x0) g kq (chOut (fChg (co, gu, kn, fo, sp, ki, pl, ea, to, qu) x0) (ix gu) g ((-1), sSum (sQu (sPass (ix x0) (co, gu, kn, fo, sp, ki, pl, ea, to, qu))) (ix gu))) := hj1
      have hl : lv_has ls 7 [(0, .ref (b 0)), (1, .int x0), (2, .int bq), (3, .int mq), (4, .int (nI g)), (5, .int (nI (g + 1 + kq)))] := hl
      have hP : va_P D vwCl (mdw cI cL b (enc co gu kn fo sp ki pl ea to qu) fd mo2 (enc co gu kn fo sp ki pl ea to qu) b1 tp tm so bg te wd va gd bo sz sh le im bf ik) H := hP
      refine lv_iload hx hb dX6_change_55 (lv_at hl 5 rfl) ?_
      refine lv_aload_n hx hb dX6_change_57 rfl (lv_at hl 0 rfl) ?_
      refine va_get (ci := 4) (v := .ref (b 1)) (C := RX6) (T := TX6) (N := 20) hx hb hts inX6 hown hK hP 0 rfl rfl 0 (by decide) f7 (fun _ h9 => h9) rfl dX6_change_58 ?_
      refine lv_iconst (v := 1) hx hb dX6_change_61 (by decide) ?_
      refine va_iald hx hb hK hP 1 0 rfl rfl (vp_in_iff.mpr (by decide)) dX6_change_62 ?_
      refine lv_to (y := gu) rfl ?_
      refine lv_icmp_ge (tgt := 120) hx hb dX6_change_63 (by decide) (fun c_11 => ?_) (fun c_11 => ?_)
      · skip
        have c_11n := (cmp_le (a := ix gu) (b := (g + 1 + kq)) hgu.1 rfl (by omega) (by omega)).mp c_11
        refine lv_iinc (v := nI (g + 1)) (lv' := [(4, .int (nI (g + 1))), (0, .ref (b 0)), (1, .int x0), (2, .int bq), (3, .int mq), (5, .int (nI (g + 1 + kq)))]) hx hb dX6_change_120 hl (k := 4) rfl (nI_1 _) (by decide) rfl (fun ls hl => ?_)
        refine lv_goto (tgt := 38) hx hb dX6_change_123 (by decide) ?_
        exact ihg (n0 - 1) (by omega) ((g + 1, bq, mq, mo2)) H locs ls ⟨by omega, by rw [hj1, show kq = ix gu - (g + 1) by omega]; rfl, hP, hS, lv_sub hl [1, 2, 3, 4, 0] rfl⟩
      · skip
        have c_11n := mt (cmp_le (a := ix gu) (b := (g + 1 + kq)) hgu.1 rfl (by omega) (by omega)).mpr c_11
        have hg1 : vp_in (nI g) (ix gu) := vp_in_nI (by omega) (by omega)
        have hg2 : vp_in (nI (g + 1 + kq)) (ix gu) := vp_in_nI (by omega) (by omega)
        have hne : ¬ nI g = nI (g + 1 + kq) := fun e => by rw [nI_eq (by omega) (by omega)] at e; omega
        have hok := ok_exchT ok hg1 hg2 hne
        refine lv_aload_n hx hb dX6_change_66 rfl (lv_at hl 0 rfl) ?_
        refine lv_iload hx hb dX6_change_67 (lv_at hl 4 rfl) ?_
        refine lv_iload hx hb dX6_change_69 (lv_at hl 5 rfl) ?_
        refine callMv (va_runV (As := [.int (nI g), .int (nI (g + 1 + kq))]) (rest := []) ⟨hx, hb, hml, hown, hts⟩ (k_X6_swaps l D cI cL cS b co gu kn fo sp ki pl ea to qu fd mo2 (enc co gu kn fo sp ki pl ea to qu) b1 tp tm so bg te wd va gd bo sz sh le im bf ik (nI g) (nI (g + 1 + kq)) (va_DT (hD _ rfl) rfl) (in_8 ok.gu hg1) (in_8 ok.gu hg2)) (cwV 2 hts gX6_change_X6_swaps rfl rfl rfl (by decide +kernel) ⟨Nat.le_of_ble_eq_true rfl, Nat.le_of_ble_eq_true rfl⟩) ⟨PcR_fb, va_recv hK hP (ci := 4) (q0 := 0) rfl rfl, PcR_pre hP hK⟩ rfl rfl hl.1 rfl (lv_room (Nat.le_of_ble_eq_true rfl)) dX6_change_71 ⟨Nat.zero_le _, Nat.zero_le _⟩) hP (hD _ rfl) hS 0 13 rfl (fun u_12 H locs hu_12 hP hS => ?_)
        have hP : va_P D vwCl (mdw cI cL b (enc co gu kn fo sp ki (upd (upd pl (ix (nI g)) (pl (ix (nI (g + 1 + kq))))) (ix (nI (g + 1 + kq))) (pl (ix (nI g)))) ea to qu) fd mo2 (enc co gu kn fo sp ki pl ea to qu) b1 tp tm so bg te wd va gd bo sz sh le im bf ik) H := hP
        refine lv_aload_n hx hb dX6_change_74 rfl (lv_at hl 0 rfl) ?_
        refine lv_iload_n hx hb dX6_change_75 rfl (lv_at hl 1 rfl) ?_
        refine lv_iconst (v := 4) hx hb dX6_change_76 (by decide) ?_
        refine callMi (va_runV (As := [.int x0, .int 4]) (rest := []) ⟨hx, hb, hml, hown, hts⟩ (k_X6_allBehind4 l D cI cL cS b co gu kn fo sp ki (upd (upd pl (ix (nI g)) (pl (ix (nI (g + 1 + kq))))) (ix (nI (g + 1 + kq))) (pl (ix (nI g)))) ea to qu fd mo2 b1 tp tm so bg te wd va gd bo sz sh le im bf ik co gu kn fo sp ki pl ea to qu x0 (va_DT (hD _ rfl) rfl) hok.cC oe (wi_in hn (by decide) (by decide))) (cwV 2 hts gX6_change_X6_allBehind rfl rfl rfl (by decide +kernel) ⟨Nat.le_of_ble_eq_true rfl, Nat.le_of_ble_eq_true rfl⟩) ⟨PcR_fb, va_recv hK hP (ci := 4) (q0 := 0) rfl rfl, PcR_pre hP hK⟩ rfl rfl hl.1 rfl (lv_room (Nat.le_of_ble_eq_true rfl)) dX6_change_77 ⟨Nat.zero_le _, Nat.zero_le _⟩) hP (hD _ rfl) hS 0 13 rfl (fun r_15 u_14 H locs hu_14 hP hS => ?_)
        obtain ⟨mo_16, rfl⟩ : ∃ z, z = u_14 := ⟨_, rfl⟩
        have hu_14 : r_15 = sSum (sQu (sPass (ix x0) (co, gu, kn, fo, sp, ki, upd (upd pl (ix (nI g)) (pl (ix (nI (g + 1 + kq))))) (ix (nI (g + 1 + kq))) (pl (ix (nI g))), ea, to, qu))) (ix gu) := hu_14
        subst hu_14
        have hP : va_P D vwCl (mdw cI cL b (enc co gu kn fo sp ki pl ea to qu) fd mo_16 (enc co gu kn fo sp ki pl ea to qu) b1 tp tm so bg te wd va gd bo sz sh le im bf ik) H := hP
        refine lv_istore (lv' := [(6, .int (sSum (sQu (sPass (ix x0) (co, gu, kn, fo, sp, ki, upd (upd pl (ix (nI g)) (pl (ix (nI (g + 1 + kq))))) (ix (nI (g + 1 + kq))) (pl (ix (nI g))), ea, to, qu))) (ix gu))), (0, .ref (b 0)), (1, .int x0), (2, .int bq), (3, .int mq), (4, .int (nI g)), (5, .int (nI (g + 1 + kq)))]) hx hb dX6_change_80 hl (by decide) rfl (fun ls hl => ?_)
        refine lv_iload hx hb dX6_change_82 (lv_at hl 0 rfl) ?_
        refine lv_iload_n hx hb dX6_change_84 rfl (lv_at hl 4 rfl) ?_
        refine jn (fun v_17 : Int32 => v_17 = (if mq ≤ (sSum (sQu (sPass (ix x0) (co, gu, kn, fo, sp, ki, upd (upd pl (ix (nI g)) (pl (ix (nI (g + 1 + kq))))) (ix (nI (g + 1 + kq))) (pl (ix (nI g))), ea, to, qu))) (ix gu)) then bq else ((10 * (nI g)) + (nI (g + 1 + kq))) : Int32)) (fun v_17 => F0 m 100 ls [.int v_17]) (fun Jv_17 => ?_) (fun v_17 ev_17 => ?_)
        · skip
          refine lv_icmp_ge (tgt := 99) hx hb dX6_change_85 (by decide) (fun c_18 => ?_) (fun c_18 => ?_)
          · skip
            refine lv_iload_n hx hb dX6_change_99 rfl (lv_at hl 3 rfl) ?_
            exact Jv_17 _ (by rw [if_pos c_18])
          · skip
            refine lv_bipush (v := 10) hx hb dX6_change_88 (by decide) ?_
            refine lv_iload hx hb dX6_change_90 (lv_at hl 5 rfl) ?_
            refine lv_imul hx hb dX6_change_92 ?_
            refine lv_iload hx hb dX6_change_93 (lv_at hl 6 rfl) ?_
            refine lv_iadd hx hb dX6_change_95 ?_
            refine lv_goto (tgt := 100) hx hb dX6_change_96 (by decide) ?_
            exact Jv_17 _ (by rw [if_neg c_18])
        subst ev_17
        refine lv_istore_n (lv' := [(2, .int (if mq ≤ (sSum (sQu (sPass (ix x0) (co, gu, kn, fo, sp, ki, upd (upd pl (ix (nI g)) (pl (ix (nI (g + 1 + kq))))) (ix (nI (g + 1 + kq))) (pl (ix (nI g))), ea, to, qu))) (ix gu)) then bq else ((10 * (nI g)) + (nI (g + 1 + kq))) : Int32)), (6, .int (sSum (sQu (sPass (ix x0) (co, gu, kn, fo, sp, ki, upd (upd pl (ix (nI g)) (pl (ix (nI (g + 1 + kq))))) (ix (nI (g + 1 + kq))) (pl (ix (nI g))), ea, to, qu))) (ix gu))), (0, .ref (b 0)), (1, .int x0), (3, .int mq), (4, .int (nI g)), (5, .int (nI (g + 1 + kq)))]) hx hb dX6_change_100 rfl hl (by decide) rfl (fun ls hl => ?_)
        refine lv_iload hx hb dX6_change_101 (lv_at hl 1 rfl) ?_
        refine lv_iload_n hx hb dX6_change_103 rfl (lv_at hl 4 rfl) ?_
        refine jn (fun v_19 : Int32 => v_19 = (if mq ≤ (sSum (sQu (sPass (ix x0) (co, gu, kn, fo, sp, ki, upd (upd pl (ix (nI g)) (pl (ix (nI (g + 1 + kq))))) (ix (nI (g + 1 + kq))) (pl (ix (nI g))), ea, to, qu))) (ix gu)) then mq else (sSum (sQu (sPass (ix x0) (co, gu, kn, fo, sp, ki, upd (upd pl (ix (nI g)) (pl (ix (nI (g + 1 + kq))))) (ix (nI (g + 1 + kq))) (pl (ix (nI g))), ea, to, qu))) (ix gu)) : Int32)) (fun v_19 => F0 m 113 ls [.int v_19]) (fun Jv_19 => ?_) (fun v_19 ev_19 => ?_)
        · skip
          refine lv_icmp_ge (tgt := 112) hx hb dX6_change_104 (by decide) (fun c_20 => ?_) (fun c_20 => ?_)
          · skip
            refine lv_iload_n hx hb dX6_change_112 rfl (lv_at hl 4 rfl) ?_
            exact Jv_19 _ (by rw [if_pos c_20])
          · skip
            refine lv_iload hx hb dX6_change_107 (lv_at hl 1 rfl) ?_
            refine lv_goto (tgt := 113) hx hb dX6_change_109 (by decide) ?_
            exact Jv_19 _ (by rw [if_neg c_20])
        subst ev_19
        refine lv_istore_n (lv' := [(3, .int (if mq ≤ (sSum (sQu (sPass (ix x0) (co, gu, kn, fo, sp, ki, upd (upd pl (ix (nI g)) (pl (ix (nI (g + 1 + kq))))) (ix (nI (g + 1 + kq))) (pl (ix (nI g))), ea, to, qu))) (ix gu)) then mq else (sSum (sQu (sPass (ix x0) (co, gu, kn, fo, sp, ki, upd (upd pl (ix (nI g)) (pl (ix (nI (g + 1 + kq))))) (ix (nI (g + 1 + kq))) (pl (ix (nI g))), ea, to, qu))) (ix gu)) : Int32)), (2, .int (if mq ≤ (sSum (sQu (sPass (ix x0) (co, gu, kn, fo, sp, ki, upd (upd pl (ix (nI g)) (pl (ix (nI (g + 1 + kq))))) (ix (nI (g + 1 + kq))) (pl (ix (nI g))), ea, to, qu))) (ix gu)) then bq else ((10 * (nI g)) + (nI (g + 1 + kq))) : Int32)), (6, .int (sSum (sQu (sPass (ix x0) (co, gu, kn, fo, sp, ki, upd (upd pl (ix (nI g)) (pl (ix (nI (g + 1 + kq))))) (ix (nI (g + 1 + kq))) (pl (ix (nI g))), ea, to, qu))) (ix gu))), (0, .ref (b 0)), (1, .int x0), (4, .int (nI g)), (5, .int (nI (g + 1 + kq)))]) hx hb dX6_change_113 rfl hl (by decide) rfl (fun ls hl => ?_)
        refine lv_iinc (v := nI ((g + 1 + kq) + 1)) (lv' := [(5, .int (nI ((g + 1 + kq) + 1))), (3, .int (if mq ≤ (sSum (sQu (sPass (ix x0) (co, gu, kn, fo, sp, ki, upd (upd pl (ix (nI g)) (pl (ix (nI (g + 1 + kq))))) (ix (nI (g + 1 + kq))) (pl (ix (nI g))), ea, to, qu))) (ix gu)) then mq else (sSum (sQu (sPass (ix x0) (co, gu, kn, fo, sp, ki, upd (upd pl (ix (nI g)) (pl (ix (nI (g + 1 + kq))))) (ix (nI (g + 1 + kq))) (pl (ix (nI g))), ea, to, qu))) (ix gu)) : Int32)), (2, .int (if mq ≤ (sSum (sQu (sPass (ix x0) (co, gu, kn, fo, sp, ki, upd (upd pl (ix (nI g)) (pl (ix (nI (g + 1 + kq))))) (ix (nI (g + 1 + kq))) (pl (ix (nI g))), ea, to, qu))) (ix gu)) then bq else ((10 * (nI g)) + (nI (g + 1 + kq))) : Int32)), (6, .int (sSum (sQu (sPass (ix x0) (co, gu, kn, fo, sp, ki, upd (upd pl (ix (nI g)) (pl (ix (nI (g + 1 + kq))))) (ix (nI (g + 1 + kq))) (pl (ix (nI g))), ea, to, qu))) (ix gu))), (0, .ref (b 0)), (1, .int x0), (4, .int (nI g))]) hx hb dX6_change_114 hl (k := 6) rfl (nI_1 _) (by decide) rfl (fun ls hl => ?_)
        refine lv_goto (tgt := 55) hx hb dX6_change_117 (by decide) ?_
        exact ih (n - 1) (by omega) ((kq + 1, (if mq ≤ (sSum (sQu (sPass (ix x0) (co, gu, kn, fo, sp, ki, upd (upd pl (ix (nI g)) (pl (ix (nI (g + 1 + kq))))) (ix (nI (g + 1 + kq))) (pl (ix (nI g))), ea, to, qu))) (ix gu)) then bq else ((10 * (nI g)) + (nI (g + 1 + kq))) : Int32), (if mq ≤ (sSum (sQu (sPass (ix x0) (co, gu, kn, fo, sp, ki, upd (upd pl (ix (nI g)) (pl (ix (nI (g + 1 + kq))))) (ix (nI (g + 1 + kq))) (pl (ix (nI g))), ea, to, qu))) (ix gu)) then mq else (sSum (sQu (sPass (ix x0) (co, gu, kn, fo, sp, ki, upd (upd pl (ix (nI g)) (pl (ix (nI (g + 1 + kq))))) (ix (nI (g + 1 + kq))) (pl (ix (nI g))), ea, to, qu))) (ix gu)) : Int32), mo_16)) H locs ls ⟨by omega, ch_step hj1 rfl rfl, hP, hS, lv_sub hl [4, 5, 2, 1, 6, 0] rfl⟩
  · skip
    have c_1b := bI_0 c_1
    refine lv_aload_n hx hb dX6_change_10 rfl (lv_at hl 0 rfl) ?_
    refine lv_ldc hx hb hown k47 dX6_change_11 ?_
    refine callMi (va_runV (As := [.int (-1000000001)]) (rest := []) ⟨hx, hb, hml, hown, hts⟩ (k_X6_finds l D cI cL cS b co gu kn fo sp ki pl ea to qu fd mo tr b1 tp tm so bg te wd va gd bo sz sh le im bf ik (-1000000001) (va_DT (hD _ rfl) rfl) (vp_in_iff.mpr (by decide))) (cwV 1 hts gX6_change_X6_finds rfl rfl rfl (by decide +kernel) ⟨Nat.le_of_ble_eq_true rfl, Nat.le_of_ble_eq_true rfl⟩) ⟨PcR_fb, va_recv hK hP (ci := 4) (q0 := 0) rfl rfl, PcR_pre hP hK⟩ rfl rfl hl.1 rfl (lv_room (Nat.le_of_ble_eq_true rfl)) dX6_change_13 ⟨Nat.zero_le _, Nat.zero_le _⟩) hP (hD _ rfl) hS 0 13 rfl (fun r_22 u_21 H locs hu_21 hP hS => ?_)
    obtain ⟨hu_21r, hu_21⟩ := hu_21
    subst hu_21r
    have hP : va_P D vwCl (mdw cI cL b (enc co gu kn fo sp ki pl ea to qu) (bump fd (-1000000001)) mo tr b1 tp tm so bg te wd va gd bo sz sh le im bf ik) H := hP
    exact W.iret hx hb hr (fun t ht hW => ⟨⟨_, (mo, tr, bump fd (-1000000001)), rfl, (by exact (iF_f c_1b).symm), by dsimp only; rw [ht]; exact hP⟩, hS.F ht⟩) hS.2.2 dX6_change_16
