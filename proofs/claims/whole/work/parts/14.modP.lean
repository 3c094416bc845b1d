set_option maxRecDepth 100000 in
set_option maxHeartbeats 4000000 in
theorem k_X6_lay (l : Launch) (D : va_G) (cI cL cS : ClassId) (b : Nat → Nat) (co gu : Int32) (kn fo sp ki pl ea to qu : FI) (fd : FI) (mo : FI) (tr : FI) (b1 : FI) (tp : FI) (tm : Int32) (so : Int32) (bg : Int32) (te : Int32) (wd : Int64) (va : Int32) (gd : Int32) (bo : FI) (sz : FI) (sh : FJ) (le : FJ) (im : FI) (bf : FI) (ik : Int32) (x0 : Int32) (x1 : Int32) (x2 : Int32) (dj : va_D (fun _ => True) (dj0 b 13)) (ok : okT gu kn fo sp (whC gu pl) ki pl) : Met l yX6_lay wsX6_lay { frames := 2, cells := 0, slots := 0, locals := 42 } (PcR D vwCl (tyG cI cL cS) [.ref (b 0), .int x0, .int x1, .int x2] (mdw cI cL b (enc co gu kn fo sp ki pl ea to qu) fd mo tr b1 tp tm so bg te wd va gd bo sz sh le im bf ik)) (va_Qi (fun (r : Int32) (u : Sg × FI) => (r, u.1, u.2) = sLay (co, gu, kn, fo, sp, ki, pl, ea, to, qu) fd x0 x1 x2) (fun u t => va_P D vwCl (mdw cI cL b (encS u.1) u.2 mo tr b1 tp tm so bg te wd va gd bo sz sh le im bf ik) t.heap) (Aof (mdw cI cL b (enc co gu kn fo sp ki pl ea to qu) fd mo tr b1 tp tm so bg te wd va gd bo sz sh le im bf ik))) 0 0 (Aof (mdw cI cL b (enc co gu kn fo sp ki pl ea to qu) fd mo tr b1 tp tm so bg te wd va gd bo sz sh le im bf ik)) := by
  refine Met.ofW (cc := cX6_lay) (maxL := 4) (ret := (some .int)) (by decide) rfl ?_
  intro p e s m args below meth c s₁ B hml hv
  obtain ⟨rfl, hP, hK⟩ := hv
  have hx := B.exec
  have hb := B.bytes
  have hr := B.returns
  have hts := atoms_spec (ws := wsX6_lay) B.pre
  have hown : s.vm.findClass RX6 = some m.cls := findClass_of_methodNamed B.named
  have hlocks := B.notSynchronized
  obtain ⟨A, hAe⟩ : ∃ A, A = Aof (mdw cI cL b (enc co gu kn fo sp ki pl ea to qu) fd mo tr b1 tp tm so bg te wd va gd bo sz sh le im bf ik) := ⟨_, rfl⟩
  rw [← hAe]
  have hD : ∀ ws' : va_W, ws'.map Prod.fst = (mdw cI cL b (enc co gu kn fo sp ki pl ea to qu) fd mo tr b1 tp tm so bg te wd va gd bo sz sh le im bf ik).map Prod.fst → va_D A ws' := fun ws' e => by rw [hAe]; exact va_D_adr (va_D_self (va_D_adr dj rfl)) e
  have hS : va_S A s.heap s.heap [] := va_S.rf
  have hP : va_P D vwCl (mdw cI cL b (enc co gu kn fo sp ki pl ea to qu) fd mo tr b1 tp tm so bg te wd va gd bo sz sh le im bf ik) s.heap := hP
  have hl := lv_entry ([.ref (b 0), .int x0, .int x1, .int x2]) (n := 4) (Nat.le_of_ble_eq_true rfl)
  rw [lg_entry_eq]
  generalize (lg_sl ([.ref (b 0), .int x0, .int x1, .int x2]) ++ List.replicate (4 - (lg_sl ([.ref (b 0), .int x0, .int x1, .int x2])).length) Slot.unset).toArray = ls at hl ⊢
  have hl : lv_has ls 4 [(0, .ref (b 0)), (1, .int x0), (2, .int x1), (3, .int x2)] := hl
  have k47 := hts (.constant RX6 47 (-1000000001)) (List.mem_of_getElem? (i := 1) rfl)
  skip
  refine lv_iload_n hx hb dX6_lay_0 rfl (lv_at hl 1 rfl) ?_
  refine callE (W.runS (As := [.int x0]) (rest := []) ⟨hx, hb, hml, hown, hts⟩ (k_X6_isPlace l x0) (va_cwS 1 hts gX6_lay_X6_isPlace rfl rfl rfl (by decide +kernel) ⟨Nat.le_of_ble_eq_true rfl, Nat.le_of_ble_eq_true rfl⟩) ⟨PcP_fb, fun U _ _ => ⟨rfl, trivial⟩⟩ rfl rfl hl.1 rfl (lv_room (Nat.le_of_ble_eq_true rfl)) dX6_lay_1 ⟨Nat.zero_le _, Nat.zero_le _⟩) ?_
  refine lv_if_eq (tgt := 50) hx hb dX6_lay_4 (by decide) (fun c_1 => ?_) (fun c_1 => ?_)
  · skip
    have c_1b := bI_0 c_1
    refine lv_aload_n hx hb dX6_lay_50 rfl (lv_at hl 0 rfl) ?_
    refine lv_ldc hx hb hown k47 dX6_lay_51 ?_
    refine callMi (va_runV (As := [.int (-1000000001)]) (rest := []) ⟨hx, hb, hml, hown, hts⟩ (k_X6_finds l D cI cL cS b co gu kn fo sp ki pl ea to qu fd mo tr b1 tp tm so bg te wd va gd bo sz sh le im bf ik (-1000000001) (va_DT (hD _ rfl) rfl) (vp_in_iff.mpr (by decide))) (cwV 1 hts gX6_lay_X6_finds rfl rfl rfl (by decide +kernel) ⟨Nat.le_of_ble_eq_true rfl, Nat.le_of_ble_eq_true rfl⟩) ⟨PcR_fb, va_recv hK hP (ci := 4) (q0 := 0) rfl rfl, PcR_pre hP hK⟩ rfl rfl hl.1 rfl (lv_room (Nat.le_of_ble_eq_true rfl)) dX6_lay_53 ⟨Nat.zero_le _, Nat.zero_le _⟩) hP (hD _ rfl) hS 0 13 rfl (fun r_3 u_2 H locs hu_2 hP hS => ?_)
    obtain ⟨hu_2r, hu_2⟩ := hu_2
    subst hu_2r
    have hP : va_P D vwCl (mdw cI cL b (enc co gu kn fo sp ki pl ea to qu) (bump fd (-1000000001)) mo tr b1 tp tm so bg te wd va gd bo sz sh le im bf ik) H := hP
    exact W.iret hx hb hr (fun t ht hW => ⟨⟨_, ((co, gu, kn, fo, sp, ki, pl, ea, to, qu), bump fd (-1000000001)), rfl, (by exact (iF_f (fun h => by first | exact absurd h.1 c_1b | exact absurd c_1b h.1 | exact absurd h.2.1 c_1b | exact absurd c_1b h.2.1 | exact absurd h.2.2 c_1b | exact absurd c_1b h.2.2)).symm), by dsimp only; rw [ht]; exact hP⟩, hS.F ht⟩) hS.2.2 dX6_lay_56
  · skip
    have c_1b := bI_n c_1
    have hp : vp_in x0 10 := c_1b
    refine lv_iload_n hx hb dX6_lay_7 rfl (lv_at hl 2 rfl) ?_
    refine lv_iconst (v := 0) hx hb dX6_lay_8 (by decide) ?_
    refine lv_iconst (v := 2) hx hb dX6_lay_9 (by decide) ?_
    refine callE (W.runS (As := [.int x1, .int 0, .int 2]) (rest := []) ⟨hx, hb, hml, hown, hts⟩ (k_X6_in l x1 0 2) (va_cwS 3 hts gX6_lay_X6_in rfl rfl rfl (by decide +kernel) ⟨Nat.le_of_ble_eq_true rfl, Nat.le_of_ble_eq_true rfl⟩) ⟨PcP_fb, fun U _ _ => ⟨rfl, trivial⟩⟩ rfl rfl hl.1 rfl (lv_room (Nat.le_of_ble_eq_true rfl)) dX6_lay_10 ⟨Nat.zero_le _, Nat.zero_le _⟩) ?_
    refine lv_if_eq (tgt := 50) hx hb dX6_lay_13 (by decide) (fun c_4 => ?_) (fun c_4 => ?_)
    · skip
      have c_4b := bI_0 c_4
      refine lv_aload_n hx hb dX6_lay_50 rfl (lv_at hl 0 rfl) ?_
      refine lv_ldc hx hb hown k47 dX6_lay_51 ?_
      refine callMi (va_runV (As := [.int (-1000000001)]) (rest := []) ⟨hx, hb, hml, hown, hts⟩ (k_X6_finds l D cI cL cS b co gu kn fo sp ki pl ea to qu fd mo tr b1 tp tm so bg te wd va gd bo sz sh le im bf ik (-1000000001) (va_DT (hD _ rfl) rfl) (vp_in_iff.mpr (by decide))) (cwV 1 hts gX6_lay_X6_finds rfl rfl rfl (by decide +kernel) ⟨Nat.le_of_ble_eq_true rfl, Nat.le_of_ble_eq_true rfl⟩) ⟨PcR_fb, va_recv hK hP (ci := 4) (q0 := 0) rfl rfl, PcR_pre hP hK⟩ rfl rfl hl.1 rfl (lv_room (Nat.le_of_ble_eq_true rfl)) dX6_lay_53 ⟨Nat.zero_le _, Nat.zero_le _⟩) hP (hD _ rfl) hS 0 13 rfl (fun r_6 u_5 H locs hu_5 hP hS => ?_)
      obtain ⟨hu_5r, hu_5⟩ := hu_5
      subst hu_5r
      have hP : va_P D vwCl (mdw cI cL b (enc co gu kn fo sp ki pl ea to qu) (bump fd (-1000000001)) mo tr b1 tp tm so bg te wd va gd bo sz sh le im bf ik) H := hP
      exact W.iret hx hb hr (fun t ht hW => ⟨⟨_, ((co, gu, kn, fo, sp, ki, pl, ea, to, qu), bump fd (-1000000001)), rfl, (by exact (iF_f (fun h => by first | exact absurd h.1 c_4b | exact absurd c_4b h.1 | exact absurd h.2.1 c_4b | exact absurd c_4b h.2.1 | exact absurd h.2.2 c_4b | exact absurd c_4b h.2.2)).symm), by dsimp only; rw [ht]; exact hP⟩, hS.F ht⟩) hS.2.2 dX6_lay_56
    · skip
      have c_4b := bI_n c_4
      have hw : vp_in x1 3 := (in_iff9 (n := 2) (by decide)).mp c_4b
      refine lv_iload_n hx hb dX6_lay_16 rfl (lv_at hl 3 rfl) ?_
      refine lv_iconst (v := 0) hx hb dX6_lay_17 (by decide) ?_
      refine lv_iload_n hx hb dX6_lay_18 rfl (lv_at hl 2 rfl) ?_
      refine lv_iconst (v := 2) hx hb dX6_lay_19 (by decide) ?_
      refine jn (fun v_7 : Int32 => v_7 = (if x1 = 2 then 9 else 1 : Int32)) (fun v_7 => F0 m 29 ls [.int v_7, .int 0, .int x2]) (fun Jv_7 => ?_) (fun v_7 ev_7 => ?_)
      · skip
        refine lv_icmp_ne (tgt := 28) hx hb dX6_lay_20 (by decide) (fun c_8 => ?_) (fun c_8 => ?_)
        · skip
          refine lv_iconst (v := 1) hx hb dX6_lay_28 (by decide) ?_
          exact Jv_7 _ (by rw [if_neg c_8])
        · skip
          refine lv_bipush (v := 9) hx hb dX6_lay_23 (by decide) ?_
          refine lv_goto (tgt := 29) hx hb dX6_lay_25 (by decide) ?_
          exact Jv_7 _ (by rw [if_pos c_8])
      subst ev_7
      refine callE (W.runS (As := [.int x2, .int 0, .int (if x1 = 2 then 9 else 1 : Int32)]) (rest := []) ⟨hx, hb, hml, hown, hts⟩ (k_X6_in l x2 0 (if x1 = 2 then 9 else 1 : Int32)) (va_cwS 3 hts gX6_lay_X6_in rfl rfl rfl (by decide +kernel) ⟨Nat.le_of_ble_eq_true rfl, Nat.le_of_ble_eq_true rfl⟩) ⟨PcP_fb, fun U _ _ => ⟨rfl, trivial⟩⟩ rfl rfl hl.1 rfl (lv_room (Nat.le_of_ble_eq_true rfl)) dX6_lay_29 ⟨Nat.zero_le _, Nat.zero_le _⟩) ?_
      refine lv_if_eq (tgt := 50) hx hb dX6_lay_32 (by decide) (fun c_9 => ?_) (fun c_9 => ?_)
      · skip
        have c_9b := bI_0 c_9
        refine lv_aload_n hx hb dX6_lay_50 rfl (lv_at hl 0 rfl) ?_
        refine lv_ldc hx hb hown k47 dX6_lay_51 ?_
        refine callMi (va_runV (As := [.int (-1000000001)]) (rest := []) ⟨hx, hb, hml, hown, hts⟩ (k_X6_finds l D cI cL cS b co gu kn fo sp ki pl ea to qu fd mo tr b1 tp tm so bg te wd va gd bo sz sh le im bf ik (-1000000001) (va_DT (hD _ rfl) rfl) (vp_in_iff.mpr (by decide))) (cwV 1 hts gX6_lay_X6_finds rfl rfl rfl (by decide +kernel) ⟨Nat.le_of_ble_eq_true rfl, Nat.le_of_ble_eq_true rfl⟩) ⟨PcR_fb, va_recv hK hP (ci := 4) (q0 := 0) rfl rfl, PcR_pre hP hK⟩ rfl rfl hl.1 rfl (lv_room (Nat.le_of_ble_eq_true rfl)) dX6_lay_53 ⟨Nat.zero_le _, Nat.zero_le _⟩) hP (hD _ rfl) hS 0 13 rfl (fun r_11 u_10 H locs hu_10 hP hS => ?_)
        obtain ⟨hu_10r, hu_10⟩ := hu_10
        subst hu_10r
        have hP : va_P D vwCl (mdw cI cL b (enc co gu kn fo sp ki pl ea to qu) (bump fd (-1000000001)) mo tr b1 tp tm so bg te wd va gd bo sz sh le im bf ik) H := hP
        exact W.iret hx hb hr (fun t ht hW => ⟨⟨_, ((co, gu, kn, fo, sp, ki, pl, ea, to, qu), bump fd (-1000000001)), rfl, (by exact (iF_f (fun h => by first | exact absurd h.1 c_9b | exact absurd c_9b h.1 | exact absurd h.2.1 c_9b | exact absurd c_9b h.2.1 | exact absurd h.2.2 c_9b | exact absurd c_9b h.2.2)).symm), by dsimp only; rw [ht]; exact hP⟩, hS.F ht⟩) hS.2.2 dX6_lay_56
      · skip
        have c_9b := bI_n c_9
        refine lv_aload_n hx hb dX6_lay_35 rfl (lv_at hl 0 rfl) ?_
        refine lv_iconst (v := 2) hx hb dX6_lay_36 (by decide) ?_
        refine lv_iconst (v := 3) hx hb dX6_lay_37 (by decide) ?_
        refine lv_iload_n hx hb dX6_lay_38 rfl (lv_at hl 1 rfl) ?_
        refine lv_imul hx hb dX6_lay_39 ?_
        refine lv_iadd hx hb dX6_lay_40 ?_
        refine lv_iload_n hx hb dX6_lay_41 rfl (lv_at hl 2 rfl) ?_
        refine lv_iadd hx hb dX6_lay_42 ?_
        refine lv_iload_n hx hb dX6_lay_43 rfl (lv_at hl 3 rfl) ?_
        refine callMi (va_runV (As := [.int ((2 + (3 * x0)) + x1), .int x2]) (rest := []) ⟨hx, hb, hml, hown, hts⟩ (k_X6_becomes l D cI cL cS b co gu kn fo sp ki pl ea to qu fd mo tr b1 tp tm so bg te wd va gd bo sz sh le im bf ik ((2 + (3 * x0)) + x1) x2 (va_DT (hD _ rfl) rfl) (lay_in hp hw)) (cwV 2 hts gX6_lay_X6_becomes rfl rfl rfl (by decide +kernel) ⟨Nat.le_of_ble_eq_true rfl, Nat.le_of_ble_eq_true rfl⟩) ⟨PcR_fb, va_recv hK hP (ci := 4) (q0 := 0) rfl rfl, PcR_pre hP hK⟩ rfl rfl hl.1 rfl (lv_room (Nat.le_of_ble_eq_true rfl)) dX6_lay_44 ⟨Nat.zero_le _, Nat.zero_le _⟩) hP (hD _ rfl) hS 0 13 rfl (fun r_13 u_12 H locs hu_12 hP hS => ?_)
        obtain ⟨hu_12r, hu_12⟩ := hu_12
        subst hu_12r
        have hP : va_P D vwCl (mdw cI cL b (enc co gu (if x1 = 0 then upd kn (ix x0) x2 else kn) (if x1 = 1 then upd fo (ix x0) x2 else fo) (if x1 = 2 then upd sp (ix x0) x2 else sp) ki pl ea to qu) fd mo tr b1 tp tm so bg te wd va gd bo sz sh le im bf ik) H := by rw [← lay_row hp hw]; exact hP
        have hP : va_P D vwCl (mdw cI cL b (enc co gu (if x1 = 0 then upd kn (ix x0) x2 else kn) (if x1 = 1 then upd fo (ix x0) x2 else fo) (if x1 = 2 then upd sp (ix x0) x2 else sp) ki pl ea to qu) fd mo tr b1 tp tm so bg te wd va gd bo sz sh le im bf ik) H := hP
        refine lv_goto (tgt := 56) hx hb dX6_lay_47 (by decide) ?_
        exact W.iret hx hb hr (fun t ht hW => ⟨⟨_, ((co, gu, (if x1 = 0 then upd kn (ix x0) x2 else kn), (if x1 = 1 then upd fo (ix x0) x2 else fo), (if x1 = 2 then upd sp (ix x0) x2 else sp), ki, pl, ea, to, qu), fd), rfl, (by unfold sLay; rw [iF_t ⟨c_1b, c_4b, c_9b⟩]; exact lay_ans hp hw), by dsimp only; rw [ht]; exact hP⟩, hS.F ht⟩) hS.2.2 dX6_lay_56

set_option maxRecDepth 100000 in
set_option maxHeartbeats 4000000 in
theorem k_X6_place (l : Launch) (D : va_G) (cI cL cS : ClassId) (b : Nat → Nat) (co gu : Int32) (kn fo sp ki pl ea to qu : FI) (fd : FI) (mo : FI) (tr : FI) (b1 : FI) (tp : FI) (tm : Int32) (so : Int32) (bg : Int32) (te : Int32) (wd : Int64) (va : Int32) (gd : Int32) (bo : FI) (sz : FI) (sh : FJ) (le : FJ) (im : FI) (bf : FI) (ik : Int32) (x0 : Int32) (x1 : Int32) (dj : va_D (fun _ => True) (dj0 b 13)) (ok : okT gu kn fo sp (whC gu pl) ki pl) : Met l yX6_place wsX6_place { frames := 2, cells := 0, slots := 0, locals := 45 } (PcR D vwCl (tyG cI cL cS) [.ref (b 0), .int x0, .int x1] (mdw cI cL b (enc co gu kn fo sp ki pl ea to qu) fd mo tr b1 tp tm so bg te wd va gd bo sz sh le im bf ik)) (va_Qi (fun (r : Int32) (u : FI) => (r, u) = sPlace (co, gu, kn, fo, sp, ki, pl, ea, to, qu) fd x0 x1) (fun u t => va_P D vwCl (mdw cI cL b (enc co gu kn fo sp ki pl ea to qu) u mo tr b1 tp tm so bg te wd va gd bo sz sh le im bf ik) t.heap) (Aof (mdw cI cL b (enc co gu kn fo sp ki pl ea to qu) fd mo tr b1 tp tm so bg te wd va gd bo sz sh le im bf ik))) 0 0 (Aof (mdw cI cL b (enc co gu kn fo sp ki pl ea to qu) fd mo tr b1 tp tm so bg te wd va gd bo sz sh le im bf ik)) := by
  refine Met.ofW (cc := cX6_place) (maxL := 3) (ret := (some .int)) (by decide) rfl ?_
  intro p e s m args below meth c s₁ B hml hv
  obtain ⟨rfl, hP, hK⟩ := hv
  have hx := B.exec
  have hb := B.bytes
  have hr := B.returns
  have hts := atoms_spec (ws := wsX6_place) B.pre
  have hown : s.vm.findClass RX6 = some m.cls := findClass_of_methodNamed B.named
  have hlocks := B.notSynchronized
  obtain ⟨A, hAe⟩ : ∃ A, A = Aof (mdw cI cL b (enc co gu kn fo sp ki pl ea to qu) fd mo tr b1 tp tm so bg te wd va gd bo sz sh le im bf ik) := ⟨_, rfl⟩
  rw [← hAe]
  have hD : ∀ ws' : va_W, ws'.map Prod.fst = (mdw cI cL b (enc co gu kn fo sp ki pl ea to qu) fd mo tr b1 tp tm so bg te wd va gd bo sz sh le im bf ik).map Prod.fst → va_D A ws' := fun ws' e => by rw [hAe]; exact va_D_adr (va_D_self (va_D_adr dj rfl)) e
  have hS : va_S A s.heap s.heap [] := va_S.rf
  have hP : va_P D vwCl (mdw cI cL b (enc co gu kn fo sp ki pl ea to qu) fd mo tr b1 tp tm so bg te wd va gd bo sz sh le im bf ik) s.heap := hP
  have hl := lv_entry ([.ref (b 0), .int x0, .int x1]) (n := 3) (Nat.le_of_ble_eq_true rfl)
  rw [lg_entry_eq]
  generalize (lg_sl ([.ref (b 0), .int x0, .int x1]) ++ List.replicate (3 - (lg_sl ([.ref (b 0), .int x0, .int x1])).length) Slot.unset).toArray = ls at hl ⊢
  have hl : lv_has ls 3 [(0, .ref (b 0)), (1, .int x0), (2, .int x1)] := hl
  have k47 := hts (.constant RX6 47 (-1000000001)) (List.mem_of_getElem? (i := 1) rfl)
  skip
  refine lv_iload_n hx hb dX6_place_0 rfl (lv_at hl 1 rfl) ?_
  refine callE (W.runS (As := [.int x0]) (rest := []) ⟨hx, hb, hml, hown, hts⟩ (k_X6_isPlace l x0) (va_cwS 1 hts gX6_place_X6_isPlace rfl rfl rfl (by decide +kernel) ⟨Nat.le_of_ble_eq_true rfl, Nat.le_of_ble_eq_true rfl⟩) ⟨PcP_fb, fun U _ _ => ⟨rfl, trivial⟩⟩ rfl rfl hl.1 rfl (lv_room (Nat.le_of_ble_eq_true rfl)) dX6_place_1 ⟨Nat.zero_le _, Nat.zero_le _⟩) ?_
  refine lv_if_eq (tgt := 16) hx hb dX6_place_4 (by decide) (fun c_1 => ?_) (fun c_1 => ?_)
  · skip
    have c_1b := bI_0 c_1
    refine lv_aload_n hx hb dX6_place_16 rfl (lv_at hl 0 rfl) ?_
    refine lv_ldc hx hb hown k47 dX6_place_17 ?_
    refine callMi (va_runV (As := [.int (-1000000001)]) (rest := []) ⟨hx, hb, hml, hown, hts⟩ (k_X6_finds l D cI cL cS b co gu kn fo sp ki pl ea to qu fd mo tr b1 tp tm so bg te wd va gd bo sz sh le im bf ik (-1000000001) (va_DT (hD _ rfl) rfl) (vp_in_iff.mpr (by decide))) (cwV 1 hts gX6_place_X6_finds rfl rfl rfl (by decide +kernel) ⟨Nat.le_of_ble_eq_true rfl, Nat.le_of_ble_eq_true rfl⟩) ⟨PcR_fb, va_recv hK hP (ci := 4) (q0 := 0) rfl rfl, PcR_pre hP hK⟩ rfl rfl hl.1 rfl (lv_room (Nat.le_of_ble_eq_true rfl)) dX6_place_19 ⟨Nat.zero_le _, Nat.zero_le _⟩) hP (hD _ rfl) hS 0 13 rfl (fun r_3 u_2 H locs hu_2 hP hS => ?_)
    obtain ⟨hu_2r, hu_2⟩ := hu_2
    subst hu_2r
    have hP : va_P D vwCl (mdw cI cL b (enc co gu kn fo sp ki pl ea to qu) (bump fd (-1000000001)) mo tr b1 tp tm so bg te wd va gd bo sz sh le im bf ik) H := hP
    exact W.iret hx hb hr (fun t ht hW => ⟨⟨_, (bump fd (-1000000001)), rfl, (by unfold sPlace; first | exact (iF_f c_1b).symm | (rw [iF_t c_1b]; exact place_no c_1b)), by dsimp only; rw [ht]; exact hP⟩, hS.F ht⟩) hS.2.2 dX6_place_22
  · skip
    have c_1b := bI_n c_1
    have hp : vp_in x0 10 := c_1b
    refine lv_iload_n hx hb dX6_place_7 rfl (lv_at hl 2 rfl) ?_
    refine lv_iconst (v := 0) hx hb dX6_place_8 (by decide) ?_
    refine lv_iconst (v := 3) hx hb dX6_place_9 (by decide) ?_
    refine callE (W.runS (As := [.int x1, .int 0, .int 3]) (rest := []) ⟨hx, hb, hml, hown, hts⟩ (k_X6_in l x1 0 3) (va_cwS 3 hts gX6_place_X6_in rfl rfl rfl (by decide +kernel) ⟨Nat.le_of_ble_eq_true rfl, Nat.le_of_ble_eq_true rfl⟩) ⟨PcP_fb, fun U _ _ => ⟨rfl, trivial⟩⟩ rfl rfl hl.1 rfl (lv_room (Nat.le_of_ble_eq_true rfl)) dX6_place_10 ⟨Nat.zero_le _, Nat.zero_le _⟩) ?_
    refine lv_if_ne (tgt := 23) hx hb dX6_place_13 (by decide) (fun c_4 => ?_) (fun c_4 => ?_)
    · skip
      have c_4b := bI_n c_4
      refine lv_iload_n hx hb dX6_place_23 rfl (lv_at hl 2 rfl) ?_
      refine lv_iconst (v := 3) hx hb dX6_place_24 (by decide) ?_
      refine lv_icmp_ge (tgt := 37) hx hb dX6_place_25 (by decide) (fun c_5 => ?_) (fun c_5 => ?_)
      · skip
        refine lv_aload_n hx hb dX6_place_37 rfl (lv_at hl 0 rfl) ?_
        refine lv_iload_n hx hb dX6_place_38 rfl (lv_at hl 1 rfl) ?_
        refine callE (W.runV (As := [.int x0]) (rest := []) ⟨hx, hb, hml, hown, hts⟩ (k_X6_whoAt l D cI cL cS b co gu kn fo sp ki pl ea to qu fd mo tr b1 tp tm so bg te wd va gd bo sz sh le im bf ik x0 ok.gu) (cwV 1 hts gX6_place_X6_whoAt rfl rfl rfl (by decide +kernel) ⟨Nat.le_of_ble_eq_true rfl, Nat.le_of_ble_eq_true rfl⟩) ⟨PcR_fb, va_recv hK hP (ci := 4) (q0 := 0) rfl rfl, PcR_pre hP hK⟩ rfl rfl hl.1 rfl (lv_room (Nat.le_of_ble_eq_true rfl)) dX6_place_39 ⟨Nat.zero_le _, Nat.zero_le _⟩) ?_
        exact W.iret hx hb hr (fun t ht hW => ⟨⟨_, (fd), rfl, (by unfold sPlace; rw [iF_t c_1b]; exact place_3 c_4b c_5), by dsimp only; rw [ht]; exact hP⟩, hS.F ht⟩) hS.2.2 dX6_place_42
      · skip
        skip
        refine lv_aload_n hx hb dX6_place_28 rfl (lv_at hl 0 rfl) ?_
        refine lv_iload_n hx hb dX6_place_29 rfl (lv_at hl 1 rfl) ?_
        refine lv_iload_n hx hb dX6_place_30 rfl (lv_at hl 2 rfl) ?_
        refine callE (W.runV (As := [.int x0, .int x1]) (rest := []) ⟨hx, hb, hml, hown, hts⟩ (k_X6_laidAt l D cI cL cS b co gu kn fo sp ki pl ea to qu fd mo tr b1 tp tm so bg te wd va gd bo sz sh le im bf ik x0 x1 hp (place_w c_4b c_5)) (cwV 2 hts gX6_place_X6_laidAt rfl rfl rfl (by decide +kernel) ⟨Nat.le_of_ble_eq_true rfl, Nat.le_of_ble_eq_true rfl⟩) ⟨PcR_fb, va_recv hK hP (ci := 4) (q0 := 0) rfl rfl, PcR_pre hP hK⟩ rfl rfl hl.1 rfl (lv_room (Nat.le_of_ble_eq_true rfl)) dX6_place_31 ⟨Nat.zero_le _, Nat.zero_le _⟩) ?_
        refine lv_goto (tgt := 42) hx hb dX6_place_34 (by decide) ?_
        exact W.iret hx hb hr (fun t ht hW => ⟨⟨_, (fd), rfl, (by unfold sPlace; rw [iF_t c_1b]; exact place_012 hp c_4b c_5), by dsimp only; rw [ht]; exact hP⟩, hS.F ht⟩) hS.2.2 dX6_place_42
    · skip
      have c_4b := bI_0 c_4
      refine lv_aload_n hx hb dX6_place_16 rfl (lv_at hl 0 rfl) ?_
      refine lv_ldc hx hb hown k47 dX6_place_17 ?_
      refine callMi (va_runV (As := [.int (-1000000001)]) (rest := []) ⟨hx, hb, hml, hown, hts⟩ (k_X6_finds l D cI cL cS b co gu kn fo sp ki pl ea to qu fd mo tr b1 tp tm so bg te wd va gd bo sz sh le im bf ik (-1000000001) (va_DT (hD _ rfl) rfl) (vp_in_iff.mpr (by decide))) (cwV 1 hts gX6_place_X6_finds rfl rfl rfl (by decide +kernel) ⟨Nat.le_of_ble_eq_true rfl, Nat.le_of_ble_eq_true rfl⟩) ⟨PcR_fb, va_recv hK hP (ci := 4) (q0 := 0) rfl rfl, PcR_pre hP hK⟩ rfl rfl hl.1 rfl (lv_room (Nat.le_of_ble_eq_true rfl)) dX6_place_19 ⟨Nat.zero_le _, Nat.zero_le _⟩) hP (hD _ rfl) hS 0 13 rfl (fun r_7 u_6 H locs hu_6 hP hS => ?_)
      obtain ⟨hu_6r, hu_6⟩ := hu_6
      subst hu_6r
      have hP : va_P D vwCl (mdw cI cL b (enc co gu kn fo sp ki pl ea to qu) (bump fd (-1000000001)) mo tr b1 tp tm so bg te wd va gd bo sz sh le im bf ik) H := hP
      exact W.iret hx hb hr (fun t ht hW => ⟨⟨_, (bump fd (-1000000001)), rfl, (by unfold sPlace; first | exact (iF_f c_1b).symm | (rw [iF_t c_1b]; exact place_no c_4b)), by dsimp only; rw [ht]; exact hP⟩, hS.F ht⟩) hS.2.2 dX6_place_22

set_option maxRecDepth 100000 in
set_option maxHeartbeats 4000000 in
theorem k_X6_now (l : Launch) (D : va_G) (cI cL cS : ClassId) (b : Nat → Nat) (co gu : Int32) (kn fo sp ki pl ea to qu : FI) (fd : FI) (mo : FI) (tr : FI) (b1 : FI) (tp : FI) (tm : Int32) (so : Int32) (bg : Int32) (te : Int32) (wd : Int64) (va : Int32) (gd : Int32) (bo : FI) (sz : FI) (sh : FJ) (le : FJ) (im : FI) (bf : FI) (ik : Int32) (x0 : Int32) (dj : va_D (fun _ => True) (dj0 b 13)) (ok : okT gu kn fo sp (whC gu pl) ki pl) : Met l yX6_now wsX6_now { frames := 4, cells := 0, slots := 0, locals := 86 } (PcR D vwCl (tyG cI cL cS) [.ref (b 0), .int x0] (mdw cI cL b (enc co gu kn fo sp ki pl ea to qu) fd mo tr b1 tp tm so bg te wd va gd bo sz sh le im bf ik)) (va_Qi (fun (r : Int32) (u : FI) => (r, u) = sNow (co, gu, kn, fo, sp, ki, pl, ea, to, qu) fd x0) (fun u t => va_P D vwCl (mdw cI cL b (enc co gu kn fo sp ki pl ea to qu) u mo tr b1 tp tm so bg te wd va gd bo sz sh le im bf ik) t.heap) (Aof (mdw cI cL b (enc co gu kn fo sp ki pl ea to qu) fd mo tr b1 tp tm so bg te wd va gd bo sz sh le im bf ik))) 0 0 (Aof (mdw cI cL b (enc co gu kn fo sp ki pl ea to qu) fd mo tr b1 tp tm so bg te wd va gd bo sz sh le im bf ik)) := by
  refine Met.ofW (cc := cX6_now) (maxL := 2) (ret := (some .int)) (by decide) rfl ?_
  intro p e s m args below meth c s₁ B hml hv
  obtain ⟨rfl, hP, hK⟩ := hv
  have hx := B.exec
  have hb := B.bytes
  have hr := B.returns
  have hts := atoms_spec (ws := wsX6_now) B.pre
  have hown : s.vm.findClass RX6 = some m.cls := findClass_of_methodNamed B.named
  have hlocks := B.notSynchronized
  obtain ⟨A, hAe⟩ : ∃ A, A = Aof (mdw cI cL b (enc co gu kn fo sp ki pl ea to qu) fd mo tr b1 tp tm so bg te wd va gd bo sz sh le im bf ik) := ⟨_, rfl⟩
  rw [← hAe]
  have hD : ∀ ws' : va_W, ws'.map Prod.fst = (mdw cI cL b (enc co gu kn fo sp ki pl ea to qu) fd mo tr b1 tp tm so bg te wd va gd bo sz sh le im bf ik).map Prod.fst → va_D A ws' := fun ws' e => by rw [hAe]; exact va_D_adr (va_D_self (va_D_adr dj rfl)) e
  have hS : va_S A s.heap s.heap [] := va_S.rf
  have hP : va_P D vwCl (mdw cI cL b (enc co gu kn fo sp ki pl ea to qu) fd mo tr b1 tp tm so bg te wd va gd bo sz sh le im bf ik) s.heap := hP
  have hl := lv_entry ([.ref (b 0), .int x0]) (n := 2) (Nat.le_of_ble_eq_true rfl)
  rw [lg_entry_eq]
  generalize (lg_sl ([.ref (b 0), .int x0]) ++ List.replicate (2 - (lg_sl ([.ref (b 0), .int x0])).length) Slot.unset).toArray = ls at hl ⊢
  have hl : lv_has ls 2 [(0, .ref (b 0)), (1, .int x0)] := hl
  have f7 := hts (.fieldLink RX6 7 "KnivesLaidModel" "row" "[I") (List.mem_of_getElem? (i := 1) rfl)
  have inX6 : ∀ w ∈ u_ws RX6 TX6 20, w ∈ wsX6_now := in_at 41 _ _ rfl
  have k47 := hts (.constant RX6 47 (-1000000001)) (List.mem_of_getElem? (i := 2) rfl)
  skip
  refine lv_iload_n hx hb dX6_now_0 rfl (lv_at hl 1 rfl) ?_
  by_cases c_1 : x0 = 0
  · refine lv_tableIn (tgt := 40) hx hb dX6_now_1 (by rw [c_1]; decide) (by rw [c_1]; decide) (by rw [c_1]; rfl) (by decide) ?_
    refine lv_aload_n hx hb dX6_now_40 rfl (lv_at hl 0 rfl) ?_
    refine va_get (ci := 4) (v := .ref (b 1)) (C := RX6) (T := TX6) (N := 20) hx hb hts inX6 hown hK hP 0 rfl rfl 0 (by decide) f7 (fun _ h9 => h9) rfl dX6_now_41 ?_
    refine lv_iconst (v := 0) hx hb dX6_now_44 (by decide) ?_
    refine va_iald hx hb hK hP 1 0 rfl rfl (vp_in_iff.mpr (by decide)) dX6_now_45 ?_
    refine lv_to (y := co) rfl ?_
    exact W.iret hx hb hr (fun t ht hW => ⟨⟨_, (fd), rfl, (by unfold sNow; simp [c_1]), by dsimp only; rw [ht]; exact hP⟩, hS.F ht⟩) hS.2.2 dX6_now_46
  by_cases c_2 : x0 = 1
  · refine lv_tableIn (tgt := 47) hx hb dX6_now_1 (by rw [c_2]; decide) (by rw [c_2]; decide) (by rw [c_2]; rfl) (by decide) ?_
    refine lv_aload_n hx hb dX6_now_47 rfl (lv_at hl 0 rfl) ?_
    refine callE (W.runV (As := []) (rest := []) ⟨hx, hb, hml, hown, hts⟩ (k_X6_soreSet l D cI cL cS b co gu kn fo sp ki pl ea to qu fd mo tr b1 tp tm so bg te wd va gd bo sz sh le im bf ik ok.gu) (cwV 0 hts gX6_now_X6_soreSet rfl rfl rfl (by decide +kernel) ⟨Nat.le_of_ble_eq_true rfl, Nat.le_of_ble_eq_true rfl⟩) ⟨PcR_fb, va_recv hK hP (ci := 4) (q0 := 0) rfl rfl, PcR_pre hP hK⟩ rfl rfl hl.1 rfl (lv_room (Nat.le_of_ble_eq_true rfl)) dX6_now_48 ⟨Nat.zero_le _, Nat.zero_le _⟩) ?_
    refine lv_if_ne (tgt := 58) hx hb dX6_now_51 (by decide) (fun c_3 => ?_) (fun c_3 => ?_)
    · skip
      refine lv_iconst (v := 0) hx hb dX6_now_58 (by decide) ?_
      exact W.iret hx hb hr (fun t ht hW => ⟨⟨_, (fd), rfl, (by unfold sNow; simp [c_2, c_3]), by dsimp only; rw [ht]; exact hP⟩, hS.F ht⟩) hS.2.2 dX6_now_59
    · skip
      refine lv_iconst (v := 1) hx hb dX6_now_54 (by decide) ?_
      refine lv_goto (tgt := 59) hx hb dX6_now_55 (by decide) ?_
      exact W.iret hx hb hr (fun t ht hW => ⟨⟨_, (fd), rfl, (by unfold sNow; simp [c_2, c_3]), by dsimp only; rw [ht]; exact hP⟩, hS.F ht⟩) hS.2.2 dX6_now_59
  by_cases c_4 : x0 = 2
  · refine lv_tableIn (tgt := 60) hx hb dX6_now_1 (by rw [c_4]; decide) (by rw [c_4]; decide) (by rw [c_4]; rfl) (by decide) ?_
    refine lv_aload_n hx hb dX6_now_60 rfl (lv_at hl 0 rfl) ?_
    refine callE (W.runV (As := []) (rest := []) ⟨hx, hb, hml, hown, hts⟩ (k_X6_tellingSet l D cI cL cS b co gu kn fo sp ki pl ea to qu fd mo tr b1 tp tm so bg te wd va gd bo sz sh le im bf ik ok) (cwV 0 hts gX6_now_X6_tellingSet rfl rfl rfl (by decide +kernel) ⟨Nat.le_of_ble_eq_true rfl, Nat.le_of_ble_eq_true rfl⟩) ⟨PcR_fb, va_recv hK hP (ci := 4) (q0 := 0) rfl rfl, PcR_pre hP hK⟩ rfl rfl hl.1 rfl (lv_room (Nat.le_of_ble_eq_true rfl)) dX6_now_61 ⟨Nat.zero_le _, Nat.zero_le _⟩) ?_
    exact W.iret hx hb hr (fun t ht hW => ⟨⟨_, (fd), rfl, (by unfold sNow; simp [c_4]), by dsimp only; rw [ht]; exact hP⟩, hS.F ht⟩) hS.2.2 dX6_now_64
  by_cases c_5 : x0 = 3
  · refine lv_tableIn (tgt := 65) hx hb dX6_now_1 (by rw [c_5]; decide) (by rw [c_5]; decide) (by rw [c_5]; rfl) (by decide) ?_
    refine lv_aload_n hx hb dX6_now_65 rfl (lv_at hl 0 rfl) ?_
    refine callE (W.runV (As := []) (rest := []) ⟨hx, hb, hml, hown, hts⟩ (k_X6_soreSet l D cI cL cS b co gu kn fo sp ki pl ea to qu fd mo tr b1 tp tm so bg te wd va gd bo sz sh le im bf ik ok.gu) (cwV 0 hts gX6_now_X6_soreSet rfl rfl rfl (by decide +kernel) ⟨Nat.le_of_ble_eq_true rfl, Nat.le_of_ble_eq_true rfl⟩) ⟨PcR_fb, va_recv hK hP (ci := 4) (q0 := 0) rfl rfl, PcR_pre hP hK⟩ rfl rfl hl.1 rfl (lv_room (Nat.le_of_ble_eq_true rfl)) dX6_now_66 ⟨Nat.zero_le _, Nat.zero_le _⟩) ?_
    exact W.iret hx hb hr (fun t ht hW => ⟨⟨_, (fd), rfl, (by unfold sNow; simp [c_5]), by dsimp only; rw [ht]; exact hP⟩, hS.F ht⟩) hS.2.2 dX6_now_69
  by_cases c_6 : x0 = 4
  · refine lv_tableIn (tgt := 70) hx hb dX6_now_1 (by rw [c_6]; decide) (by rw [c_6]; decide) (by rw [c_6]; rfl) (by decide) ?_
    refine lv_sipush (v := 10000) hx hb dX6_now_70 (by decide) ?_
    refine lv_aload_n hx hb dX6_now_73 rfl (lv_at hl 0 rfl) ?_
    refine lv_iconst (v := 2) hx hb dX6_now_74 (by decide) ?_
    refine callE (W.runV (As := [.int 2]) (rest := [.int 10000]) ⟨hx, hb, hml, hown, hts⟩ (k_X6_sumOf2 l D cI cL cS b co gu kn fo sp ki pl ea to qu fd mo tr b1 tp tm so bg te wd va gd bo sz sh le im bf ik ok.gu) (cwV 1 hts gX6_now_X6_sumOf rfl rfl rfl (by decide +kernel) ⟨Nat.le_of_ble_eq_true rfl, Nat.le_of_ble_eq_true rfl⟩) ⟨PcR_fb, va_recv hK hP (ci := 4) (q0 := 0) rfl rfl, PcR_pre hP hK⟩ rfl rfl hl.1 rfl (lv_room (Nat.le_of_ble_eq_true rfl)) dX6_now_75 ⟨Nat.zero_le _, Nat.zero_le _⟩) ?_
    refine lv_iadd hx hb dX6_now_78 ?_
    exact W.iret hx hb hr (fun t ht hW => ⟨⟨_, (fd), rfl, (by unfold sNow; simp [c_6]), by dsimp only; rw [ht]; exact hP⟩, hS.F ht⟩) hS.2.2 dX6_now_79
  by_cases c_7 : x0 = 5
  · refine lv_tableIn (tgt := 80) hx hb dX6_now_1 (by rw [c_7]; decide) (by rw [c_7]; decide) (by rw [c_7]; rfl) (by decide) ?_
    refine lv_aload_n hx hb dX6_now_80 rfl (lv_at hl 0 rfl) ?_
    refine lv_iconst (v := 3) hx hb dX6_now_81 (by decide) ?_
    refine callE (W.runV (As := [.int 3]) (rest := []) ⟨hx, hb, hml, hown, hts⟩ (k_X6_sumOf3 l D cI cL cS b co gu kn fo sp ki pl ea to qu fd mo tr b1 tp tm so bg te wd va gd bo sz sh le im bf ik ok.gu) (cwV 1 hts gX6_now_X6_sumOf rfl rfl rfl (by decide +kernel) ⟨Nat.le_of_ble_eq_true rfl, Nat.le_of_ble_eq_true rfl⟩) ⟨PcR_fb, va_recv hK hP (ci := 4) (q0 := 0) rfl rfl, PcR_pre hP hK⟩ rfl rfl hl.1 rfl (lv_room (Nat.le_of_ble_eq_true rfl)) dX6_now_82 ⟨Nat.zero_le _, Nat.zero_le _⟩) ?_
    exact W.iret hx hb hr (fun t ht hW => ⟨⟨_, (fd), rfl, (by unfold sNow; simp [c_7]), by dsimp only; rw [ht]; exact hP⟩, hS.F ht⟩) hS.2.2 dX6_now_85
  refine lv_tableOut (tgt := 86) hx hb dX6_now_1 (by have := lv_neT c_1 (a := 0) rfl; have := lv_neT c_2 (a := 1) rfl; have := lv_neT c_4 (a := 2) rfl; have := lv_neT c_5 (a := 3) rfl; have := lv_neT c_6 (a := 4) rfl; have := lv_neT c_7 (a := 5) rfl; omega) (by decide) ?_
  refine lv_aload_n hx hb dX6_now_86 rfl (lv_at hl 0 rfl) ?_
  refine lv_ldc hx hb hown k47 dX6_now_87 ?_
  refine callMi (va_runV (As := [.int (-1000000001)]) (rest := []) ⟨hx, hb, hml, hown, hts⟩ (k_X6_finds l D cI cL cS b co gu kn fo sp ki pl ea to qu fd mo tr b1 tp tm so bg te wd va gd bo sz sh le im bf ik (-1000000001) (va_DT (hD _ rfl) rfl) (vp_in_iff.mpr (by decide))) (cwV 1 hts gX6_now_X6_finds rfl rfl rfl (by decide +kernel) ⟨Nat.le_of_ble_eq_true rfl, Nat.le_of_ble_eq_true rfl⟩) ⟨PcR_fb, va_recv hK hP (ci := 4) (q0 := 0) rfl rfl, PcR_pre hP hK⟩ rfl rfl hl.1 rfl (lv_room (Nat.le_of_ble_eq_true rfl)) dX6_now_89 ⟨Nat.zero_le _, Nat.zero_le _⟩) hP (hD _ rfl) hS 0 13 rfl (fun r_9 u_8 H locs hu_8 hP hS => ?_)
  obtain ⟨hu_8r, hu_8⟩ := hu_8
  subst hu_8r
  have hP : va_P D vwCl (mdw cI cL b (enc co gu kn fo sp ki pl ea to qu) (bump fd (-1000000001)) mo tr b1 tp tm so bg te wd va gd bo sz sh le im bf ik) H := hP
  exact W.iret hx hb hr (fun t ht hW => ⟨⟨_, (bump fd (-1000000001)), rfl, (by unfold sNow; simp [c_1, c_2, c_4, c_5, c_6, c_7]), by dsimp only; rw [ht]; exact hP⟩, hS.F ht⟩) hS.2.2 dX6_now_92

set_option maxRecDepth 100000 in
set_option maxHeartbeats 4000000 in
theorem k_X6_guest (l : Launch) (D : va_G) (cI cL cS : ClassId) (b : Nat → Nat) (co gu : Int32) (kn fo sp ki pl ea to qu : FI) (fd : FI) (mo : FI) (tr : FI) (b1 : FI) (tp : FI) (tm : Int32) (so : Int32) (bg : Int32) (te : Int32) (wd : Int64) (va : Int32) (gd : Int32) (bo : FI) (sz : FI) (sh : FJ) (le : FJ) (im : FI) (bf : FI) (ik : Int32) (x0 : Int32) (x1 : Int32) (dj : va_D (fun _ => True) (dj0 b 13)) (ok : okT gu kn fo sp (whC gu pl) ki pl) : Met l yX6_guest wsX6_guest { frames := 2, cells := 0, slots := 0, locals := 46 } (PcR D vwCl (tyG cI cL cS) [.ref (b 0), .int x0, .int x1] (mdw cI cL b (enc co gu kn fo sp ki pl ea to qu) fd mo tr b1 tp tm so bg te wd va gd bo sz sh le im bf ik)) (va_Qi (fun (r : Int32) (u : Sg × FI) => (r, u.1, u.2) = sGuest (co, gu, kn, fo, sp, ki, pl, ea, to, qu) fd x0 x1) (fun u t => va_P D vwCl (mdw cI cL b (encS u.1) u.2 mo tr b1 tp tm so bg te wd va gd bo sz sh le im bf ik) t.heap) (Aof (mdw cI cL b (enc co gu kn fo sp ki pl ea to qu) fd mo tr b1 tp tm so bg te wd va gd bo sz sh le im bf ik))) 0 0 (Aof (mdw cI cL b (enc co gu kn fo sp ki pl ea to qu) fd mo tr b1 tp tm so bg te wd va gd bo sz sh le im bf ik)) := by
  refine Met.ofW (cc := cX6_guest) (maxL := 3) (ret := (some .int)) (by decide) rfl ?_
  intro p e s m args below meth c s₁ B hml hv
  obtain ⟨rfl, hP, hK⟩ := hv
  have hx := B.exec
  have hb := B.bytes
  have hr := B.returns
  have hts := atoms_spec (ws := wsX6_guest) B.pre
  have hown : s.vm.findClass RX6 = some m.cls := findClass_of_methodNamed B.named
  have hlocks := B.notSynchronized
  obtain ⟨A, hAe⟩ : ∃ A, A = Aof (mdw cI cL b (enc co gu kn fo sp ki pl ea to qu) fd mo tr b1 tp tm so bg te wd va gd bo sz sh le im bf ik) := ⟨_, rfl⟩
  rw [← hAe]
  have hD : ∀ ws' : va_W, ws'.map Prod.fst = (mdw cI cL b (enc co gu kn fo sp ki pl ea to qu) fd mo tr b1 tp tm so bg te wd va gd bo sz sh le im bf ik).map Prod.fst → va_D A ws' := fun ws' e => by rw [hAe]; exact va_D_adr (va_D_self (va_D_adr dj rfl)) e
  have hS : va_S A s.heap s.heap [] := va_S.rf
  have hP : va_P D vwCl (mdw cI cL b (enc co gu kn fo sp ki pl ea to qu) fd mo tr b1 tp tm so bg te wd va gd bo sz sh le im bf ik) s.heap := hP
  have hl := lv_entry ([.ref (b 0), .int x0, .int x1]) (n := 3) (Nat.le_of_ble_eq_true rfl)
  rw [lg_entry_eq]
  generalize (lg_sl ([.ref (b 0), .int x0, .int x1]) ++ List.replicate (3 - (lg_sl ([.ref (b 0), .int x0, .int x1])).length) Slot.unset).toArray = ls at hl ⊢
  have hl : lv_has ls 3 [(0, .ref (b 0)), (1, .int x0), (2, .int x1)] := hl
  have k47 := hts (.constant RX6 47 (-1000000001)) (List.mem_of_getElem? (i := 1) rfl)
  have f7 := hts (.fieldLink RX6 7 "KnivesLaidModel" "row" "[I") (List.mem_of_getElem? (i := 2) rfl)
  have inX6 : ∀ w ∈ u_ws RX6 TX6 20, w ∈ wsX6_guest := in_at 36 _ _ rfl
  have k109 := hts (.constant RX6 109 (-1000000005)) (List.mem_of_getElem? (i := 4) rfl)
  have k108 := hts (.constant RX6 108 (-1000000002)) (List.mem_of_getElem? (i := 3) rfl)
  skip
  refine lv_iload_n hx hb dX6_guest_0 rfl (lv_at hl 1 rfl) ?_
  refine callE (W.runS (As := [.int x0]) (rest := []) ⟨hx, hb, hml, hown, hts⟩ (k_X6_isKind l x0) (va_cwS 1 hts gX6_guest_X6_isKind rfl rfl rfl (by decide +kernel) ⟨Nat.le_of_ble_eq_true rfl, Nat.le_of_ble_eq_true rfl⟩) ⟨PcP_fb, fun U _ _ => ⟨rfl, trivial⟩⟩ rfl rfl hl.1 rfl (lv_room (Nat.le_of_ble_eq_true rfl)) dX6_guest_1 ⟨Nat.zero_le _, Nat.zero_le _⟩) ?_
  refine lv_if_eq (tgt := 14) hx hb dX6_guest_4 (by decide) (fun c_1 => ?_) (fun c_1 => ?_)
  · skip
    have c_1b := bI_0 c_1
    refine lv_aload_n hx hb dX6_guest_14 rfl (lv_at hl 0 rfl) ?_
    refine lv_ldc hx hb hown k47 dX6_guest_15 ?_
    refine callMi (va_runV (As := [.int (-1000000001)]) (rest := []) ⟨hx, hb, hml, hown, hts⟩ (k_X6_finds l D cI cL cS b co gu kn fo sp ki pl ea to qu fd mo tr b1 tp tm so bg te wd va gd bo sz sh le im bf ik (-1000000001) (va_DT (hD _ rfl) rfl) (vp_in_iff.mpr (by decide))) (cwV 1 hts gX6_guest_X6_finds rfl rfl rfl (by decide +kernel) ⟨Nat.le_of_ble_eq_true rfl, Nat.le_of_ble_eq_true rfl⟩) ⟨PcR_fb, va_recv hK hP (ci := 4) (q0 := 0) rfl rfl, PcR_pre hP hK⟩ rfl rfl hl.1 rfl (lv_room (Nat.le_of_ble_eq_true rfl)) dX6_guest_17 ⟨Nat.zero_le _, Nat.zero_le _⟩) hP (hD _ rfl) hS 0 13 rfl (fun r_3 u_2 H locs hu_2 hP hS => ?_)
    obtain ⟨hu_2r, hu_2⟩ := hu_2
    subst hu_2r
    have hP : va_P D vwCl (mdw cI cL b (enc co gu kn fo sp ki pl ea to qu) (bump fd (-1000000001)) mo tr b1 tp tm so bg te wd va gd bo sz sh le im bf ik) H := hP
    exact W.iret hx hb hr (fun t ht hW => ⟨⟨_, ((co, gu, kn, fo, sp, ki, pl, ea, to, qu), bump fd (-1000000001)), rfl, (by exact (iF_f (fun h => by first | exact absurd h.1 c_1b | exact absurd c_1b h.1 | exact absurd h.2 c_1b | exact absurd c_1b h.2)).symm), by dsimp only; rw [ht]; exact hP⟩, hS.F ht⟩) hS.2.2 dX6_guest_20
  · skip
    have c_1b := bI_n c_1
    refine lv_iload_n hx hb dX6_guest_7 rfl (lv_at hl 2 rfl) ?_
    refine callE (W.runS (As := [.int x1]) (rest := []) ⟨hx, hb, hml, hown, hts⟩ (k_X6_isPlace l x1) (va_cwS 1 hts gX6_guest_X6_isPlace rfl rfl rfl (by decide +kernel) ⟨Nat.le_of_ble_eq_true rfl, Nat.le_of_ble_eq_true rfl⟩) ⟨PcP_fb, fun U _ _ => ⟨rfl, trivial⟩⟩ rfl rfl hl.1 rfl (lv_room (Nat.le_of_ble_eq_true rfl)) dX6_guest_8 ⟨Nat.zero_le _, Nat.zero_le _⟩) ?_
    refine lv_if_ne (tgt := 21) hx hb dX6_guest_11 (by decide) (fun c_4 => ?_) (fun c_4 => ?_)
    · skip
      have c_4b := bI_n c_4
      refine lv_aload_n hx hb dX6_guest_21 rfl (lv_at hl 0 rfl) ?_
      refine va_get (ci := 4) (v := .ref (b 1)) (C := RX6) (T := TX6) (N := 20) hx hb hts inX6 hown hK hP 0 rfl rfl 0 (by decide) f7 (fun _ h9 => h9) rfl dX6_guest_22 ?_
      refine lv_iconst (v := 1) hx hb dX6_guest_25 (by decide) ?_
      refine va_iald hx hb hK hP 1 0 rfl rfl (vp_in_iff.mpr (by decide)) dX6_guest_26 ?_
      refine lv_to (y := gu) rfl ?_
      refine lv_bipush (v := 8) hx hb dX6_guest_27 (by decide) ?_
      refine lv_icmp_ne (tgt := 39) hx hb dX6_guest_29 (by decide) (fun c_5 => ?_) (fun c_5 => ?_)
      · skip
        have h8 : vp_in gu 8 := gu8_in2 ok.gu c_5
        refine lv_aload_n hx hb dX6_guest_39 rfl (lv_at hl 0 rfl) ?_
        refine lv_iload_n hx hb dX6_guest_40 rfl (lv_at hl 2 rfl) ?_
        refine callE (W.runV (As := [.int x1]) (rest := []) ⟨hx, hb, hml, hown, hts⟩ (k_X6_whoAt l D cI cL cS b co gu kn fo sp ki pl ea to qu fd mo tr b1 tp tm so bg te wd va gd bo sz sh le im bf ik x1 ok.gu) (cwV 1 hts gX6_guest_X6_whoAt rfl rfl rfl (by decide +kernel) ⟨Nat.le_of_ble_eq_true rfl, Nat.le_of_ble_eq_true rfl⟩) ⟨PcR_fb, va_recv hK hP (ci := 4) (q0 := 0) rfl rfl, PcR_pre hP hK⟩ rfl rfl hl.1 rfl (lv_room (Nat.le_of_ble_eq_true rfl)) dX6_guest_41 ⟨Nat.zero_le _, Nat.zero_le _⟩) ?_
        refine lv_if_lt (tgt := 54) hx hb dX6_guest_44 (by decide) (fun c_6 => ?_) (fun c_6 => ?_)
        · skip
          refine lv_aload_n hx hb dX6_guest_54 rfl (lv_at hl 0 rfl) ?_
          refine lv_iload_n hx hb dX6_guest_55 rfl (lv_at hl 1 rfl) ?_
          refine lv_iload_n hx hb dX6_guest_56 rfl (lv_at hl 2 rfl) ?_
          refine callMv (va_runV (As := [.int x0, .int x1]) (rest := []) ⟨hx, hb, hml, hown, hts⟩ (k_X6_adds l D cI cL cS b co gu kn fo sp ki pl ea to qu fd mo tr b1 tp tm so bg te wd va gd bo sz sh le im bf ik x0 x1 (va_DT (hD _ rfl) rfl) h8) (cwV 2 hts gX6_guest_X6_adds rfl rfl rfl (by decide +kernel) ⟨Nat.le_of_ble_eq_true rfl, Nat.le_of_ble_eq_true rfl⟩) ⟨PcR_fb, va_recv hK hP (ci := 4) (q0 := 0) rfl rfl, PcR_pre hP hK⟩ rfl rfl hl.1 rfl (lv_room (Nat.le_of_ble_eq_true rfl)) dX6_guest_57 ⟨Nat.zero_le _, Nat.zero_le _⟩) hP (hD _ rfl) hS 0 13 rfl (fun u_7 H locs hu_7 hP hS => ?_)
          have hP : va_P D vwCl (mdw cI cL b (enc co (gu + 1) kn fo sp (upd ki (ix gu) x0) (upd pl (ix gu) x1) (upd ea (ix gu) 0) (upd to (ix gu) 0) (upd qu (ix gu) 0)) fd mo tr b1 tp tm so bg te wd va gd bo sz sh le im bf ik) H := hP
          refine lv_aload_n hx hb dX6_guest_60 rfl (lv_at hl 0 rfl) ?_
          refine va_get (ci := 4) (v := .ref (b 1)) (C := RX6) (T := TX6) (N := 20) hx hb hts inX6 hown hK hP 0 rfl rfl 0 (by decide) f7 (fun _ h9 => h9) rfl dX6_guest_61 ?_
          refine lv_iconst (v := 1) hx hb dX6_guest_64 (by decide) ?_
          refine va_iald hx hb hK hP 1 0 rfl rfl (vp_in_iff.mpr (by decide)) dX6_guest_65 ?_
          refine lv_to (y := gu + 1) rfl ?_
          refine lv_iconst (v := 1) hx hb dX6_guest_66 (by decide) ?_
          refine lv_isub hx hb dX6_guest_67 ?_
          exact W.iret hx hb hr (fun t ht hW => ⟨⟨_, ((co, gu + 1, kn, fo, sp, upd ki (ix gu) x0, upd pl (ix gu) x1, upd ea (ix gu) 0, upd to (ix gu) 0, upd qu (ix gu) 0), fd), rfl, (by unfold sGuest; rw [iF_t ⟨c_1b, c_4b⟩, iF_f c_5, iF_t (Classical.not_not.mp (fun h => (who_neg ok.gu).mpr h c_6))]; rw [show (gu + 1) - 1 = gu from add_sub1 gu]), by dsimp only; rw [ht]; exact hP⟩, hS.F ht⟩) hS.2.2 dX6_guest_68
        · skip
          refine lv_aload_n hx hb dX6_guest_47 rfl (lv_at hl 0 rfl) ?_
          refine lv_ldc hx hb hown k109 dX6_guest_48 ?_
          refine callMi (va_runV (As := [.int (-1000000005)]) (rest := []) ⟨hx, hb, hml, hown, hts⟩ (k_X6_finds l D cI cL cS b co gu kn fo sp ki pl ea to qu fd mo tr b1 tp tm so bg te wd va gd bo sz sh le im bf ik (-1000000005) (va_DT (hD _ rfl) rfl) (vp_in_iff.mpr (by decide))) (cwV 1 hts gX6_guest_X6_finds rfl rfl rfl (by decide +kernel) ⟨Nat.le_of_ble_eq_true rfl, Nat.le_of_ble_eq_true rfl⟩) ⟨PcR_fb, va_recv hK hP (ci := 4) (q0 := 0) rfl rfl, PcR_pre hP hK⟩ rfl rfl hl.1 rfl (lv_room (Nat.le_of_ble_eq_true rfl)) dX6_guest_50 ⟨Nat.zero_le _, Nat.zero_le _⟩) hP (hD _ rfl) hS 0 13 rfl (fun r_10 u_9 H locs hu_9 hP hS => ?_)
          obtain ⟨hu_9r, hu_9⟩ := hu_9
          subst hu_9r
          have hP : va_P D vwCl (mdw cI cL b (enc co gu kn fo sp ki pl ea to qu) (bump fd (-1000000005)) mo tr b1 tp tm so bg te wd va gd bo sz sh le im bf ik) H := hP
          exact W.iret hx hb hr (fun t ht hW => ⟨⟨_, ((co, gu, kn, fo, sp, ki, pl, ea, to, qu), bump fd (-1000000005)), rfl, (by unfold sGuest; rw [iF_t ⟨c_1b, c_4b⟩, iF_f c_5, iF_f ((who_neg ok.gu).mp c_6)]), by dsimp only; rw [ht]; exact hP⟩, hS.F ht⟩) hS.2.2 dX6_guest_53
      · skip
        refine lv_aload_n hx hb dX6_guest_32 rfl (lv_at hl 0 rfl) ?_
        refine lv_ldc hx hb hown k108 dX6_guest_33 ?_
        refine callMi (va_runV (As := [.int (-1000000002)]) (rest := []) ⟨hx, hb, hml, hown, hts⟩ (k_X6_finds l D cI cL cS b co gu kn fo sp ki pl ea to qu fd mo tr b1 tp tm so bg te wd va gd bo sz sh le im bf ik (-1000000002) (va_DT (hD _ rfl) rfl) (vp_in_iff.mpr (by decide))) (cwV 1 hts gX6_guest_X6_finds rfl rfl rfl (by decide +kernel) ⟨Nat.le_of_ble_eq_true rfl, Nat.le_of_ble_eq_true rfl⟩) ⟨PcR_fb, va_recv hK hP (ci := 4) (q0 := 0) rfl rfl, PcR_pre hP hK⟩ rfl rfl hl.1 rfl (lv_room (Nat.le_of_ble_eq_true rfl)) dX6_guest_35 ⟨Nat.zero_le _, Nat.zero_le _⟩) hP (hD _ rfl) hS 0 13 rfl (fun r_12 u_11 H locs hu_11 hP hS => ?_)
        obtain ⟨hu_11r, hu_11⟩ := hu_11
        subst hu_11r
        have hP : va_P D vwCl (mdw cI cL b (enc co gu kn fo sp ki pl ea to qu) (bump fd (-1000000002)) mo tr b1 tp tm so bg te wd va gd bo sz sh le im bf ik) H := hP
        exact W.iret hx hb hr (fun t ht hW => ⟨⟨_, ((co, gu, kn, fo, sp, ki, pl, ea, to, qu), bump fd (-1000000002)), rfl, (by unfold sGuest; rw [iF_t ⟨c_1b, c_4b⟩, iF_t c_5]), by dsimp only; rw [ht]; exact hP⟩, hS.F ht⟩) hS.2.2 dX6_guest_38
    · skip
      have c_4b := bI_0 c_4
      refine lv_aload_n hx hb dX6_guest_14 rfl (lv_at hl 0 rfl) ?_
      refine lv_ldc hx hb hown k47 dX6_guest_15 ?_
      refine callMi (va_runV (As := [.int (-1000000001)]) (rest := []) ⟨hx, hb, hml, hown, hts⟩ (k_X6_finds l D cI cL cS b co gu kn fo sp ki pl ea to qu fd mo tr b1 tp tm so bg te wd va gd bo sz sh le im bf ik (-1000000001) (va_DT (hD _ rfl) rfl) (vp_in_iff.mpr (by decide))) (cwV 1 hts gX6_guest_X6_finds rfl rfl rfl (by decide +kernel) ⟨Nat.le_of_ble_eq_true rfl, Nat.le_of_ble_eq_true rfl⟩) ⟨PcR_fb, va_recv hK hP (ci := 4) (q0 := 0) rfl rfl, PcR_pre hP hK⟩ rfl rfl hl.1 rfl (lv_room (Nat.le_of_ble_eq_true rfl)) dX6_guest_17 ⟨Nat.zero_le _, Nat.zero_le _⟩) hP (hD _ rfl) hS 0 13 rfl (fun r_14 u_13 H locs hu_13 hP hS => ?_)
      obtain ⟨hu_13r, hu_13⟩ := hu_13
      subst hu_13r
      have hP : va_P D vwCl (mdw cI cL b (enc co gu kn fo sp ki pl ea to qu) (bump fd (-1000000001)) mo tr b1 tp tm so bg te wd va gd bo sz sh le im bf ik) H := hP
      exact W.iret hx hb hr (fun t ht hW => ⟨⟨_, ((co, gu, kn, fo, sp, ki, pl, ea, to, qu), bump fd (-1000000001)), rfl, (by exact (iF_f (fun h => by first | exact absurd h.1 c_4b | exact absurd c_4b h.1 | exact absurd h.2 c_4b | exact absurd c_4b h.2)).symm), by dsimp only; rw [ht]; exact hP⟩, hS.F ht⟩) hS.2.2 dX6_guest_20

set_option maxRecDepth 100000 in
set_option maxHeartbeats 4000000 in
theorem k_X6_of (l : Launch) (D : va_G) (cI cL cS : ClassId) (b : Nat → Nat) (co gu : Int32) (kn fo sp ki pl ea to qu : FI) (fd : FI) (mo : FI) (tr : FI) (b1 : FI) (tp : FI) (tm : Int32) (so : Int32) (bg : Int32) (te : Int32) (wd : Int64) (va : Int32) (gd : Int32) (bo : FI) (sz : FI) (sh : FJ) (le : FJ) (im : FI) (bf : FI) (ik : Int32) (x0 : Int32) (x1 : Int32) (dj : va_D (fun _ => True) (dj0 b 13)) (ok : okT gu kn fo sp (whC gu pl) ki pl) : Met l yX6_of wsX6_of { frames := 5, cells := 0, slots := 0, locals := 114 } (PcR D vwCl (tyG cI cL cS) [.ref (b 0), .int x0, .int x1] (mdw cI cL b (enc co gu kn fo sp ki pl ea to qu) fd mo tr b1 tp tm so bg te wd va gd bo sz sh le im bf ik)) (va_Qi (fun (r : Int32) (u : FI) => (r, u) = sOf (co, gu, kn, fo, sp, ki, pl, ea, to, qu) fd x0 x1) (fun u t => va_P D vwCl (mdw cI cL b (enc co gu kn fo sp ki pl ea to qu) u mo tr b1 tp tm so bg te wd va gd bo sz sh le im bf ik) t.heap) (Aof (mdw cI cL b (enc co gu kn fo sp ki pl ea to qu) fd mo tr b1 tp tm so bg te wd va gd bo sz sh le im bf ik))) 0 0 (Aof (mdw cI cL b (enc co gu kn fo sp ki pl ea to qu) fd mo tr b1 tp tm so bg te wd va gd bo sz sh le im bf ik)) := by
  refine Met.ofW (cc := cX6_of) (maxL := 3) (ret := (some .int)) (by decide) rfl ?_
  intro p e s m args below meth c s₁ B hml hv
  obtain ⟨rfl, hP, hK⟩ := hv
  have hx := B.exec
  have hb := B.bytes
  have hr := B.returns
  have hts := atoms_spec (ws := wsX6_of) B.pre
  have hown : s.vm.findClass RX6 = some m.cls := findClass_of_methodNamed B.named
  have hlocks := B.notSynchronized
  obtain ⟨A, hAe⟩ : ∃ A, A = Aof (mdw cI cL b (enc co gu kn fo sp ki pl ea to qu) fd mo tr b1 tp tm so bg te wd va gd bo sz sh le im bf ik) := ⟨_, rfl⟩
  rw [← hAe]
  have hD : ∀ ws' : va_W, ws'.map Prod.fst = (mdw cI cL b (enc co gu kn fo sp ki pl ea to qu) fd mo tr b1 tp tm so bg te wd va gd bo sz sh le im bf ik).map Prod.fst → va_D A ws' := fun ws' e => by rw [hAe]; exact va_D_adr (va_D_self (va_D_adr dj rfl)) e
  have hS : va_S A s.heap s.heap [] := va_S.rf
  have hP : va_P D vwCl (mdw cI cL b (enc co gu kn fo sp ki pl ea to qu) fd mo tr b1 tp tm so bg te wd va gd bo sz sh le im bf ik) s.heap := hP
  have hl := lv_entry ([.ref (b 0), .int x0, .int x1]) (n := 3) (Nat.le_of_ble_eq_true rfl)
  rw [lg_entry_eq]
  generalize (lg_sl ([.ref (b 0), .int x0, .int x1]) ++ List.replicate (3 - (lg_sl ([.ref (b 0), .int x0, .int x1])).length) Slot.unset).toArray = ls at hl ⊢
  have hl : lv_has ls 3 [(0, .ref (b 0)), (1, .int x0), (2, .int x1)] := hl
  have k47 := hts (.constant RX6 47 (-1000000001)) (List.mem_of_getElem? (i := 1) rfl)
  skip
  refine lv_aload_n hx hb dX6_of_0 rfl (lv_at hl 0 rfl) ?_
  refine lv_iload_n hx hb dX6_of_1 rfl (lv_at hl 1 rfl) ?_
  refine callE (W.runV (As := [.int x0]) (rest := []) ⟨hx, hb, hml, hown, hts⟩ (k_X6_isOne l D cI cL cS b co gu kn fo sp ki pl ea to qu fd mo tr b1 tp tm so bg te wd va gd bo sz sh le im bf ik x0 ok.gu) (cwV 1 hts gX6_of_X6_isOne rfl rfl rfl (by decide +kernel) ⟨Nat.le_of_ble_eq_true rfl, Nat.le_of_ble_eq_true rfl⟩) ⟨PcR_fb, va_recv hK hP (ci := 4) (q0 := 0) rfl rfl, PcR_pre hP hK⟩ rfl rfl hl.1 rfl (lv_room (Nat.le_of_ble_eq_true rfl)) dX6_of_2 ⟨Nat.zero_le _, Nat.zero_le _⟩) ?_
  refine lv_if_eq (tgt := 18) hx hb dX6_of_5 (by decide) (fun c_1 => ?_) (fun c_1 => ?_)
  · skip
    have c_1b := bI_0 c_1
    refine lv_aload_n hx hb dX6_of_18 rfl (lv_at hl 0 rfl) ?_
    refine lv_ldc hx hb hown k47 dX6_of_19 ?_
    refine callMi (va_runV (As := [.int (-1000000001)]) (rest := []) ⟨hx, hb, hml, hown, hts⟩ (k_X6_finds l D cI cL cS b co gu kn fo sp ki pl ea to qu fd mo tr b1 tp tm so bg te wd va gd bo sz sh le im bf ik (-1000000001) (va_DT (hD _ rfl) rfl) (vp_in_iff.mpr (by decide))) (cwV 1 hts gX6_of_X6_finds rfl rfl rfl (by decide +kernel) ⟨Nat.le_of_ble_eq_true rfl, Nat.le_of_ble_eq_true rfl⟩) ⟨PcR_fb, va_recv hK hP (ci := 4) (q0 := 0) rfl rfl, PcR_pre hP hK⟩ rfl rfl hl.1 rfl (lv_room (Nat.le_of_ble_eq_true rfl)) dX6_of_21 ⟨Nat.zero_le _, Nat.zero_le _⟩) hP (hD _ rfl) hS 0 13 rfl (fun r_3 u_2 H locs hu_2 hP hS => ?_)
    obtain ⟨hu_2r, hu_2⟩ := hu_2
    subst hu_2r
    have hP : va_P D vwCl (mdw cI cL b (enc co gu kn fo sp ki pl ea to qu) (bump fd (-1000000001)) mo tr b1 tp tm so bg te wd va gd bo sz sh le im bf ik) H := hP
    exact W.iret hx hb hr (fun t ht hW => ⟨⟨_, (bump fd (-1000000001)), rfl, (by unfold sOf; first | exact (iF_f c_1b).symm | (rw [iF_t c_1b]; exact of_no c_1b)), by dsimp only; rw [ht]; exact hP⟩, hS.F ht⟩) hS.2.2 dX6_of_24
  · skip
    have c_1b := bI_n c_1
    have h8 : vp_in x0 8 := in_8 ok.gu c_1b
    refine lv_iload_n hx hb dX6_of_8 rfl (lv_at hl 2 rfl) ?_
    refine lv_iconst (v := 0) hx hb dX6_of_9 (by decide) ?_
    refine lv_bipush (v := 8) hx hb dX6_of_10 (by decide) ?_
    refine callE (W.runS (As := [.int x1, .int 0, .int 8]) (rest := []) ⟨hx, hb, hml, hown, hts⟩ (k_X6_in l x1 0 8) (va_cwS 3 hts gX6_of_X6_in rfl rfl rfl (by decide +kernel) ⟨Nat.le_of_ble_eq_true rfl, Nat.le_of_ble_eq_true rfl⟩) ⟨PcP_fb, fun U _ _ => ⟨rfl, trivial⟩⟩ rfl rfl hl.1 rfl (lv_room (Nat.le_of_ble_eq_true rfl)) dX6_of_12 ⟨Nat.zero_le _, Nat.zero_le _⟩) ?_
    refine lv_if_ne (tgt := 25) hx hb dX6_of_15 (by decide) (fun c_4 => ?_) (fun c_4 => ?_)
    · skip
      have c_4b := bI_n c_4
      refine lv_iload_n hx hb dX6_of_25 rfl (lv_at hl 2 rfl) ?_
      by_cases c_5 : x1 = 2
      · refine lv_tableIn (tgt := 68) hx hb dX6_of_26 (by rw [c_5]; decide) (by rw [c_5]; decide) (by rw [c_5]; rfl) (by decide) ?_
        refine lv_bipush (v := 100) hx hb dX6_of_68 (by decide) ?_
        refine lv_aload_n hx hb dX6_of_70 rfl (lv_at hl 0 rfl) ?_
        refine lv_iload_n hx hb dX6_of_71 rfl (lv_at hl 1 rfl) ?_
        refine lv_iconst (v := 2) hx hb dX6_of_72 (by decide) ?_
        refine callE (W.runV (As := [.int x0, .int 2]) (rest := [.int 100]) ⟨hx, hb, hml, hown, hts⟩ (k_X6_its2 l D cI cL cS b co gu kn fo sp ki pl ea to qu fd mo tr b1 tp tm so bg te wd va gd bo sz sh le im bf ik x0 (by assumption)) (cwV 2 hts gX6_of_X6_its rfl rfl rfl (by decide +kernel) ⟨Nat.le_of_ble_eq_true rfl, Nat.le_of_ble_eq_true rfl⟩) ⟨PcR_fb, va_recv hK hP (ci := 4) (q0 := 0) rfl rfl, PcR_pre hP hK⟩ rfl rfl hl.1 rfl (lv_room (Nat.le_of_ble_eq_true rfl)) dX6_of_73 ⟨Nat.zero_le _, Nat.zero_le _⟩) ?_
        refine lv_iadd hx hb dX6_of_76 ?_
        exact W.iret hx hb hr (fun t ht hW => ⟨⟨_, (fd), rfl, (by unfold sOf; rw [iF_t c_1b]; simp [c_5]), by dsimp only; rw [ht]; exact hP⟩, hS.F ht⟩) hS.2.2 dX6_of_77
      by_cases c_6 : x1 = 3
      · refine lv_tableIn (tgt := 111) hx hb dX6_of_26 (by rw [c_6]; decide) (by rw [c_6]; decide) (by rw [c_6]; rfl) (by decide) ?_
        refine lv_aload_n hx hb dX6_of_111 rfl (lv_at hl 0 rfl) ?_
        refine lv_iload_n hx hb dX6_of_112 rfl (lv_at hl 1 rfl) ?_
        refine lv_iload_n hx hb dX6_of_113 rfl (lv_at hl 2 rfl) ?_
        refine callE (W.runV (As := [.int x0, .int x1]) (rest := []) ⟨hx, hb, hml, hown, hts⟩ (k_X6_its l D cI cL cS b co gu kn fo sp ki pl ea to qu fd mo tr b1 tp tm so bg te wd va gd bo sz sh le im bf ik x0 x1 h8 (of_in c_4b (by first | assumption | (rw [c_6]; decide)) (by first | assumption | (rw [c_6]; decide)) (by first | assumption | (rw [c_6]; decide)) (by first | assumption | (rw [c_6]; decide)) (by first | assumption | (rw [c_6]; decide)))) (cwV 2 hts gX6_of_X6_its rfl rfl rfl (by decide +kernel) ⟨Nat.le_of_ble_eq_true rfl, Nat.le_of_ble_eq_true rfl⟩) ⟨PcR_fb, va_recv hK hP (ci := 4) (q0 := 0) rfl rfl, PcR_pre hP hK⟩ rfl rfl hl.1 rfl (lv_room (Nat.le_of_ble_eq_true rfl)) dX6_of_114 ⟨Nat.zero_le _, Nat.zero_le _⟩) ?_
        exact W.iret hx hb hr (fun t ht hW => ⟨⟨_, (fd), rfl, (by unfold sOf; rw [iF_t c_1b]; exact of_its c_4b (by simp_all) (by simp_all) (by simp_all) (by simp_all) (by simp_all)), by dsimp only; rw [ht]; exact hP⟩, hS.F ht⟩) hS.2.2 dX6_of_117
      by_cases c_7 : x1 = 4
      · refine lv_tableIn (tgt := 111) hx hb dX6_of_26 (by rw [c_7]; decide) (by rw [c_7]; decide) (by rw [c_7]; rfl) (by decide) ?_
        refine lv_aload_n hx hb dX6_of_111 rfl (lv_at hl 0 rfl) ?_
        refine lv_iload_n hx hb dX6_of_112 rfl (lv_at hl 1 rfl) ?_
        refine lv_iload_n hx hb dX6_of_113 rfl (lv_at hl 2 rfl) ?_
        refine callE (W.runV (As := [.int x0, .int x1]) (rest := []) ⟨hx, hb, hml, hown, hts⟩ (k_X6_its l D cI cL cS b co gu kn fo sp ki pl ea to qu fd mo tr b1 tp tm so bg te wd va gd bo sz sh le im bf ik x0 x1 h8 (of_in c_4b (by first | assumption | (rw [c_7]; decide)) (by first | assumption | (rw [c_7]; decide)) (by first | assumption | (rw [c_7]; decide)) (by first | assumption | (rw [c_7]; decide)) (by first | assumption | (rw [c_7]; decide)))) (cwV 2 hts gX6_of_X6_its rfl rfl rfl (by decide +kernel) ⟨Nat.le_of_ble_eq_true rfl, Nat.le_of_ble_eq_true rfl⟩) ⟨PcR_fb, va_recv hK hP (ci := 4) (q0 := 0) rfl rfl, PcR_pre hP hK⟩ rfl rfl hl.1 rfl (lv_room (Nat.le_of_ble_eq_true rfl)) dX6_of_114 ⟨Nat.zero_le _, Nat.zero_le _⟩) ?_
        exact W.iret hx hb hr (fun t ht hW => ⟨⟨_, (fd), rfl, (by unfold sOf; rw [iF_t c_1b]; exact of_its c_4b (by simp_all) (by simp_all) (by simp_all) (by simp_all) (by simp_all)), by dsimp only; rw [ht]; exact hP⟩, hS.F ht⟩) hS.2.2 dX6_of_117
      by_cases c_8 : x1 = 5
      · refine lv_tableIn (tgt := 78) hx hb dX6_of_26 (by rw [c_8]; decide) (by rw [c_8]; decide) (by rw [c_8]; rfl) (by decide) ?_
        refine lv_bipush (v := 100) hx hb dX6_of_78 (by decide) ?_
        refine lv_aload_n hx hb dX6_of_80 rfl (lv_at hl 0 rfl) ?_
        refine lv_iload_n hx hb dX6_of_81 rfl (lv_at hl 1 rfl) ?_
        refine callE (W.runV (As := [.int x0]) (rest := [.int 100]) ⟨hx, hb, hml, hown, hts⟩ (k_X6_feels l D cI cL cS b co gu kn fo sp ki pl ea to qu fd mo tr b1 tp tm so bg te wd va gd bo sz sh le im bf ik x0 ok (by assumption)) (cwV 1 hts gX6_of_X6_feels rfl rfl rfl (by decide +kernel) ⟨Nat.le_of_ble_eq_true rfl, Nat.le_of_ble_eq_true rfl⟩) ⟨PcR_fb, va_recv hK hP (ci := 4) (q0 := 0) rfl rfl, PcR_pre hP hK⟩ rfl rfl hl.1 rfl (lv_room (Nat.le_of_ble_eq_true rfl)) dX6_of_82 ⟨Nat.zero_le _, Nat.zero_le _⟩) ?_
        refine lv_iadd hx hb dX6_of_85 ?_
        exact W.iret hx hb hr (fun t ht hW => ⟨⟨_, (fd), rfl, (by unfold sOf; rw [iF_t c_1b]; simp [c_8]), by dsimp only; rw [ht]; exact hP⟩, hS.F ht⟩) hS.2.2 dX6_of_86
      by_cases c_9 : x1 = 6
      · refine lv_tableIn (tgt := 87) hx hb dX6_of_26 (by rw [c_9]; decide) (by rw [c_9]; decide) (by rw [c_9]; rfl) (by decide) ?_
        refine lv_bipush (v := 100) hx hb dX6_of_87 (by decide) ?_
        refine lv_aload_n hx hb dX6_of_89 rfl (lv_at hl 0 rfl) ?_
        refine lv_iload_n hx hb dX6_of_90 rfl (lv_at hl 1 rfl) ?_
        refine callE (W.runV (As := [.int x0]) (rest := [.int 100]) ⟨hx, hb, hml, hown, hts⟩ (k_X6_catches l D cI cL cS b co gu kn fo sp ki pl ea to qu fd mo tr b1 tp tm so bg te wd va gd bo sz sh le im bf ik x0 ok (by assumption)) (cwV 1 hts gX6_of_X6_catches rfl rfl rfl (by decide +kernel) ⟨Nat.le_of_ble_eq_true rfl, Nat.le_of_ble_eq_true rfl⟩) ⟨PcR_fb, va_recv hK hP (ci := 4) (q0 := 0) rfl rfl, PcR_pre hP hK⟩ rfl rfl hl.1 rfl (lv_room (Nat.le_of_ble_eq_true rfl)) dX6_of_91 ⟨Nat.zero_le _, Nat.zero_le _⟩) ?_
        refine lv_iadd hx hb dX6_of_94 ?_
        exact W.iret hx hb hr (fun t ht hW => ⟨⟨_, (fd), rfl, (by unfold sOf; rw [iF_t c_1b]; simp [c_9]), by dsimp only; rw [ht]; exact hP⟩, hS.F ht⟩) hS.2.2 dX6_of_95
      by_cases c_10 : x1 = 7
      · refine lv_tableIn (tgt := 96) hx hb dX6_of_26 (by rw [c_10]; decide) (by rw [c_10]; decide) (by rw [c_10]; rfl) (by decide) ?_
        refine lv_bipush (v := 100) hx hb dX6_of_96 (by decide) ?_
        refine lv_aload_n hx hb dX6_of_98 rfl (lv_at hl 0 rfl) ?_
        refine lv_iload_n hx hb dX6_of_99 rfl (lv_at hl 1 rfl) ?_
        refine callE (W.runV (As := [.int x0]) (rest := [.int 100]) ⟨hx, hb, hml, hown, hts⟩ (k_X6_soreAt l D cI cL cS b co gu kn fo sp ki pl ea to qu fd mo tr b1 tp tm so bg te wd va gd bo sz sh le im bf ik x0 (by assumption)) (cwV 1 hts gX6_of_X6_soreAt rfl rfl rfl (by decide +kernel) ⟨Nat.le_of_ble_eq_true rfl, Nat.le_of_ble_eq_true rfl⟩) ⟨PcR_fb, va_recv hK hP (ci := 4) (q0 := 0) rfl rfl, PcR_pre hP hK⟩ rfl rfl hl.1 rfl (lv_room (Nat.le_of_ble_eq_true rfl)) dX6_of_100 ⟨Nat.zero_le _, Nat.zero_le _⟩) ?_
        refine lv_iadd hx hb dX6_of_103 ?_
        exact W.iret hx hb hr (fun t ht hW => ⟨⟨_, (fd), rfl, (by unfold sOf; rw [iF_t c_1b]; simp [c_10]), by dsimp only; rw [ht]; exact hP⟩, hS.F ht⟩) hS.2.2 dX6_of_104
      by_cases c_11 : x1 = 8
      · refine lv_tableIn (tgt := 105) hx hb dX6_of_26 (by rw [c_11]; decide) (by rw [c_11]; decide) (by rw [c_11]; rfl) (by decide) ?_
        refine lv_aload_n hx hb dX6_of_105 rfl (lv_at hl 0 rfl) ?_
        refine lv_iload_n hx hb dX6_of_106 rfl (lv_at hl 1 rfl) ?_
        refine callE (W.runV (As := [.int x0]) (rest := []) ⟨hx, hb, hml, hown, hts⟩ (k_X6_neighbours l D cI cL cS b co gu kn fo sp ki pl ea to qu fd mo tr b1 tp tm so bg te wd va gd bo sz sh le im bf ik x0 ok (by assumption)) (cwV 1 hts gX6_of_X6_neighbours rfl rfl rfl (by decide +kernel) ⟨Nat.le_of_ble_eq_true rfl, Nat.le_of_ble_eq_true rfl⟩) ⟨PcR_fb, va_recv hK hP (ci := 4) (q0 := 0) rfl rfl, PcR_pre hP hK⟩ rfl rfl hl.1 rfl (lv_room (Nat.le_of_ble_eq_true rfl)) dX6_of_107 ⟨Nat.zero_le _, Nat.zero_le _⟩) ?_
        exact W.iret hx hb hr (fun t ht hW => ⟨⟨_, (fd), rfl, (by unfold sOf; rw [iF_t c_1b]; simp [c_11]), by dsimp only; rw [ht]; exact hP⟩, hS.F ht⟩) hS.2.2 dX6_of_110
      refine lv_tableOut (tgt := 111) hx hb dX6_of_26 (by have := lv_neT c_5 (a := 2) rfl; have := lv_neT c_6 (a := 3) rfl; have := lv_neT c_7 (a := 4) rfl; have := lv_neT c_8 (a := 5) rfl; have := lv_neT c_9 (a := 6) rfl; have := lv_neT c_10 (a := 7) rfl; have := lv_neT c_11 (a := 8) rfl; omega) (by decide) ?_
      refine lv_aload_n hx hb dX6_of_111 rfl (lv_at hl 0 rfl) ?_
      refine lv_iload_n hx hb dX6_of_112 rfl (lv_at hl 1 rfl) ?_
      refine lv_iload_n hx hb dX6_of_113 rfl (lv_at hl 2 rfl) ?_
      refine callE (W.runV (As := [.int x0, .int x1]) (rest := []) ⟨hx, hb, hml, hown, hts⟩ (k_X6_its l D cI cL cS b co gu kn fo sp ki pl ea to qu fd mo tr b1 tp tm so bg te wd va gd bo sz sh le im bf ik x0 x1 h8 (of_in c_4b (by first | assumption | (rw [c_11]; decide)) (by first | assumption | (rw [c_11]; decide)) (by first | assumption | (rw [c_11]; decide)) (by first | assumption | (rw [c_11]; decide)) (by first | assumption | (rw [c_11]; decide)))) (cwV 2 hts gX6_of_X6_its rfl rfl rfl (by decide +kernel) ⟨Nat.le_of_ble_eq_true rfl, Nat.le_of_ble_eq_true rfl⟩) ⟨PcR_fb, va_recv hK hP (ci := 4) (q0 := 0) rfl rfl, PcR_pre hP hK⟩ rfl rfl hl.1 rfl (lv_room (Nat.le_of_ble_eq_true rfl)) dX6_of_114 ⟨Nat.zero_le _, Nat.zero_le _⟩) ?_
      exact W.iret hx hb hr (fun t ht hW => ⟨⟨_, (fd), rfl, (by unfold sOf; rw [iF_t c_1b]; exact of_its c_4b (by simp_all) (by simp_all) (by simp_all) (by simp_all) (by simp_all)), by dsimp only; rw [ht]; exact hP⟩, hS.F ht⟩) hS.2.2 dX6_of_117
    · skip
      have c_4b := bI_0 c_4
      refine lv_aload_n hx hb dX6_of_18 rfl (lv_at hl 0 rfl) ?_
      refine lv_ldc hx hb hown k47 dX6_of_19 ?_
      refine callMi (va_runV (As := [.int (-1000000001)]) (rest := []) ⟨hx, hb, hml, hown, hts⟩ (k_X6_finds l D cI cL cS b co gu kn fo sp ki pl ea to qu fd mo tr b1 tp tm so bg te wd va gd bo sz sh le im bf ik (-1000000001) (va_DT (hD _ rfl) rfl) (vp_in_iff.mpr (by decide))) (cwV 1 hts gX6_of_X6_finds rfl rfl rfl (by decide +kernel) ⟨Nat.le_of_ble_eq_true rfl, Nat.le_of_ble_eq_true rfl⟩) ⟨PcR_fb, va_recv hK hP (ci := 4) (q0 := 0) rfl rfl, PcR_pre hP hK⟩ rfl rfl hl.1 rfl (lv_room (Nat.le_of_ble_eq_true rfl)) dX6_of_21 ⟨Nat.zero_le _, Nat.zero_le _⟩) hP (hD _ rfl) hS 0 13 rfl (fun r_13 u_12 H locs hu_12 hP hS => ?_)
      obtain ⟨hu_12r, hu_12⟩ := hu_12
      subst hu_12r
      have hP : va_P D vwCl (mdw cI cL b (enc co gu kn fo sp ki pl ea to qu) (bump fd (-1000000001)) mo tr b1 tp tm so bg te wd va gd bo sz sh le im bf ik) H := hP
      exact W.iret hx hb hr (fun t ht hW => ⟨⟨_, (bump fd (-1000000001)), rfl, (by unfold sOf; first | exact (iF_f c_1b).symm | (rw [iF_t c_1b]; exact of_no c_4b)), by dsimp only; rw [ht]; exact hP⟩, hS.F ht⟩) hS.2.2 dX6_of_24

set_option maxRecDepth 100000 in
set_option maxHeartbeats 4000000 in
theorem k_X6_set (l : Launch) (D : va_G) (cI cL cS : ClassId) (b : Nat → Nat) (co gu : Int32) (kn fo sp ki pl ea to qu : FI) (fd : FI) (mo : FI) (tr : FI) (b1 : FI) (tp : FI) (tm : Int32) (so : Int32) (bg : Int32) (te : Int32) (wd : Int64) (va : Int32) (gd : Int32) (bo : FI) (sz : FI) (sh : FJ) (le : FJ) (im : FI) (bf : FI) (ik : Int32) (x0 : Int32) (x1 : Int32) (x2 : Int32) (dj : va_D (fun _ => True) (dj0 b 13)) (ok : okT gu kn fo sp (whC gu pl) ki pl) : Met l yX6_set wsX6_set { frames := 2, cells := 0, slots := 0, locals := 43 } (PcR D vwCl (tyG cI cL cS) [.ref (b 0), .int x0, .int x1, .int x2] (mdw cI cL b (enc co gu kn fo sp ki pl ea to qu) fd mo tr b1 tp tm so bg te wd va gd bo sz sh le im bf ik)) (va_Qi (fun (r : Int32) (u : Sg × FI) => (r, u.1, u.2) = sSetv (co, gu, kn, fo, sp, ki, pl, ea, to, qu) fd x0 x1 x2) (fun u t => va_P D vwCl (mdw cI cL b (encS u.1) u.2 mo tr b1 tp tm so bg te wd va gd bo sz sh le im bf ik) t.heap) (Aof (mdw cI cL b (enc co gu kn fo sp ki pl ea to qu) fd mo tr b1 tp tm so bg te wd va gd bo sz sh le im bf ik))) 0 0 (Aof (mdw cI cL b (enc co gu kn fo sp ki pl ea to qu) fd mo tr b1 tp tm so bg te wd va gd bo sz sh le im bf ik)) := by
  refine Met.ofW (cc := cX6_set) (maxL := 4) (ret := (some .int)) (by decide) rfl ?_
  intro p e s m args below meth c s₁ B hml hv
  obtain ⟨rfl, hP, hK⟩ := hv
  have hx := B.exec
  have hb := B.bytes
  have hr := B.returns
  have hts := atoms_spec (ws := wsX6_set) B.pre
  have hown : s.vm.findClass RX6 = some m.cls := findClass_of_methodNamed B.named
  have hlocks := B.notSynchronized
  obtain ⟨A, hAe⟩ : ∃ A, A = Aof (mdw cI cL b (enc co gu kn fo sp ki pl ea to qu) fd mo tr b1 tp tm so bg te wd va gd bo sz sh le im bf ik) := ⟨_, rfl⟩
  rw [← hAe]
  have hD : ∀ ws' : va_W, ws'.map Prod.fst = (mdw cI cL b (enc co gu kn fo sp ki pl ea to qu) fd mo tr b1 tp tm so bg te wd va gd bo sz sh le im bf ik).map Prod.fst → va_D A ws' := fun ws' e => by rw [hAe]; exact va_D_adr (va_D_self (va_D_adr dj rfl)) e
  have hS : va_S A s.heap s.heap [] := va_S.rf
  have hP : va_P D vwCl (mdw cI cL b (enc co gu kn fo sp ki pl ea to qu) fd mo tr b1 tp tm so bg te wd va gd bo sz sh le im bf ik) s.heap := hP
  have hl := lv_entry ([.ref (b 0), .int x0, .int x1, .int x2]) (n := 4) (Nat.le_of_ble_eq_true rfl)
  rw [lg_entry_eq]
  generalize (lg_sl ([.ref (b 0), .int x0, .int x1, .int x2]) ++ List.replicate (4 - (lg_sl ([.ref (b 0), .int x0, .int x1, .int x2])).length) Slot.unset).toArray = ls at hl ⊢
  have hl : lv_has ls 4 [(0, .ref (b 0)), (1, .int x0), (2, .int x1), (3, .int x2)] := hl
  have k47 := hts (.constant RX6 47 (-1000000001)) (List.mem_of_getElem? (i := 1) rfl)
  skip
  refine lv_aload_n hx hb dX6_set_0 rfl (lv_at hl 0 rfl) ?_
  refine lv_iload_n hx hb dX6_set_1 rfl (lv_at hl 1 rfl) ?_
  refine callE (W.runV (As := [.int x0]) (rest := []) ⟨hx, hb, hml, hown, hts⟩ (k_X6_isOne l D cI cL cS b co gu kn fo sp ki pl ea to qu fd mo tr b1 tp tm so bg te wd va gd bo sz sh le im bf ik x0 ok.gu) (cwV 1 hts gX6_set_X6_isOne rfl rfl rfl (by decide +kernel) ⟨Nat.le_of_ble_eq_true rfl, Nat.le_of_ble_eq_true rfl⟩) ⟨PcR_fb, va_recv hK hP (ci := 4) (q0 := 0) rfl rfl, PcR_pre hP hK⟩ rfl rfl hl.1 rfl (lv_room (Nat.le_of_ble_eq_true rfl)) dX6_set_2 ⟨Nat.zero_le _, Nat.zero_le _⟩) ?_
  refine lv_if_eq (tgt := 32) hx hb dX6_set_5 (by decide) (fun c_1 => ?_) (fun c_1 => ?_)
  · skip
    have c_1b := bI_0 c_1
    refine lv_aload_n hx hb dX6_set_32 rfl (lv_at hl 0 rfl) ?_
    refine lv_ldc hx hb hown k47 dX6_set_33 ?_
    refine callMi (va_runV (As := [.int (-1000000001)]) (rest := []) ⟨hx, hb, hml, hown, hts⟩ (k_X6_finds l D cI cL cS b co gu kn fo sp ki pl ea to qu fd mo tr b1 tp tm so bg te wd va gd bo sz sh le im bf ik (-1000000001) (va_DT (hD _ rfl) rfl) (vp_in_iff.mpr (by decide))) (cwV 1 hts gX6_set_X6_finds rfl rfl rfl (by decide +kernel) ⟨Nat.le_of_ble_eq_true rfl, Nat.le_of_ble_eq_true rfl⟩) ⟨PcR_fb, va_recv hK hP (ci := 4) (q0 := 0) rfl rfl, PcR_pre hP hK⟩ rfl rfl hl.1 rfl (lv_room (Nat.le_of_ble_eq_true rfl)) dX6_set_35 ⟨Nat.zero_le _, Nat.zero_le _⟩) hP (hD _ rfl) hS 0 13 rfl (fun r_3 u_2 H locs hu_2 hP hS => ?_)
    obtain ⟨hu_2r, hu_2⟩ := hu_2
    subst hu_2r
    have hP : va_P D vwCl (mdw cI cL b (enc co gu kn fo sp ki pl ea to qu) (bump fd (-1000000001)) mo tr b1 tp tm so bg te wd va gd bo sz sh le im bf ik) H := hP
    exact W.iret hx hb hr (fun t ht hW => ⟨⟨_, ((co, gu, kn, fo, sp, ki, pl, ea, to, qu), bump fd (-1000000001)), rfl, (by exact (iF_f (fun h => by first | exact absurd h.1 c_1b | exact absurd c_1b h.1 | exact absurd h.2 c_1b | exact absurd c_1b h.2)).symm), by dsimp only; rw [ht]; exact hP⟩, hS.F ht⟩) hS.2.2 dX6_set_38
  · skip
    have c_1b := bI_n c_1
    have h8 : vp_in x0 8 := in_8 ok.gu c_1b
    refine lv_iload_n hx hb dX6_set_8 rfl (lv_at hl 2 rfl) ?_
    refine lv_iload_n hx hb dX6_set_9 rfl (lv_at hl 3 rfl) ?_
    refine callE (W.runS (As := [.int x1, .int x2]) (rest := []) ⟨hx, hb, hml, hown, hts⟩ (k_X6_isPart l x1 x2) (va_cwS 2 hts gX6_set_X6_isPart rfl rfl rfl (by decide +kernel) ⟨Nat.le_of_ble_eq_true rfl, Nat.le_of_ble_eq_true rfl⟩) ⟨PcP_fb, fun U _ _ => ⟨rfl, trivial⟩⟩ rfl rfl hl.1 rfl (lv_room (Nat.le_of_ble_eq_true rfl)) dX6_set_10 ⟨Nat.zero_le _, Nat.zero_le _⟩) ?_
    refine lv_if_eq (tgt := 32) hx hb dX6_set_13 (by decide) (fun c_4 => ?_) (fun c_4 => ?_)
    · skip
      have c_4b := bI_0 c_4
      refine lv_aload_n hx hb dX6_set_32 rfl (lv_at hl 0 rfl) ?_
      refine lv_ldc hx hb hown k47 dX6_set_33 ?_
      refine callMi (va_runV (As := [.int (-1000000001)]) (rest := []) ⟨hx, hb, hml, hown, hts⟩ (k_X6_finds l D cI cL cS b co gu kn fo sp ki pl ea to qu fd mo tr b1 tp tm so bg te wd va gd bo sz sh le im bf ik (-1000000001) (va_DT (hD _ rfl) rfl) (vp_in_iff.mpr (by decide))) (cwV 1 hts gX6_set_X6_finds rfl rfl rfl (by decide +kernel) ⟨Nat.le_of_ble_eq_true rfl, Nat.le_of_ble_eq_true rfl⟩) ⟨PcR_fb, va_recv hK hP (ci := 4) (q0 := 0) rfl rfl, PcR_pre hP hK⟩ rfl rfl hl.1 rfl (lv_room (Nat.le_of_ble_eq_true rfl)) dX6_set_35 ⟨Nat.zero_le _, Nat.zero_le _⟩) hP (hD _ rfl) hS 0 13 rfl (fun r_6 u_5 H locs hu_5 hP hS => ?_)
      obtain ⟨hu_5r, hu_5⟩ := hu_5
      subst hu_5r
      have hP : va_P D vwCl (mdw cI cL b (enc co gu kn fo sp ki pl ea to qu) (bump fd (-1000000001)) mo tr b1 tp tm so bg te wd va gd bo sz sh le im bf ik) H := hP
      exact W.iret hx hb hr (fun t ht hW => ⟨⟨_, ((co, gu, kn, fo, sp, ki, pl, ea, to, qu), bump fd (-1000000001)), rfl, (by exact (iF_f (fun h => by first | exact absurd h.1 c_4b | exact absurd c_4b h.1 | exact absurd h.2 c_4b | exact absurd c_4b h.2)).symm), by dsimp only; rw [ht]; exact hP⟩, hS.F ht⟩) hS.2.2 dX6_set_38
    · skip
      have c_4b := bI_n c_4
      have hw := part_w c_4b
      refine lv_aload_n hx hb dX6_set_16 rfl (lv_at hl 0 rfl) ?_
      refine lv_bipush (v := 32) hx hb dX6_set_17 (by decide) ?_
      refine lv_iconst (v := 5) hx hb dX6_set_19 (by decide) ?_
      refine lv_iload_n hx hb dX6_set_20 rfl (lv_at hl 1 rfl) ?_
      refine lv_imul hx hb dX6_set_21 ?_
      refine lv_iadd hx hb dX6_set_22 ?_
      refine lv_iload_n hx hb dX6_set_23 rfl (lv_at hl 2 rfl) ?_
      refine lv_iadd hx hb dX6_set_24 ?_
      refine lv_iload_n hx hb dX6_set_25 rfl (lv_at hl 3 rfl) ?_
      refine callMi (va_runV (As := [.int ((32 + (5 * x0)) + x1), .int x2]) (rest := []) ⟨hx, hb, hml, hown, hts⟩ (k_X6_becomes l D cI cL cS b co gu kn fo sp ki pl ea to qu fd mo tr b1 tp tm so bg te wd va gd bo sz sh le im bf ik ((32 + (5 * x0)) + x1) x2 (va_DT (hD _ rfl) rfl) ((ixg h8 (part_in hw)).2)) (cwV 2 hts gX6_set_X6_becomes rfl rfl rfl (by decide +kernel) ⟨Nat.le_of_ble_eq_true rfl, Nat.le_of_ble_eq_true rfl⟩) ⟨PcR_fb, va_recv hK hP (ci := 4) (q0 := 0) rfl rfl, PcR_pre hP hK⟩ rfl rfl hl.1 rfl (lv_room (Nat.le_of_ble_eq_true rfl)) dX6_set_26 ⟨Nat.zero_le _, Nat.zero_le _⟩) hP (hD _ rfl) hS 0 13 rfl (fun r_8 u_7 H locs hu_7 hP hS => ?_)
      obtain ⟨hu_7r, hu_7⟩ := hu_7
      subst hu_7r
      have hP : va_P D vwCl (mdw cI cL b (enc co gu kn fo sp ki pl (if x1 = 2 then upd ea (ix x0) x2 else ea) (if x1 = 3 then upd to (ix x0) x2 else to) (if x1 = 4 then upd qu (ix x0) x2 else qu)) fd mo tr b1 tp tm so bg te wd va gd bo sz sh le im bf ik) H := by rw [← set_row h8 hw]; exact hP
      have hP : va_P D vwCl (mdw cI cL b (enc co gu kn fo sp ki pl (if x1 = 2 then upd ea (ix x0) x2 else ea) (if x1 = 3 then upd to (ix x0) x2 else to) (if x1 = 4 then upd qu (ix x0) x2 else qu)) fd mo tr b1 tp tm so bg te wd va gd bo sz sh le im bf ik) H := hP
      refine lv_goto (tgt := 38) hx hb dX6_set_29 (by decide) ?_
      exact W.iret hx hb hr (fun t ht hW => ⟨⟨_, ((co, gu, kn, fo, sp, ki, pl, (if x1 = 2 then upd ea (ix x0) x2 else ea), (if x1 = 3 then upd to (ix x0) x2 else to), (if x1 = 4 then upd qu (ix x0) x2 else qu)), fd), rfl, (by unfold sSetv; rw [iF_t ⟨c_1b, c_4b⟩]; exact set_ans h8 hw), by dsimp only; rw [ht]; exact hP⟩, hS.F ht⟩) hS.2.2 dX6_set_38

set_option maxRecDepth 100000 in
set_option maxHeartbeats 4000000 in
theorem k_X6_seat (l : Launch) (D : va_G) (cI cL cS : ClassId) (b : Nat → Nat) (co gu : Int32) (kn fo sp ki pl ea to qu : FI) (fd : FI) (mo : FI) (tr : FI) (b1 : FI) (tp : FI) (tm : Int32) (so : Int32) (bg : Int32) (te : Int32) (wd : Int64) (va : Int32) (gd : Int32) (bo : FI) (sz : FI) (sh : FJ) (le : FJ) (im : FI) (bf : FI) (ik : Int32) (x0 : Int32) (x1 : Int32) (dj : va_D (fun _ => True) (dj0 b 13)) (ok : okT gu kn fo sp (whC gu pl) ki pl) : Met l yX6_seat wsX6_seat { frames := 2, cells := 0, slots := 0, locals := 45 } (PcR D vwCl (tyG cI cL cS) [.ref (b 0), .int x0, .int x1] (mdw cI cL b (enc co gu kn fo sp ki pl ea to qu) fd mo tr b1 tp tm so bg te wd va gd bo sz sh le im bf ik)) (va_Qi (fun (r : Int32) (u : Sg × FI) => (r, u.1, u.2) = sSeat (co, gu, kn, fo, sp, ki, pl, ea, to, qu) fd x0 x1) (fun u t => va_P D vwCl (mdw cI cL b (encS u.1) u.2 mo tr b1 tp tm so bg te wd va gd bo sz sh le im bf ik) t.heap) (Aof (mdw cI cL b (enc co gu kn fo sp ki pl ea to qu) fd mo tr b1 tp tm so bg te wd va gd bo sz sh le im bf ik))) 0 0 (Aof (mdw cI cL b (enc co gu kn fo sp ki pl ea to qu) fd mo tr b1 tp tm so bg te wd va gd bo sz sh le im bf ik)) := by
  refine Met.ofW (cc := cX6_seat) (maxL := 4) (ret := (some .int)) (by decide) rfl ?_
  intro p e s m args below meth c s₁ B hml hv
  obtain ⟨rfl, hP, hK⟩ := hv
  have hx := B.exec
  have hb := B.bytes
  have hr := B.returns
  have hts := atoms_spec (ws := wsX6_seat) B.pre
  have hown : s.vm.findClass RX6 = some m.cls := findClass_of_methodNamed B.named
  have hlocks := B.notSynchronized
  obtain ⟨A, hAe⟩ : ∃ A, A = Aof (mdw cI cL b (enc co gu kn fo sp ki pl ea to qu) fd mo tr b1 tp tm so bg te wd va gd bo sz sh le im bf ik) := ⟨_, rfl⟩
  rw [← hAe]
  have hD : ∀ ws' : va_W, ws'.map Prod.fst = (mdw cI cL b (enc co gu kn fo sp ki pl ea to qu) fd mo tr b1 tp tm so bg te wd va gd bo sz sh le im bf ik).map Prod.fst → va_D A ws' := fun ws' e => by rw [hAe]; exact va_D_adr (va_D_self (va_D_adr dj rfl)) e
  have hS : va_S A s.heap s.heap [] := va_S.rf
  have hP : va_P D vwCl (mdw cI cL b (enc co gu kn fo sp ki pl ea to qu) fd mo tr b1 tp tm so bg te wd va gd bo sz sh le im bf ik) s.heap := hP
  have hl := lv_entry ([.ref (b 0), .int x0, .int x1]) (n := 4) (Nat.le_of_ble_eq_true rfl)
  rw [lg_entry_eq]
  generalize (lg_sl ([.ref (b 0), .int x0, .int x1]) ++ List.replicate (4 - (lg_sl ([.ref (b 0), .int x0, .int x1])).length) Slot.unset).toArray = ls at hl ⊢
  have hl : lv_has ls 4 [(0, .ref (b 0)), (1, .int x0), (2, .int x1)] := hl
  have k47 := hts (.constant RX6 47 (-1000000001)) (List.mem_of_getElem? (i := 1) rfl)
  have k109 := hts (.constant RX6 109 (-1000000005)) (List.mem_of_getElem? (i := 2) rfl)
  skip
  refine lv_aload_n hx hb dX6_seat_0 rfl (lv_at hl 0 rfl) ?_
  refine lv_iload_n hx hb dX6_seat_1 rfl (lv_at hl 1 rfl) ?_
  refine callE (W.runV (As := [.int x0]) (rest := []) ⟨hx, hb, hml, hown, hts⟩ (k_X6_isOne l D cI cL cS b co gu kn fo sp ki pl ea to qu fd mo tr b1 tp tm so bg te wd va gd bo sz sh le im bf ik x0 ok.gu) (cwV 1 hts gX6_seat_X6_isOne rfl rfl rfl (by decide +kernel) ⟨Nat.le_of_ble_eq_true rfl, Nat.le_of_ble_eq_true rfl⟩) ⟨PcR_fb, va_recv hK hP (ci := 4) (q0 := 0) rfl rfl, PcR_pre hP hK⟩ rfl rfl hl.1 rfl (lv_room (Nat.le_of_ble_eq_true rfl)) dX6_seat_2 ⟨Nat.zero_le _, Nat.zero_le _⟩) ?_
  refine lv_if_eq (tgt := 15) hx hb dX6_seat_5 (by decide) (fun c_1 => ?_) (fun c_1 => ?_)
  · skip
    have c_1b := bI_0 c_1
    refine lv_aload_n hx hb dX6_seat_15 rfl (lv_at hl 0 rfl) ?_
    refine lv_ldc hx hb hown k47 dX6_seat_16 ?_
    refine callMi (va_runV (As := [.int (-1000000001)]) (rest := []) ⟨hx, hb, hml, hown, hts⟩ (k_X6_finds l D cI cL cS b co gu kn fo sp ki pl ea to qu fd mo tr b1 tp tm so bg te wd va gd bo sz sh le im bf ik (-1000000001) (va_DT (hD _ rfl) rfl) (vp_in_iff.mpr (by decide))) (cwV 1 hts gX6_seat_X6_finds rfl rfl rfl (by decide +kernel) ⟨Nat.le_of_ble_eq_true rfl, Nat.le_of_ble_eq_true rfl⟩) ⟨PcR_fb, va_recv hK hP (ci := 4) (q0 := 0) rfl rfl, PcR_pre hP hK⟩ rfl rfl hl.1 rfl (lv_room (Nat.le_of_ble_eq_true rfl)) dX6_seat_18 ⟨Nat.zero_le _, Nat.zero_le _⟩) hP (hD _ rfl) hS 0 13 rfl (fun r_3 u_2 H locs hu_2 hP hS => ?_)
    obtain ⟨hu_2r, hu_2⟩ := hu_2
    subst hu_2r
    have hP : va_P D vwCl (mdw cI cL b (enc co gu kn fo sp ki pl ea to qu) (bump fd (-1000000001)) mo tr b1 tp tm so bg te wd va gd bo sz sh le im bf ik) H := hP
    exact W.iret hx hb hr (fun t ht hW => ⟨⟨_, ((co, gu, kn, fo, sp, ki, pl, ea, to, qu), bump fd (-1000000001)), rfl, (by exact (iF_f (fun h => by first | exact absurd h.1 c_1b | exact absurd c_1b h.1 | exact absurd h.2 c_1b | exact absurd c_1b h.2)).symm), by dsimp only; rw [ht]; exact hP⟩, hS.F ht⟩) hS.2.2 dX6_seat_21
  · skip
    have c_1b := bI_n c_1
    have h8 : vp_in x0 8 := in_8 ok.gu c_1b
    refine lv_iload_n hx hb dX6_seat_8 rfl (lv_at hl 2 rfl) ?_
    refine callE (W.runS (As := [.int x1]) (rest := []) ⟨hx, hb, hml, hown, hts⟩ (k_X6_isPlace l x1) (va_cwS 1 hts gX6_seat_X6_isPlace rfl rfl rfl (by decide +kernel) ⟨Nat.le_of_ble_eq_true rfl, Nat.le_of_ble_eq_true rfl⟩) ⟨PcP_fb, fun U _ _ => ⟨rfl, trivial⟩⟩ rfl rfl hl.1 rfl (lv_room (Nat.le_of_ble_eq_true rfl)) dX6_seat_9 ⟨Nat.zero_le _, Nat.zero_le _⟩) ?_
    refine lv_if_ne (tgt := 22) hx hb dX6_seat_12 (by decide) (fun c_4 => ?_) (fun c_4 => ?_)
    · skip
      have c_4b := bI_n c_4
      refine lv_aload_n hx hb dX6_seat_22 rfl (lv_at hl 0 rfl) ?_
      refine lv_iload_n hx hb dX6_seat_23 rfl (lv_at hl 2 rfl) ?_
      refine callE (W.runV (As := [.int x1]) (rest := []) ⟨hx, hb, hml, hown, hts⟩ (k_X6_whoAt l D cI cL cS b co gu kn fo sp ki pl ea to qu fd mo tr b1 tp tm so bg te wd va gd bo sz sh le im bf ik x1 ok.gu) (cwV 1 hts gX6_seat_X6_whoAt rfl rfl rfl (by decide +kernel) ⟨Nat.le_of_ble_eq_true rfl, Nat.le_of_ble_eq_true rfl⟩) ⟨PcR_fb, va_recv hK hP (ci := 4) (q0 := 0) rfl rfl, PcR_pre hP hK⟩ rfl rfl hl.1 rfl (lv_room (Nat.le_of_ble_eq_true rfl)) dX6_seat_24 ⟨Nat.zero_le _, Nat.zero_le _⟩) ?_
      refine lv_istore_n (lv' := [(3, .int (sWhoN pl x1 (ix gu))), (0, .ref (b 0)), (1, .int x0), (2, .int x1)]) hx hb dX6_seat_27 rfl hl (by decide) rfl (fun ls hl => ?_)
      refine lv_iload_n hx hb dX6_seat_28 rfl (lv_at hl 0 rfl) ?_
      refine lv_if_lt (tgt := 46) hx hb dX6_seat_29 (by decide) (fun c_5 => ?_) (fun c_5 => ?_)
      · skip
        refine lv_aload_n hx hb dX6_seat_46 rfl (lv_at hl 1 rfl) ?_
        refine lv_bipush (v := 32) hx hb dX6_seat_47 (by decide) ?_
        refine lv_iconst (v := 5) hx hb dX6_seat_49 (by decide) ?_
        refine lv_iload_n hx hb dX6_seat_50 rfl (lv_at hl 2 rfl) ?_
        refine lv_imul hx hb dX6_seat_51 ?_
        refine lv_iadd hx hb dX6_seat_52 ?_
        refine lv_iconst (v := 1) hx hb dX6_seat_53 (by decide) ?_
        refine lv_iadd hx hb dX6_seat_54 ?_
        refine lv_iload_n hx hb dX6_seat_55 rfl (lv_at hl 3 rfl) ?_
        refine callMi (va_runV (As := [.int ((32 + (5 * x0)) + 1), .int x1]) (rest := []) ⟨hx, hb, hml, hown, hts⟩ (k_X6_becomes l D cI cL cS b co gu kn fo sp ki pl ea to qu fd mo tr b1 tp tm so bg te wd va gd bo sz sh le im bf ik ((32 + (5 * x0)) + 1) x1 (va_DT (hD _ rfl) rfl) ((ixg h8 (vp_in_iff.mpr (by decide))).2)) (cwV 2 hts gX6_seat_X6_becomes rfl rfl rfl (by decide +kernel) ⟨Nat.le_of_ble_eq_true rfl, Nat.le_of_ble_eq_true rfl⟩) ⟨PcR_fb, va_recv hK hP (ci := 4) (q0 := 0) rfl rfl, PcR_pre hP hK⟩ rfl rfl hl.1 rfl (lv_room (Nat.le_of_ble_eq_true rfl)) dX6_seat_56 ⟨Nat.zero_le _, Nat.zero_le _⟩) hP (hD _ rfl) hS 0 13 rfl (fun r_7 u_6 H locs hu_6 hP hS => ?_)
        obtain ⟨hu_6r, hu_6⟩ := hu_6
        subst hu_6r
        have hP : va_P D vwCl (mdw cI cL b (enc co gu kn fo sp ki (upd pl (ix x0) x1) ea to qu) fd mo tr b1 tp tm so bg te wd va gd bo sz sh le im bf ik) H := by rw [← enc_w1 h8]; exact hP
        have hP : va_P D vwCl (mdw cI cL b (enc co gu kn fo sp ki (upd pl (ix x0) x1) ea to qu) fd mo tr b1 tp tm so bg te wd va gd bo sz sh le im bf ik) H := hP
        exact W.iret hx hb hr (fun t ht hW => ⟨⟨_, ((co, gu, kn, fo, sp, ki, upd pl (ix x0) x1, ea, to, qu), fd), rfl, (by unfold sSeat; rw [iF_t ⟨c_1b, c_4b⟩, iF_t (Or.inl (Classical.not_not.mp (fun h => (who_neg ok.gu).mpr h c_5)))]; exact seat_ans h8), by dsimp only; rw [ht]; exact hP⟩, hS.F ht⟩) hS.2.2 dX6_seat_59
      · skip
        refine lv_iload_n hx hb dX6_seat_32 rfl (lv_at hl 0 rfl) ?_
        refine lv_iload_n hx hb dX6_seat_33 rfl (lv_at hl 2 rfl) ?_
        refine lv_icmp_eq (tgt := 46) hx hb dX6_seat_34 (by decide) (fun c_8 => ?_) (fun c_8 => ?_)
        · skip
          refine lv_aload_n hx hb dX6_seat_46 rfl (lv_at hl 1 rfl) ?_
          refine lv_bipush (v := 32) hx hb dX6_seat_47 (by decide) ?_
          refine lv_iconst (v := 5) hx hb dX6_seat_49 (by decide) ?_
          refine lv_iload_n hx hb dX6_seat_50 rfl (lv_at hl 2 rfl) ?_
          refine lv_imul hx hb dX6_seat_51 ?_
          refine lv_iadd hx hb dX6_seat_52 ?_
          refine lv_iconst (v := 1) hx hb dX6_seat_53 (by decide) ?_
          refine lv_iadd hx hb dX6_seat_54 ?_
          refine lv_iload_n hx hb dX6_seat_55 rfl (lv_at hl 3 rfl) ?_
          refine callMi (va_runV (As := [.int ((32 + (5 * x0)) + 1), .int x1]) (rest := []) ⟨hx, hb, hml, hown, hts⟩ (k_X6_becomes l D cI cL cS b co gu kn fo sp ki pl ea to qu fd mo tr b1 tp tm so bg te wd va gd bo sz sh le im bf ik ((32 + (5 * x0)) + 1) x1 (va_DT (hD _ rfl) rfl) ((ixg h8 (vp_in_iff.mpr (by decide))).2)) (cwV 2 hts gX6_seat_X6_becomes rfl rfl rfl (by decide +kernel) ⟨Nat.le_of_ble_eq_true rfl, Nat.le_of_ble_eq_true rfl⟩) ⟨PcR_fb, va_recv hK hP (ci := 4) (q0 := 0) rfl rfl, PcR_pre hP hK⟩ rfl rfl hl.1 rfl (lv_room (Nat.le_of_ble_eq_true rfl)) dX6_seat_56 ⟨Nat.zero_le _, Nat.zero_le _⟩) hP (hD _ rfl) hS 0 13 rfl (fun r_10 u_9 H locs hu_9 hP hS => ?_)
          obtain ⟨hu_9r, hu_9⟩ := hu_9
          subst hu_9r
          have hP : va_P D vwCl (mdw cI cL b (enc co gu kn fo sp ki (upd pl (ix x0) x1) ea to qu) fd mo tr b1 tp tm so bg te wd va gd bo sz sh le im bf ik) H := by rw [← enc_w1 h8]; exact hP
          have hP : va_P D vwCl (mdw cI cL b (enc co gu kn fo sp ki (upd pl (ix x0) x1) ea to qu) fd mo tr b1 tp tm so bg te wd va gd bo sz sh le im bf ik) H := hP
          exact W.iret hx hb hr (fun t ht hW => ⟨⟨_, ((co, gu, kn, fo, sp, ki, upd pl (ix x0) x1, ea, to, qu), fd), rfl, (by unfold sSeat; rw [iF_t ⟨c_1b, c_4b⟩, iF_t (Or.inr c_8)]; exact seat_ans h8), by dsimp only; rw [ht]; exact hP⟩, hS.F ht⟩) hS.2.2 dX6_seat_59
        · skip
          refine lv_aload_n hx hb dX6_seat_37 rfl (lv_at hl 1 rfl) ?_
          refine lv_ldc hx hb hown k109 dX6_seat_38 ?_
          refine callMi (va_runV (As := [.int (-1000000005)]) (rest := []) ⟨hx, hb, hml, hown, hts⟩ (k_X6_finds l D cI cL cS b co gu kn fo sp ki pl ea to qu fd mo tr b1 tp tm so bg te wd va gd bo sz sh le im bf ik (-1000000005) (va_DT (hD _ rfl) rfl) (vp_in_iff.mpr (by decide))) (cwV 1 hts gX6_seat_X6_finds rfl rfl rfl (by decide +kernel) ⟨Nat.le_of_ble_eq_true rfl, Nat.le_of_ble_eq_true rfl⟩) ⟨PcR_fb, va_recv hK hP (ci := 4) (q0 := 0) rfl rfl, PcR_pre hP hK⟩ rfl rfl hl.1 rfl (lv_room (Nat.le_of_ble_eq_true rfl)) dX6_seat_40 ⟨Nat.zero_le _, Nat.zero_le _⟩) hP (hD _ rfl) hS 0 13 rfl (fun r_12 u_11 H locs hu_11 hP hS => ?_)
          obtain ⟨hu_11r, hu_11⟩ := hu_11
          subst hu_11r
          have hP : va_P D vwCl (mdw cI cL b (enc co gu kn fo sp ki pl ea to qu) (bump fd (-1000000005)) mo tr b1 tp tm so bg te wd va gd bo sz sh le im bf ik) H := hP
          refine lv_goto (tgt := 59) hx hb dX6_seat_43 (by decide) ?_
          exact W.iret hx hb hr (fun t ht hW => ⟨⟨_, ((co, gu, kn, fo, sp, ki, pl, ea, to, qu), bump fd (-1000000005)), rfl, (by unfold sSeat; rw [iF_t ⟨c_1b, c_4b⟩, iF_f (fun h => h.elim ((who_neg ok.gu).mp c_5) c_8)]), by dsimp only; rw [ht]; exact hP⟩, hS.F ht⟩) hS.2.2 dX6_seat_59
    · skip
      have c_4b := bI_0 c_4
      refine lv_aload_n hx hb dX6_seat_15 rfl (lv_at hl 0 rfl) ?_
      refine lv_ldc hx hb hown k47 dX6_seat_16 ?_
      refine callMi (va_runV (As := [.int (-1000000001)]) (rest := []) ⟨hx, hb, hml, hown, hts⟩ (k_X6_finds l D cI cL cS b co gu kn fo sp ki pl ea to qu fd mo tr b1 tp tm so bg te wd va gd bo sz sh le im bf ik (-1000000001) (va_DT (hD _ rfl) rfl) (vp_in_iff.mpr (by decide))) (cwV 1 hts gX6_seat_X6_finds rfl rfl rfl (by decide +kernel) ⟨Nat.le_of_ble_eq_true rfl, Nat.le_of_ble_eq_true rfl⟩) ⟨PcR_fb, va_recv hK hP (ci := 4) (q0 := 0) rfl rfl, PcR_pre hP hK⟩ rfl rfl hl.1 rfl (lv_room (Nat.le_of_ble_eq_true rfl)) dX6_seat_18 ⟨Nat.zero_le _, Nat.zero_le _⟩) hP (hD _ rfl) hS 0 13 rfl (fun r_14 u_13 H locs hu_13 hP hS => ?_)
      obtain ⟨hu_13r, hu_13⟩ := hu_13
      subst hu_13r
      have hP : va_P D vwCl (mdw cI cL b (enc co gu kn fo sp ki pl ea to qu) (bump fd (-1000000001)) mo tr b1 tp tm so bg te wd va gd bo sz sh le im bf ik) H := hP
      exact W.iret hx hb hr (fun t ht hW => ⟨⟨_, ((co, gu, kn, fo, sp, ki, pl, ea, to, qu), bump fd (-1000000001)), rfl, (by exact (iF_f (fun h => by first | exact absurd h.1 c_4b | exact absurd c_4b h.1 | exact absurd h.2 c_4b | exact absurd c_4b h.2)).symm), by dsimp only; rw [ht]; exact hP⟩, hS.F ht⟩) hS.2.2 dX6_seat_21

set_option maxRecDepth 100000 in
set_option maxHeartbeats 4000000 in
theorem k_X6_swap (l : Launch) (D : va_G) (cI cL cS : ClassId) (b : Nat → Nat) (co gu : Int32) (kn fo sp ki pl ea to qu : FI) (fd : FI) (mo : FI) (tr : FI) (b1 : FI) (tp : FI) (tm : Int32) (so : Int32) (bg : Int32) (te : Int32) (wd : Int64) (va : Int32) (gd : Int32) (bo : FI) (sz : FI) (sh : FJ) (le : FJ) (im : FI) (bf : FI) (ik : Int32) (x0 : Int32) (x1 : Int32) (dj : va_D (fun _ => True) (dj0 b 13)) (ok : okT gu kn fo sp (whC gu pl) ki pl) : Met l yX6_swap wsX6_swap { frames := 2, cells := 0, slots := 0, locals := 46 } (PcR D vwCl (tyG cI cL cS) [.ref (b 0), .int x0, .int x1] (mdw cI cL b (enc co gu kn fo sp ki pl ea to qu) fd mo tr b1 tp tm so bg te wd va gd bo sz sh le im bf ik)) (va_Qi (fun (r : Int32) (u : Sg × FI) => (r, u.1, u.2) = sSwap (co, gu, kn, fo, sp, ki, pl, ea, to, qu) fd x0 x1) (fun u t => va_P D vwCl (mdw cI cL b (encS u.1) u.2 mo tr b1 tp tm so bg te wd va gd bo sz sh le im bf ik) t.heap) (Aof (mdw cI cL b (enc co gu kn fo sp ki pl ea to qu) fd mo tr b1 tp tm so bg te wd va gd bo sz sh le im bf ik))) 0 0 (Aof (mdw cI cL b (enc co gu kn fo sp ki pl ea to qu) fd mo tr b1 tp tm so bg te wd va gd bo sz sh le im bf ik)) := by
  refine Met.ofW (cc := cX6_swap) (maxL := 3) (ret := (some .int)) (by decide) rfl ?_
  intro p e s m args below meth c s₁ B hml hv
  obtain ⟨rfl, hP, hK⟩ := hv
  have hx := B.exec
  have hb := B.bytes
  have hr := B.returns
  have hts := atoms_spec (ws := wsX6_swap) B.pre
  have hown : s.vm.findClass RX6 = some m.cls := findClass_of_methodNamed B.named
  have hlocks := B.notSynchronized
  obtain ⟨A, hAe⟩ : ∃ A, A = Aof (mdw cI cL b (enc co gu kn fo sp ki pl ea to qu) fd mo tr b1 tp tm so bg te wd va gd bo sz sh le im bf ik) := ⟨_, rfl⟩
  rw [← hAe]
  have hD : ∀ ws' : va_W, ws'.map Prod.fst = (mdw cI cL b (enc co gu kn fo sp ki pl ea to qu) fd mo tr b1 tp tm so bg te wd va gd bo sz sh le im bf ik).map Prod.fst → va_D A ws' := fun ws' e => by rw [hAe]; exact va_D_adr (va_D_self (va_D_adr dj rfl)) e
  have hS : va_S A s.heap s.heap [] := va_S.rf
  have hP : va_P D vwCl (mdw cI cL b (enc co gu kn fo sp ki pl ea to qu) fd mo tr b1 tp tm so bg te wd va gd bo sz sh le im bf ik) s.heap := hP
  have hl := lv_entry ([.ref (b 0), .int x0, .int x1]) (n := 3) (Nat.le_of_ble_eq_true rfl)
  rw [lg_entry_eq]
  generalize (lg_sl ([.ref (b 0), .int x0, .int x1]) ++ List.replicate (3 - (lg_sl ([.ref (b 0), .int x0, .int x1])).length) Slot.unset).toArray = ls at hl ⊢
  have hl : lv_has ls 3 [(0, .ref (b 0)), (1, .int x0), (2, .int x1)] := hl
  have k47 := hts (.constant RX6 47 (-1000000001)) (List.mem_of_getElem? (i := 1) rfl)
  skip
  refine lv_aload_n hx hb dX6_swap_0 rfl (lv_at hl 0 rfl) ?_
  refine lv_iload_n hx hb dX6_swap_1 rfl (lv_at hl 1 rfl) ?_
  refine callE (W.runV (As := [.int x0]) (rest := []) ⟨hx, hb, hml, hown, hts⟩ (k_X6_isOne l D cI cL cS b co gu kn fo sp ki pl ea to qu fd mo tr b1 tp tm so bg te wd va gd bo sz sh le im bf ik x0 ok.gu) (cwV 1 hts gX6_swap_X6_isOne rfl rfl rfl (by decide +kernel) ⟨Nat.le_of_ble_eq_true rfl, Nat.le_of_ble_eq_true rfl⟩) ⟨PcR_fb, va_recv hK hP (ci := 4) (q0 := 0) rfl rfl, PcR_pre hP hK⟩ rfl rfl hl.1 rfl (lv_room (Nat.le_of_ble_eq_true rfl)) dX6_swap_2 ⟨Nat.zero_le _, Nat.zero_le _⟩) ?_
  refine lv_if_eq (tgt := 21) hx hb dX6_swap_5 (by decide) (fun c_1 => ?_) (fun c_1 => ?_)
  · skip
    have c_1b := bI_0 c_1
    refine lv_aload_n hx hb dX6_swap_21 rfl (lv_at hl 0 rfl) ?_
    refine lv_ldc hx hb hown k47 dX6_swap_22 ?_
    refine callMi (va_runV (As := [.int (-1000000001)]) (rest := []) ⟨hx, hb, hml, hown, hts⟩ (k_X6_finds l D cI cL cS b co gu kn fo sp ki pl ea to qu fd mo tr b1 tp tm so bg te wd va gd bo sz sh le im bf ik (-1000000001) (va_DT (hD _ rfl) rfl) (vp_in_iff.mpr (by decide))) (cwV 1 hts gX6_swap_X6_finds rfl rfl rfl (by decide +kernel) ⟨Nat.le_of_ble_eq_true rfl, Nat.le_of_ble_eq_true rfl⟩) ⟨PcR_fb, va_recv hK hP (ci := 4) (q0 := 0) rfl rfl, PcR_pre hP hK⟩ rfl rfl hl.1 rfl (lv_room (Nat.le_of_ble_eq_true rfl)) dX6_swap_24 ⟨Nat.zero_le _, Nat.zero_le _⟩) hP (hD _ rfl) hS 0 13 rfl (fun r_3 u_2 H locs hu_2 hP hS => ?_)
    obtain ⟨hu_2r, hu_2⟩ := hu_2
    subst hu_2r
    have hP : va_P D vwCl (mdw cI cL b (enc co gu kn fo sp ki pl ea to qu) (bump fd (-1000000001)) mo tr b1 tp tm so bg te wd va gd bo sz sh le im bf ik) H := hP
    exact W.iret hx hb hr (fun t ht hW => ⟨⟨_, ((co, gu, kn, fo, sp, ki, pl, ea, to, qu), bump fd (-1000000001)), rfl, (by exact (iF_f (fun h => by first | exact absurd h.1 c_1b | exact absurd c_1b h.1 | exact absurd h.2.1 c_1b | exact absurd c_1b h.2.1 | exact absurd h.2.2 c_1b | exact absurd c_1b h.2.2)).symm), by dsimp only; rw [ht]; exact hP⟩, hS.F ht⟩) hS.2.2 dX6_swap_27
  · skip
    have c_1b := bI_n c_1
    have h8 : vp_in x0 8 := in_8 ok.gu c_1b
    refine lv_aload_n hx hb dX6_swap_8 rfl (lv_at hl 0 rfl) ?_
    refine lv_iload_n hx hb dX6_swap_9 rfl (lv_at hl 2 rfl) ?_
    refine callE (W.runV (As := [.int x1]) (rest := []) ⟨hx, hb, hml, hown, hts⟩ (k_X6_isOne l D cI cL cS b co gu kn fo sp ki pl ea to qu fd mo tr b1 tp tm so bg te wd va gd bo sz sh le im bf ik x1 ok.gu) (cwV 1 hts gX6_swap_X6_isOne rfl rfl rfl (by decide +kernel) ⟨Nat.le_of_ble_eq_true rfl, Nat.le_of_ble_eq_true rfl⟩) ⟨PcR_fb, va_recv hK hP (ci := 4) (q0 := 0) rfl rfl, PcR_pre hP hK⟩ rfl rfl hl.1 rfl (lv_room (Nat.le_of_ble_eq_true rfl)) dX6_swap_10 ⟨Nat.zero_le _, Nat.zero_le _⟩) ?_
    refine lv_if_eq (tgt := 21) hx hb dX6_swap_13 (by decide) (fun c_4 => ?_) (fun c_4 => ?_)
    · skip
      have c_4b := bI_0 c_4
      refine lv_aload_n hx hb dX6_swap_21 rfl (lv_at hl 0 rfl) ?_
      refine lv_ldc hx hb hown k47 dX6_swap_22 ?_
      refine callMi (va_runV (As := [.int (-1000000001)]) (rest := []) ⟨hx, hb, hml, hown, hts⟩ (k_X6_finds l D cI cL cS b co gu kn fo sp ki pl ea to qu fd mo tr b1 tp tm so bg te wd va gd bo sz sh le im bf ik (-1000000001) (va_DT (hD _ rfl) rfl) (vp_in_iff.mpr (by decide))) (cwV 1 hts gX6_swap_X6_finds rfl rfl rfl (by decide +kernel) ⟨Nat.le_of_ble_eq_true rfl, Nat.le_of_ble_eq_true rfl⟩) ⟨PcR_fb, va_recv hK hP (ci := 4) (q0 := 0) rfl rfl, PcR_pre hP hK⟩ rfl rfl hl.1 rfl (lv_room (Nat.le_of_ble_eq_true rfl)) dX6_swap_24 ⟨Nat.zero_le _, Nat.zero_le _⟩) hP (hD _ rfl) hS 0 13 rfl (fun r_6 u_5 H locs hu_5 hP hS => ?_)
      obtain ⟨hu_5r, hu_5⟩ := hu_5
      subst hu_5r
      have hP : va_P D vwCl (mdw cI cL b (enc co gu kn fo sp ki pl ea to qu) (bump fd (-1000000001)) mo tr b1 tp tm so bg te wd va gd bo sz sh le im bf ik) H := hP
      exact W.iret hx hb hr (fun t ht hW => ⟨⟨_, ((co, gu, kn, fo, sp, ki, pl, ea, to, qu), bump fd (-1000000001)), rfl, (by exact (iF_f (fun h => by first | exact absurd h.1 c_4b | exact absurd c_4b h.1 | exact absurd h.2.1 c_4b | exact absurd c_4b h.2.1 | exact absurd h.2.2 c_4b | exact absurd c_4b h.2.2)).symm), by dsimp only; rw [ht]; exact hP⟩, hS.F ht⟩) hS.2.2 dX6_swap_27
    · skip
      have c_4b := bI_n c_4
      have h9 : vp_in x1 8 := in_8 ok.gu c_4b
      refine lv_iload_n hx hb dX6_swap_16 rfl (lv_at hl 1 rfl) ?_
      refine lv_iload_n hx hb dX6_swap_17 rfl (lv_at hl 2 rfl) ?_
      refine lv_icmp_ne (tgt := 28) hx hb dX6_swap_18 (by decide) (fun c_7 => ?_) (fun c_7 => ?_)
      · skip
        refine lv_aload_n hx hb dX6_swap_28 rfl (lv_at hl 0 rfl) ?_
        refine lv_iload_n hx hb dX6_swap_29 rfl (lv_at hl 1 rfl) ?_
        refine lv_iload_n hx hb dX6_swap_30 rfl (lv_at hl 2 rfl) ?_
        refine callMv (va_runV (As := [.int x0, .int x1]) (rest := []) ⟨hx, hb, hml, hown, hts⟩ (k_X6_swaps l D cI cL cS b co gu kn fo sp ki pl ea to qu fd mo tr b1 tp tm so bg te wd va gd bo sz sh le im bf ik x0 x1 (va_DT (hD _ rfl) rfl) h8 h9) (cwV 2 hts gX6_swap_X6_swaps rfl rfl rfl (by decide +kernel) ⟨Nat.le_of_ble_eq_true rfl, Nat.le_of_ble_eq_true rfl⟩) ⟨PcR_fb, va_recv hK hP (ci := 4) (q0 := 0) rfl rfl, PcR_pre hP hK⟩ rfl rfl hl.1 rfl (lv_room (Nat.le_of_ble_eq_true rfl)) dX6_swap_31 ⟨Nat.zero_le _, Nat.zero_le _⟩) hP (hD _ rfl) hS 0 13 rfl (fun u_8 H locs hu_8 hP hS => ?_)
        have hP : va_P D vwCl (mdw cI cL b (enc co gu kn fo sp ki (upd (upd pl (ix x0) (pl (ix x1))) (ix x1) (pl (ix x0))) ea to qu) fd mo tr b1 tp tm so bg te wd va gd bo sz sh le im bf ik) H := hP
        refine lv_iconst (v := 1) hx hb dX6_swap_34 (by decide) ?_
        exact W.iret hx hb hr (fun t ht hW => ⟨⟨_, ((co, gu, kn, fo, sp, ki, upd (upd pl (ix x0) (pl (ix x1))) (ix x1) (pl (ix x0)), ea, to, qu), fd), rfl, (by exact (iF_t ⟨c_1b, c_4b, c_7⟩).symm), by dsimp only; rw [ht]; exact hP⟩, hS.F ht⟩) hS.2.2 dX6_swap_35
      · skip
        refine lv_aload_n hx hb dX6_swap_21 rfl (lv_at hl 0 rfl) ?_
        refine lv_ldc hx hb hown k47 dX6_swap_22 ?_
        refine callMi (va_runV (As := [.int (-1000000001)]) (rest := []) ⟨hx, hb, hml, hown, hts⟩ (k_X6_finds l D cI cL cS b co gu kn fo sp ki pl ea to qu fd mo tr b1 tp tm so bg te wd va gd bo sz sh le im bf ik (-1000000001) (va_DT (hD _ rfl) rfl) (vp_in_iff.mpr (by decide))) (cwV 1 hts gX6_swap_X6_finds rfl rfl rfl (by decide +kernel) ⟨Nat.le_of_ble_eq_true rfl, Nat.le_of_ble_eq_true rfl⟩) ⟨PcR_fb, va_recv hK hP (ci := 4) (q0 := 0) rfl rfl, PcR_pre hP hK⟩ rfl rfl hl.1 rfl (lv_room (Nat.le_of_ble_eq_true rfl)) dX6_swap_24 ⟨Nat.zero_le _, Nat.zero_le _⟩) hP (hD _ rfl) hS 0 13 rfl (fun r_11 u_10 H locs hu_10 hP hS => ?_)
        obtain ⟨hu_10r, hu_10⟩ := hu_10
        subst hu_10r
        have hP : va_P D vwCl (mdw cI cL b (enc co gu kn fo sp ki pl ea to qu) (bump fd (-1000000001)) mo tr b1 tp tm so bg te wd va gd bo sz sh le im bf ik) H := hP
        exact W.iret hx hb hr (fun t ht hW => ⟨⟨_, ((co, gu, kn, fo, sp, ki, pl, ea, to, qu), bump fd (-1000000001)), rfl, (by exact (iF_f (fun h => by first | exact absurd h.1 c_7 | exact absurd c_7 h.1 | exact absurd h.2.1 c_7 | exact absurd c_7 h.2.1 | exact absurd h.2.2 c_7 | exact absurd c_7 h.2.2)).symm), by dsimp only; rw [ht]; exact hP⟩, hS.F ht⟩) hS.2.2 dX6_swap_27

set_option maxRecDepth 100000 in
set_option maxHeartbeats 4000000 in
theorem k_X6_turn (l : Launch) (D : va_G) (cI cL cS : ClassId) (b : Nat → Nat) (co gu : Int32) (kn fo sp ki pl ea to qu : FI) (fd : FI) (mo : FI) (tr : FI) (b1 : FI) (tp : FI) (tm : Int32) (so : Int32) (bg : Int32) (te : Int32) (wd : Int64) (va : Int32) (gd : Int32) (bo : FI) (sz : FI) (sh : FJ) (le : FJ) (im : FI) (bf : FI) (ik : Int32) (x0 : Int32) (x1 : Int32) (dj : va_D (fun _ => True) (dj0 b 13)) (ok : okT gu kn fo sp (whC gu pl) ki pl) : Met l yX6_turn wsX6_turn { frames := 2, cells := 0, slots := 0, locals := 43 } (PcR D vwCl (tyG cI cL cS) [.ref (b 0), .int x0, .int x1] (mdw cI cL b (enc co gu kn fo sp ki pl ea to qu) fd mo tr b1 tp tm so bg te wd va gd bo sz sh le im bf ik)) (va_Qi (fun (r : Int32) (u : Sg × FI) => (r, u.1, u.2) = sTurn (co, gu, kn, fo, sp, ki, pl, ea, to, qu) fd x0 x1) (fun u t => va_P D vwCl (mdw cI cL b (encS u.1) u.2 mo tr b1 tp tm so bg te wd va gd bo sz sh le im bf ik) t.heap) (Aof (mdw cI cL b (enc co gu kn fo sp ki pl ea to qu) fd mo tr b1 tp tm so bg te wd va gd bo sz sh le im bf ik))) 0 0 (Aof (mdw cI cL b (enc co gu kn fo sp ki pl ea to qu) fd mo tr b1 tp tm so bg te wd va gd bo sz sh le im bf ik)) := by
  refine Met.ofW (cc := cX6_turn) (maxL := 3) (ret := (some .int)) (by decide) rfl ?_
  intro p e s m args below meth c s₁ B hml hv
  obtain ⟨rfl, hP, hK⟩ := hv
  have hx := B.exec
  have hb := B.bytes
  have hr := B.returns
  have hts := atoms_spec (ws := wsX6_turn) B.pre
  have hown : s.vm.findClass RX6 = some m.cls := findClass_of_methodNamed B.named
  have hlocks := B.notSynchronized
  obtain ⟨A, hAe⟩ : ∃ A, A = Aof (mdw cI cL b (enc co gu kn fo sp ki pl ea to qu) fd mo tr b1 tp tm so bg te wd va gd bo sz sh le im bf ik) := ⟨_, rfl⟩
  rw [← hAe]
  have hD : ∀ ws' : va_W, ws'.map Prod.fst = (mdw cI cL b (enc co gu kn fo sp ki pl ea to qu) fd mo tr b1 tp tm so bg te wd va gd bo sz sh le im bf ik).map Prod.fst → va_D A ws' := fun ws' e => by rw [hAe]; exact va_D_adr (va_D_self (va_D_adr dj rfl)) e
  have hS : va_S A s.heap s.heap [] := va_S.rf
  have hP : va_P D vwCl (mdw cI cL b (enc co gu kn fo sp ki pl ea to qu) fd mo tr b1 tp tm so bg te wd va gd bo sz sh le im bf ik) s.heap := hP
  have hl := lv_entry ([.ref (b 0), .int x0, .int x1]) (n := 3) (Nat.le_of_ble_eq_true rfl)
  rw [lg_entry_eq]
  generalize (lg_sl ([.ref (b 0), .int x0, .int x1]) ++ List.replicate (3 - (lg_sl ([.ref (b 0), .int x0, .int x1])).length) Slot.unset).toArray = ls at hl ⊢
  have hl : lv_has ls 3 [(0, .ref (b 0)), (1, .int x0), (2, .int x1)] := hl
  have k47 := hts (.constant RX6 47 (-1000000001)) (List.mem_of_getElem? (i := 1) rfl)
  skip
  refine lv_aload_n hx hb dX6_turn_0 rfl (lv_at hl 0 rfl) ?_
  refine lv_iload_n hx hb dX6_turn_1 rfl (lv_at hl 1 rfl) ?_
  refine callE (W.runV (As := [.int x0]) (rest := []) ⟨hx, hb, hml, hown, hts⟩ (k_X6_isOne l D cI cL cS b co gu kn fo sp ki pl ea to qu fd mo tr b1 tp tm so bg te wd va gd bo sz sh le im bf ik x0 ok.gu) (cwV 1 hts gX6_turn_X6_isOne rfl rfl rfl (by decide +kernel) ⟨Nat.le_of_ble_eq_true rfl, Nat.le_of_ble_eq_true rfl⟩) ⟨PcR_fb, va_recv hK hP (ci := 4) (q0 := 0) rfl rfl, PcR_pre hP hK⟩ rfl rfl hl.1 rfl (lv_room (Nat.le_of_ble_eq_true rfl)) dX6_turn_2 ⟨Nat.zero_le _, Nat.zero_le _⟩) ?_
  refine lv_if_eq (tgt := 29) hx hb dX6_turn_5 (by decide) (fun c_1 => ?_) (fun c_1 => ?_)
  · skip
    have c_1b := bI_0 c_1
    refine lv_aload_n hx hb dX6_turn_29 rfl (lv_at hl 0 rfl) ?_
    refine lv_ldc hx hb hown k47 dX6_turn_30 ?_
    refine callMi (va_runV (As := [.int (-1000000001)]) (rest := []) ⟨hx, hb, hml, hown, hts⟩ (k_X6_finds l D cI cL cS b co gu kn fo sp ki pl ea to qu fd mo tr b1 tp tm so bg te wd va gd bo sz sh le im bf ik (-1000000001) (va_DT (hD _ rfl) rfl) (vp_in_iff.mpr (by decide))) (cwV 1 hts gX6_turn_X6_finds rfl rfl rfl (by decide +kernel) ⟨Nat.le_of_ble_eq_true rfl, Nat.le_of_ble_eq_true rfl⟩) ⟨PcR_fb, va_recv hK hP (ci := 4) (q0 := 0) rfl rfl, PcR_pre hP hK⟩ rfl rfl hl.1 rfl (lv_room (Nat.le_of_ble_eq_true rfl)) dX6_turn_32 ⟨Nat.zero_le _, Nat.zero_le _⟩) hP (hD _ rfl) hS 0 13 rfl (fun r_3 u_2 H locs hu_2 hP hS => ?_)
    obtain ⟨hu_2r, hu_2⟩ := hu_2
    subst hu_2r
    have hP : va_P D vwCl (mdw cI cL b (enc co gu kn fo sp ki pl ea to qu) (bump fd (-1000000001)) mo tr b1 tp tm so bg te wd va gd bo sz sh le im bf ik) H := hP
    exact W.iret hx hb hr (fun t ht hW => ⟨⟨_, ((co, gu, kn, fo, sp, ki, pl, ea, to, qu), bump fd (-1000000001)), rfl, (by exact (iF_f (fun h => by first | exact absurd h.1 c_1b | exact absurd c_1b h.1 | exact absurd h.2 c_1b | exact absurd c_1b h.2)).symm), by dsimp only; rw [ht]; exact hP⟩, hS.F ht⟩) hS.2.2 dX6_turn_35
  · skip
    have c_1b := bI_n c_1
    have h8 : vp_in x0 8 := in_8 ok.gu c_1b
    refine lv_iload_n hx hb dX6_turn_8 rfl (lv_at hl 2 rfl) ?_
    refine callE (W.runS (As := [.int x1]) (rest := []) ⟨hx, hb, hml, hown, hts⟩ (k_X6_isKind l x1) (va_cwS 1 hts gX6_turn_X6_isKind rfl rfl rfl (by decide +kernel) ⟨Nat.le_of_ble_eq_true rfl, Nat.le_of_ble_eq_true rfl⟩) ⟨PcP_fb, fun U _ _ => ⟨rfl, trivial⟩⟩ rfl rfl hl.1 rfl (lv_room (Nat.le_of_ble_eq_true rfl)) dX6_turn_9 ⟨Nat.zero_le _, Nat.zero_le _⟩) ?_
    refine lv_if_eq (tgt := 29) hx hb dX6_turn_12 (by decide) (fun c_4 => ?_) (fun c_4 => ?_)
    · skip
      have c_4b := bI_0 c_4
      refine lv_aload_n hx hb dX6_turn_29 rfl (lv_at hl 0 rfl) ?_
      refine lv_ldc hx hb hown k47 dX6_turn_30 ?_
      refine callMi (va_runV (As := [.int (-1000000001)]) (rest := []) ⟨hx, hb, hml, hown, hts⟩ (k_X6_finds l D cI cL cS b co gu kn fo sp ki pl ea to qu fd mo tr b1 tp tm so bg te wd va gd bo sz sh le im bf ik (-1000000001) (va_DT (hD _ rfl) rfl) (vp_in_iff.mpr (by decide))) (cwV 1 hts gX6_turn_X6_finds rfl rfl rfl (by decide +kernel) ⟨Nat.le_of_ble_eq_true rfl, Nat.le_of_ble_eq_true rfl⟩) ⟨PcR_fb, va_recv hK hP (ci := 4) (q0 := 0) rfl rfl, PcR_pre hP hK⟩ rfl rfl hl.1 rfl (lv_room (Nat.le_of_ble_eq_true rfl)) dX6_turn_32 ⟨Nat.zero_le _, Nat.zero_le _⟩) hP (hD _ rfl) hS 0 13 rfl (fun r_6 u_5 H locs hu_5 hP hS => ?_)
      obtain ⟨hu_5r, hu_5⟩ := hu_5
      subst hu_5r
      have hP : va_P D vwCl (mdw cI cL b (enc co gu kn fo sp ki pl ea to qu) (bump fd (-1000000001)) mo tr b1 tp tm so bg te wd va gd bo sz sh le im bf ik) H := hP
      exact W.iret hx hb hr (fun t ht hW => ⟨⟨_, ((co, gu, kn, fo, sp, ki, pl, ea, to, qu), bump fd (-1000000001)), rfl, (by exact (iF_f (fun h => by first | exact absurd h.1 c_4b | exact absurd c_4b h.1 | exact absurd h.2 c_4b | exact absurd c_4b h.2)).symm), by dsimp only; rw [ht]; exact hP⟩, hS.F ht⟩) hS.2.2 dX6_turn_35
    · skip
      have c_4b := bI_n c_4
      refine lv_aload_n hx hb dX6_turn_15 rfl (lv_at hl 0 rfl) ?_
      refine lv_bipush (v := 32) hx hb dX6_turn_16 (by decide) ?_
      refine lv_iconst (v := 5) hx hb dX6_turn_18 (by decide) ?_
      refine lv_iload_n hx hb dX6_turn_19 rfl (lv_at hl 1 rfl) ?_
      refine lv_imul hx hb dX6_turn_20 ?_
      refine lv_iadd hx hb dX6_turn_21 ?_
      refine lv_iload_n hx hb dX6_turn_22 rfl (lv_at hl 2 rfl) ?_
      refine callMi (va_runV (As := [.int (32 + (5 * x0)), .int x1]) (rest := []) ⟨hx, hb, hml, hown, hts⟩ (k_X6_becomes l D cI cL cS b co gu kn fo sp ki pl ea to qu fd mo tr b1 tp tm so bg te wd va gd bo sz sh le im bf ik (32 + (5 * x0)) x1 (va_DT (hD _ rfl) rfl) (turn_in h8)) (cwV 2 hts gX6_turn_X6_becomes rfl rfl rfl (by decide +kernel) ⟨Nat.le_of_ble_eq_true rfl, Nat.le_of_ble_eq_true rfl⟩) ⟨PcR_fb, va_recv hK hP (ci := 4) (q0 := 0) rfl rfl, PcR_pre hP hK⟩ rfl rfl hl.1 rfl (lv_room (Nat.le_of_ble_eq_true rfl)) dX6_turn_23 ⟨Nat.zero_le _, Nat.zero_le _⟩) hP (hD _ rfl) hS 0 13 rfl (fun r_8 u_7 H locs hu_7 hP hS => ?_)
      obtain ⟨hu_7r, hu_7⟩ := hu_7
      subst hu_7r
      have hP : va_P D vwCl (mdw cI cL b (enc co gu kn fo sp (upd ki (ix x0) x1) pl ea to qu) fd mo tr b1 tp tm so bg te wd va gd bo sz sh le im bf ik) H := by rw [← turn_row h8]; exact hP
      have hP : va_P D vwCl (mdw cI cL b (enc co gu kn fo sp (upd ki (ix x0) x1) pl ea to qu) fd mo tr b1 tp tm so bg te wd va gd bo sz sh le im bf ik) H := hP
      refine lv_goto (tgt := 35) hx hb dX6_turn_26 (by decide) ?_
      exact W.iret hx hb hr (fun t ht hW => ⟨⟨_, ((co, gu, kn, fo, sp, upd ki (ix x0) x1, pl, ea, to, qu), fd), rfl, (by unfold sTurn; rw [iF_t ⟨c_1b, c_4b⟩]; exact turn_ans h8), by dsimp only; rw [ht]; exact hP⟩, hS.F ht⟩) hS.2.2 dX6_turn_35

set_option maxRecDepth 100000 in
set_option maxHeartbeats 4000000 in
theorem k_X6_as (l : Launch) (D : va_G) (cI cL cS : ClassId) (b : Nat → Nat) (co gu : Int32) (kn fo sp ki pl ea to qu : FI) (fd : FI) (mo : FI) (tr : FI) (b1 : FI) (tp : FI) (tm : Int32) (so : Int32) (bg : Int32) (te : Int32) (wd : Int64) (va : Int32) (gd : Int32) (bo : FI) (sz : FI) (sh : FJ) (le : FJ) (im : FI) (bf : FI) (ik : Int32) (x0 : Int32) (x1 : Int32) (dj : va_D (fun _ => True) (dj0 b 13)) (ok : okT gu kn fo sp (whC gu pl) ki pl) : Met l yX6_as wsX6_as { frames := 2, cells := 0, slots := 0, locals := 43 } (PcR D vwCl (tyG cI cL cS) [.ref (b 0), .int x0, .int x1] (mdw cI cL b (enc co gu kn fo sp ki pl ea to qu) fd mo tr b1 tp tm so bg te wd va gd bo sz sh le im bf ik)) (va_Qi (fun (r : Int32) (u : FI) => (r, u) = sAs (co, gu, kn, fo, sp, ki, pl, ea, to, qu) fd x0 x1) (fun u t => va_P D vwCl (mdw cI cL b (enc co gu kn fo sp ki pl ea to qu) u mo tr b1 tp tm so bg te wd va gd bo sz sh le im bf ik) t.heap) (Aof (mdw cI cL b (enc co gu kn fo sp ki pl ea to qu) fd mo tr b1 tp tm so bg te wd va gd bo sz sh le im bf ik))) 0 0 (Aof (mdw cI cL b (enc co gu kn fo sp ki pl ea to qu) fd mo tr b1 tp tm so bg te wd va gd bo sz sh le im bf ik)) := by
  refine Met.ofW (cc := cX6_as) (maxL := 5) (ret := (some .int)) (by decide) rfl ?_
  intro p e s m args below meth c s₁ B hml hv
  obtain ⟨rfl, hP, hK⟩ := hv
  have hx := B.exec
  have hb := B.bytes
  have hr := B.returns
  have hts := atoms_spec (ws := wsX6_as) B.pre
  have hown : s.vm.findClass RX6 = some m.cls := findClass_of_methodNamed B.named
  have hlocks := B.notSynchronized
  obtain ⟨A, hAe⟩ : ∃ A, A = Aof (mdw cI cL b (enc co gu kn fo sp ki pl ea to qu) fd mo tr b1 tp tm so bg te wd va gd bo sz sh le im bf ik) := ⟨_, rfl⟩
  rw [← hAe]
  have hD : ∀ ws' : va_W, ws'.map Prod.fst = (mdw cI cL b (enc co gu kn fo sp ki pl ea to qu) fd mo tr b1 tp tm so bg te wd va gd bo sz sh le im bf ik).map Prod.fst → va_D A ws' := fun ws' e => by rw [hAe]; exact va_D_adr (va_D_self (va_D_adr dj rfl)) e
  have hS : va_S A s.heap s.heap [] := va_S.rf
  have hP : va_P D vwCl (mdw cI cL b (enc co gu kn fo sp ki pl ea to qu) fd mo tr b1 tp tm so bg te wd va gd bo sz sh le im bf ik) s.heap := hP
  have hl := lv_entry ([.ref (b 0), .int x0, .int x1]) (n := 5) (Nat.le_of_ble_eq_true rfl)
  rw [lg_entry_eq]
  generalize (lg_sl ([.ref (b 0), .int x0, .int x1]) ++ List.replicate (5 - (lg_sl ([.ref (b 0), .int x0, .int x1])).length) Slot.unset).toArray = ls at hl ⊢
  have hl : lv_has ls 5 [(0, .ref (b 0)), (1, .int x0), (2, .int x1)] := hl
  have k47 := hts (.constant RX6 47 (-1000000001)) (List.mem_of_getElem? (i := 1) rfl)
  have k133 := hts (.constant RX6 133 (-1000000003)) (List.mem_of_getElem? (i := 2) rfl)
  skip
  refine lv_aload_n hx hb dX6_as_0 rfl (lv_at hl 0 rfl) ?_
  refine lv_iload_n hx hb dX6_as_1 rfl (lv_at hl 1 rfl) ?_
  refine callE (W.runV (As := [.int x0]) (rest := []) ⟨hx, hb, hml, hown, hts⟩ (k_X6_isOne l D cI cL cS b co gu kn fo sp ki pl ea to qu fd mo tr b1 tp tm so bg te wd va gd bo sz sh le im bf ik x0 ok.gu) (cwV 1 hts gX6_as_X6_isOne rfl rfl rfl (by decide +kernel) ⟨Nat.le_of_ble_eq_true rfl, Nat.le_of_ble_eq_true rfl⟩) ⟨PcR_fb, va_recv hK hP (ci := 4) (q0 := 0) rfl rfl, PcR_pre hP hK⟩ rfl rfl hl.1 rfl (lv_room (Nat.le_of_ble_eq_true rfl)) dX6_as_2 ⟨Nat.zero_le _, Nat.zero_le _⟩) ?_
  refine lv_if_eq (tgt := 15) hx hb dX6_as_5 (by decide) (fun c_1 => ?_) (fun c_1 => ?_)
  · skip
    have c_1b := bI_0 c_1
    refine lv_aload_n hx hb dX6_as_15 rfl (lv_at hl 0 rfl) ?_
    refine lv_ldc hx hb hown k47 dX6_as_16 ?_
    refine callMi (va_runV (As := [.int (-1000000001)]) (rest := []) ⟨hx, hb, hml, hown, hts⟩ (k_X6_finds l D cI cL cS b co gu kn fo sp ki pl ea to qu fd mo tr b1 tp tm so bg te wd va gd bo sz sh le im bf ik (-1000000001) (va_DT (hD _ rfl) rfl) (vp_in_iff.mpr (by decide))) (cwV 1 hts gX6_as_X6_finds rfl rfl rfl (by decide +kernel) ⟨Nat.le_of_ble_eq_true rfl, Nat.le_of_ble_eq_true rfl⟩) ⟨PcR_fb, va_recv hK hP (ci := 4) (q0 := 0) rfl rfl, PcR_pre hP hK⟩ rfl rfl hl.1 rfl (lv_room (Nat.le_of_ble_eq_true rfl)) dX6_as_18 ⟨Nat.zero_le _, Nat.zero_le _⟩) hP (hD _ rfl) hS 0 13 rfl (fun r_3 u_2 H locs hu_2 hP hS => ?_)
    obtain ⟨hu_2r, hu_2⟩ := hu_2
    subst hu_2r
    have hP : va_P D vwCl (mdw cI cL b (enc co gu kn fo sp ki pl ea to qu) (bump fd (-1000000001)) mo tr b1 tp tm so bg te wd va gd bo sz sh le im bf ik) H := hP
    exact W.iret hx hb hr (fun t ht hW => ⟨⟨_, (bump fd (-1000000001)), rfl, (by exact (iF_f (fun h => by first | exact absurd h.1 c_1b | exact absurd c_1b h.1 | exact absurd h.2 c_1b | exact absurd c_1b h.2)).symm), by dsimp only; rw [ht]; exact hP⟩, hS.F ht⟩) hS.2.2 dX6_as_21
  · skip
    have c_1b := bI_n c_1
    have h8 : vp_in x0 8 := in_8 ok.gu c_1b
    refine lv_iload_n hx hb dX6_as_8 rfl (lv_at hl 2 rfl) ?_
    refine callE (W.runS (As := [.int x1]) (rest := []) ⟨hx, hb, hml, hown, hts⟩ (k_X6_isKind l x1) (va_cwS 1 hts gX6_as_X6_isKind rfl rfl rfl (by decide +kernel) ⟨Nat.le_of_ble_eq_true rfl, Nat.le_of_ble_eq_true rfl⟩) ⟨PcP_fb, fun U _ _ => ⟨rfl, trivial⟩⟩ rfl rfl hl.1 rfl (lv_room (Nat.le_of_ble_eq_true rfl)) dX6_as_9 ⟨Nat.zero_le _, Nat.zero_le _⟩) ?_
    refine lv_if_ne (tgt := 22) hx hb dX6_as_12 (by decide) (fun c_4 => ?_) (fun c_4 => ?_)
    · skip
      have c_4b := bI_n c_4
      have hk : vp_in x1 6 := c_4b
      refine lv_aload_n hx hb dX6_as_22 rfl (lv_at hl 0 rfl) ?_
      refine lv_iload_n hx hb dX6_as_23 rfl (lv_at hl 1 rfl) ?_
      refine lv_iconst (v := 0) hx hb dX6_as_24 (by decide) ?_
      refine callE (W.runV (As := [.int x0, .int 0]) (rest := []) ⟨hx, hb, hml, hown, hts⟩ (k_X6_its0 l D cI cL cS b co gu kn fo sp ki pl ea to qu fd mo tr b1 tp tm so bg te wd va gd bo sz sh le im bf ik x0 (by assumption)) (cwV 2 hts gX6_as_X6_its rfl rfl rfl (by decide +kernel) ⟨Nat.le_of_ble_eq_true rfl, Nat.le_of_ble_eq_true rfl⟩) ⟨PcR_fb, va_recv hK hP (ci := 4) (q0 := 0) rfl rfl, PcR_pre hP hK⟩ rfl rfl hl.1 rfl (lv_room (Nat.le_of_ble_eq_true rfl)) dX6_as_25 ⟨Nat.zero_le _, Nat.zero_le _⟩) ?_
      refine lv_istore_n (lv' := [(3, .int (ki (ix x0))), (0, .ref (b 0)), (1, .int x0), (2, .int x1)]) hx hb dX6_as_28 rfl hl (by decide) rfl (fun ls hl => ?_)
      refine lv_iload_n hx hb dX6_as_29 rfl (lv_at hl 3 rfl) ?_
      refine jn (fun v_5 : Int32 => v_5 = (if x1 = 0 then 1 else (if x1 = (ki (ix x0)) then 1 else (if x1 = 1 then if (ki (ix x0)) = 4 then 1 else (if x1 = 2 then if (ki (ix x0)) = 5 then 1 else 0 else 0) else (if x1 = 2 then if (ki (ix x0)) = 5 then 1 else 0 else 0))) : Int32)) (fun v_5 => F0 m 63 ls [.int v_5]) (fun Jv_5 => ?_) (fun v_5 ev_5 => ?_)
      · skip
        refine lv_if_eq (tgt := 58) hx hb dX6_as_30 (by decide) (fun c_6 => ?_) (fun c_6 => ?_)
        · skip
          refine lv_iconst (v := 1) hx hb dX6_as_58 (by decide) ?_
          refine lv_goto (tgt := 63) hx hb dX6_as_59 (by decide) ?_
          exact Jv_5 _ (by rw [if_pos c_6])
        · skip
          refine lv_iload_n hx hb dX6_as_33 rfl (lv_at hl 3 rfl) ?_
          refine lv_iload_n hx hb dX6_as_34 rfl (lv_at hl 0 rfl) ?_
          refine lv_icmp_eq (tgt := 58) hx hb dX6_as_35 (by decide) (fun c_7 => ?_) (fun c_7 => ?_)
          · skip
            refine lv_iconst (v := 1) hx hb dX6_as_58 (by decide) ?_
            refine lv_goto (tgt := 63) hx hb dX6_as_59 (by decide) ?_
            exact Jv_5 _ (by rw [if_neg c_6, if_pos c_7])
          · skip
            refine lv_iload_n hx hb dX6_as_38 rfl (lv_at hl 3 rfl) ?_
            refine lv_iconst (v := 1) hx hb dX6_as_39 (by decide) ?_
            refine lv_icmp_ne (tgt := 48) hx hb dX6_as_40 (by decide) (fun c_8 => ?_) (fun c_8 => ?_)
            · skip
              refine lv_iload_n hx hb dX6_as_48 rfl (lv_at hl 3 rfl) ?_
              refine lv_iconst (v := 2) hx hb dX6_as_49 (by decide) ?_
              refine lv_icmp_ne (tgt := 62) hx hb dX6_as_50 (by decide) (fun c_9 => ?_) (fun c_9 => ?_)
              · skip
                refine lv_iconst (v := 0) hx hb dX6_as_62 (by decide) ?_
                exact Jv_5 _ (by rw [if_neg c_6, if_neg c_7, if_neg c_8, if_neg c_9])
              · skip
                refine lv_iload_n hx hb dX6_as_53 rfl (lv_at hl 0 rfl) ?_
                refine lv_iconst (v := 5) hx hb dX6_as_54 (by decide) ?_
                refine lv_icmp_ne (tgt := 62) hx hb dX6_as_55 (by decide) (fun c_10 => ?_) (fun c_10 => ?_)
                · skip
                  refine lv_iconst (v := 0) hx hb dX6_as_62 (by decide) ?_
                  exact Jv_5 _ (by rw [if_neg c_6, if_neg c_7, if_neg c_8, if_pos c_9, if_neg c_10])
                · skip
                  refine lv_iconst (v := 1) hx hb dX6_as_58 (by decide) ?_
                  refine lv_goto (tgt := 63) hx hb dX6_as_59 (by decide) ?_
                  exact Jv_5 _ (by rw [if_neg c_6, if_neg c_7, if_neg c_8, if_pos c_9, if_pos c_10])
            · skip
              refine lv_iload_n hx hb dX6_as_43 rfl (lv_at hl 0 rfl) ?_
              refine lv_iconst (v := 4) hx hb dX6_as_44 (by decide) ?_
              refine lv_icmp_eq (tgt := 58) hx hb dX6_as_45 (by decide) (fun c_11 => ?_) (fun c_11 => ?_)
              · skip
                refine lv_iconst (v := 1) hx hb dX6_as_58 (by decide) ?_
                refine lv_goto (tgt := 63) hx hb dX6_as_59 (by decide) ?_
                exact Jv_5 _ (by rw [if_neg c_6, if_neg c_7, if_pos c_8, if_pos c_11])
              · skip
                refine lv_iload_n hx hb dX6_as_48 rfl (lv_at hl 3 rfl) ?_
                refine lv_iconst (v := 2) hx hb dX6_as_49 (by decide) ?_
                refine lv_icmp_ne (tgt := 62) hx hb dX6_as_50 (by decide) (fun c_12 => ?_) (fun c_12 => ?_)
                · skip
                  refine lv_iconst (v := 0) hx hb dX6_as_62 (by decide) ?_
                  exact Jv_5 _ (by rw [if_neg c_6, if_neg c_7, if_pos c_8, if_neg c_11, if_neg c_12])
                · skip
                  refine lv_iload_n hx hb dX6_as_53 rfl (lv_at hl 0 rfl) ?_
                  refine lv_iconst (v := 5) hx hb dX6_as_54 (by decide) ?_
                  refine lv_icmp_ne (tgt := 62) hx hb dX6_as_55 (by decide) (fun c_13 => ?_) (fun c_13 => ?_)
                  · skip
                    refine lv_iconst (v := 0) hx hb dX6_as_62 (by decide) ?_
                    exact Jv_5 _ (by rw [if_neg c_6, if_neg c_7, if_pos c_8, if_neg c_11, if_pos c_12, if_neg c_13])
                  · skip
                    refine lv_iconst (v := 1) hx hb dX6_as_58 (by decide) ?_
                    refine lv_goto (tgt := 63) hx hb dX6_as_59 (by decide) ?_
                    exact Jv_5 _ (by rw [if_neg c_6, if_neg c_7, if_pos c_8, if_neg c_11, if_pos c_12, if_pos c_13])
      refine lv_istore (lv' := [(4, .int v_5), (3, .int (ki (ix x0))), (0, .ref (b 0)), (1, .int x0), (2, .int x1)]) hx hb dX6_as_63 hl (by decide) rfl (fun ls hl => ?_)
      have hv : v_5 = bI (x1 = 0 ∨ x1 = ki (ix x0) ∨ (x1 = 1 ∧ ki (ix x0) = 4) ∨ (x1 = 2 ∧ ki (ix x0) = 5)) := by rw [ev_5]; exact as_bI
      clear ev_5
      subst hv
      refine lv_iload hx hb dX6_as_65 (lv_at hl 0 rfl) ?_
      refine lv_if_eq (tgt := 82) hx hb dX6_as_67 (by decide) (fun c_14 => ?_) (fun c_14 => ?_)
      · skip
        have c_14b := bI_0 c_14
        refine lv_aload_n hx hb dX6_as_82 rfl (lv_at hl 2 rfl) ?_
        refine lv_ldc hx hb hown k133 dX6_as_83 ?_
        refine callMi (va_runV (As := [.int (-1000000003)]) (rest := []) ⟨hx, hb, hml, hown, hts⟩ (k_X6_finds l D cI cL cS b co gu kn fo sp ki pl ea to qu fd mo tr b1 tp tm so bg te wd va gd bo sz sh le im bf ik (-1000000003) (va_DT (hD _ rfl) rfl) (vp_in_iff.mpr (by decide))) (cwV 1 hts gX6_as_X6_finds rfl rfl rfl (by decide +kernel) ⟨Nat.le_of_ble_eq_true rfl, Nat.le_of_ble_eq_true rfl⟩) ⟨PcR_fb, va_recv hK hP (ci := 4) (q0 := 0) rfl rfl, PcR_pre hP hK⟩ rfl rfl hl.1 rfl (lv_room (Nat.le_of_ble_eq_true rfl)) dX6_as_85 ⟨Nat.zero_le _, Nat.zero_le _⟩) hP (hD _ rfl) hS 0 13 rfl (fun r_16 u_15 H locs hu_15 hP hS => ?_)
        obtain ⟨hu_15r, hu_15⟩ := hu_15
        subst hu_15r
        have hP : va_P D vwCl (mdw cI cL b (enc co gu kn fo sp ki pl ea to qu) (bump fd (-1000000003)) mo tr b1 tp tm so bg te wd va gd bo sz sh le im bf ik) H := hP
        exact W.iret hx hb hr (fun t ht hW => ⟨⟨_, (bump fd (-1000000003)), rfl, (by unfold sAs; rw [iF_t ⟨c_1b, c_4b⟩, iF_f (fun h => c_14b ((as_up (ok.ki h8) hk).mp h))]), by dsimp only; rw [ht]; exact hP⟩, hS.F ht⟩) hS.2.2 dX6_as_88
      · skip
        have c_14b := bI_n c_14
        refine lv_bipush (v := 100) hx hb dX6_as_70 (by decide) ?_
        refine lv_aload_n hx hb dX6_as_72 rfl (lv_at hl 2 rfl) ?_
        refine lv_iload_n hx hb dX6_as_73 rfl (lv_at hl 3 rfl) ?_
        refine lv_iconst (v := 2) hx hb dX6_as_74 (by decide) ?_
        refine callE (W.runV (As := [.int x0, .int 2]) (rest := [.int 100]) ⟨hx, hb, hml, hown, hts⟩ (k_X6_its2 l D cI cL cS b co gu kn fo sp ki pl ea to qu fd mo tr b1 tp tm so bg te wd va gd bo sz sh le im bf ik x0 (by assumption)) (cwV 2 hts gX6_as_X6_its rfl rfl rfl (by decide +kernel) ⟨Nat.le_of_ble_eq_true rfl, Nat.le_of_ble_eq_true rfl⟩) ⟨PcR_fb, va_recv hK hP (ci := 4) (q0 := 0) rfl rfl, PcR_pre hP hK⟩ rfl rfl hl.1 rfl (lv_room (Nat.le_of_ble_eq_true rfl)) dX6_as_75 ⟨Nat.zero_le _, Nat.zero_le _⟩) ?_
        refine lv_iadd hx hb dX6_as_78 ?_
        refine lv_goto (tgt := 88) hx hb dX6_as_79 (by decide) ?_
        exact W.iret hx hb hr (fun t ht hW => ⟨⟨_, (fd), rfl, (by unfold sAs; rw [iF_t ⟨c_1b, c_4b⟩, iF_t ((as_up (ok.ki h8) hk).mpr (by assumption))]), by dsimp only; rw [ht]; exact hP⟩, hS.F ht⟩) hS.2.2 dX6_as_88
    · skip
      have c_4b := bI_0 c_4
      refine lv_aload_n hx hb dX6_as_15 rfl (lv_at hl 0 rfl) ?_
      refine lv_ldc hx hb hown k47 dX6_as_16 ?_
      refine callMi (va_runV (As := [.int (-1000000001)]) (rest := []) ⟨hx, hb, hml, hown, hts⟩ (k_X6_finds l D cI cL cS b co gu kn fo sp ki pl ea to qu fd mo tr b1 tp tm so bg te wd va gd bo sz sh le im bf ik (-1000000001) (va_DT (hD _ rfl) rfl) (vp_in_iff.mpr (by decide))) (cwV 1 hts gX6_as_X6_finds rfl rfl rfl (by decide +kernel) ⟨Nat.le_of_ble_eq_true rfl, Nat.le_of_ble_eq_true rfl⟩) ⟨PcR_fb, va_recv hK hP (ci := 4) (q0 := 0) rfl rfl, PcR_pre hP hK⟩ rfl rfl hl.1 rfl (lv_room (Nat.le_of_ble_eq_true rfl)) dX6_as_18 ⟨Nat.zero_le _, Nat.zero_le _⟩) hP (hD _ rfl) hS 0 13 rfl (fun r_18 u_17 H locs hu_17 hP hS => ?_)
      obtain ⟨hu_17r, hu_17⟩ := hu_17
      subst hu_17r
      have hP : va_P D vwCl (mdw cI cL b (enc co gu kn fo sp ki pl ea to qu) (bump fd (-1000000001)) mo tr b1 tp tm so bg te wd va gd bo sz sh le im bf ik) H := hP
      exact W.iret hx hb hr (fun t ht hW => ⟨⟨_, (bump fd (-1000000001)), rfl, (by exact (iF_f (fun h => by first | exact absurd h.1 c_4b | exact absurd c_4b h.1 | exact absurd h.2 c_4b | exact absurd c_4b h.2)).symm), by dsimp only; rw [ht]; exact hP⟩, hS.F ht⟩) hS.2.2 dX6_as_21
