set_option maxRecDepth 100000 in
set_option maxHeartbeats 4000000 in
theorem k_X6_courses (l : Launch) (D : va_G) (cI cL cS : ClassId) (b : Nat → Nat) (co gu : Int32) (kn fo sp ki pl ea to qu : FI) (fd : FI) (mo : FI) (tr : FI) (b1 : FI) (tp : FI) (tm : Int32) (so : Int32) (bg : Int32) (te : Int32) (wd : Int64) (va : Int32) (gd : Int32) (bo : FI) (sz : FI) (sh : FJ) (le : FJ) (im : FI) (bf : FI) (ik : Int32) (x0 : Int32) (dj : va_D (fun _ => True) (dj0 b 13)) (ok : okT gu kn fo sp (whC gu pl) ki pl) (oe : okE ea to qu) : Met l yX6_courses wsX6_courses { frames := 7, cells := 0, slots := 0, locals := 160 } (PcR D vwCl (tyG cI cL cS) [.ref (b 0), .int x0] (mdw cI cL b (enc co gu kn fo sp ki pl ea to qu) fd mo tr b1 tp tm so bg te wd va gd bo sz sh le im bf ik)) (va_Qi (fun (r : Int32) (u : Sg × FI × FI) => (r, u.1, u.2.2) = sCourses (co, gu, kn, fo, sp, ki, pl, ea, to, qu) fd x0) (fun u t => va_P D vwCl (mdw cI cL b (encS u.1) u.2.2 u.2.1 tr b1 tp tm so bg te wd va gd bo sz sh le im bf ik) t.heap) (Aof (mdw cI cL b (enc co gu kn fo sp ki pl ea to qu) fd mo tr b1 tp tm so bg te wd va gd bo sz sh le im bf ik))) 0 0 (Aof (mdw cI cL b (enc co gu kn fo sp ki pl ea to qu) fd mo tr b1 tp tm so bg te wd va gd bo sz sh le im bf ik)) := by
  refine Met.ofW (cc := cX6_courses) (maxL := 2) (ret := (some .int)) (by decide) rfl ?_
  intro p e s m args below meth c s₁ B hml hv
  obtain ⟨rfl, hP, hK⟩ := hv
  have hx := B.exec
  have hb := B.bytes
  have hr := B.returns
  have hts := atoms_spec (ws := wsX6_courses) B.pre
  have hown : s.vm.findClass RX6 = some m.cls := findClass_of_methodNamed B.named
  have hlocks := B.notSynchronized
  obtain ⟨A, hAe⟩ : ∃ A, A = Aof (mdw cI cL b (enc co gu kn fo sp ki pl ea to qu) fd mo tr b1 tp tm so bg te wd va gd bo sz sh le im bf ik) := ⟨_, rfl⟩
  rw [← hAe]
  have hD : ∀ ws' : va_W, ws'.map Prod.fst = (mdw cI cL b (enc co gu kn fo sp ki pl ea to qu) fd mo tr b1 tp tm so bg te wd va gd bo sz sh le im bf ik).map Prod.fst → va_D A ws' := fun ws' e => by rw [hAe]; exact va_D_adr (va_D_self (va_D_adr dj rfl)) e
  have hS : va_S A s.heap s.heap [] := va_S.rf
  have hP : va_P D vwCl (mdw cI cL b (enc co gu kn fo sp ki pl ea to qu) fd mo tr b1 tp tm so bg te wd va gd bo sz sh le im bf ik) s.heap := hP
  have hl := lv_entry ([.ref (b 0), .int x0]) (n := 2) (Nat.le_of_ble_eq_true rfl)
  rw [lg_entry_eq]
  generalize (lg_sl ([.ref (b 0), .int x0]) ++ List.replicate (2 - (lg_sl ([.ref (b 0), .int x0])).length) Slot.unset).toArray = ls at hl ⊢
  have hl : lv_has ls 2 [(0, .ref (b 0)), (1, .int x0)] := hl
  have f7 := hts (.fieldLink RX6 7 "KnivesLaidModel" "row" "[I") (List.mem_of_getElem? (i := 2) rfl)
  have inX6 : ∀ w ∈ u_ws RX6 TX6 20, w ∈ wsX6_courses := in_at 89 _ _ rfl
  have k144 := hts (.constant RX6 144 (99999)) (List.mem_of_getElem? (i := 3) rfl)
  have k109 := hts (.constant RX6 109 (-1000000005)) (List.mem_of_getElem? (i := 4) rfl)
  have k47 := hts (.constant RX6 47 (-1000000001)) (List.mem_of_getElem? (i := 1) rfl)
  skip
  refine lv_iload_n hx hb dX6_courses_0 rfl (lv_at hl 1 rfl) ?_
  refine lv_iconst (v := 1) hx hb dX6_courses_1 (by decide) ?_
  refine lv_bipush (v := 60) hx hb dX6_courses_2 (by decide) ?_
  refine callE (W.runS (As := [.int x0, .int 1, .int 60]) (rest := []) ⟨hx, hb, hml, hown, hts⟩ (k_X6_in l x0 1 60) (va_cwS 3 hts gX6_courses_X6_in rfl rfl rfl (by decide +kernel) ⟨Nat.le_of_ble_eq_true rfl, Nat.le_of_ble_eq_true rfl⟩) ⟨PcP_fb, fun U _ _ => ⟨rfl, trivial⟩⟩ rfl rfl hl.1 rfl (lv_room (Nat.le_of_ble_eq_true rfl)) dX6_courses_4 ⟨Nat.zero_le _, Nat.zero_le _⟩) ?_
  refine lv_if_ne (tgt := 17) hx hb dX6_courses_7 (by decide) (fun c_1 => ?_) (fun c_1 => ?_)
  · skip
    have c_1b := bI_n c_1
    have hn := c_1b
    refine lv_aload_n hx hb dX6_courses_17 rfl (lv_at hl 0 rfl) ?_
    refine va_get (ci := 4) (v := .ref (b 1)) (C := RX6) (T := TX6) (N := 20) hx hb hts inX6 hown hK hP 0 rfl rfl 0 (by decide) f7 (fun _ h9 => h9) rfl dX6_courses_18 ?_
    refine lv_iconst (v := 0) hx hb dX6_courses_21 (by decide) ?_
    refine va_iald hx hb hK hP 1 0 rfl rfl (vp_in_iff.mpr (by decide)) dX6_courses_22 ?_
    refine lv_to (y := co) rfl ?_
    refine lv_iload_n hx hb dX6_courses_23 rfl (lv_at hl 1 rfl) ?_
    refine lv_iadd hx hb dX6_courses_24 ?_
    refine lv_ldc hx hb hown k144 dX6_courses_25 ?_
    refine lv_icmp_le (tgt := 37) hx hb dX6_courses_27 (by decide) (fun c_2 => ?_) (fun c_2 => ?_)
    · skip
      refine lv_aload_n hx hb dX6_courses_37 rfl (lv_at hl 0 rfl) ?_
      refine lv_iload_n hx hb dX6_courses_38 rfl (lv_at hl 1 rfl) ?_
      refine callMv (va_runV (As := [.int x0]) (rest := []) ⟨hx, hb, hml, hown, hts⟩ (k_X6_passes l D cI cL cS b co gu kn fo sp ki pl ea to qu fd mo tr b1 tp tm so bg te wd va gd bo sz sh le im bf ik x0 (va_DT (hD _ rfl) rfl) ok oe (wi_in hn (by decide) (by decide))) (cwV 1 hts gX6_courses_X6_passes rfl rfl rfl (by decide +kernel) ⟨Nat.le_of_ble_eq_true rfl, Nat.le_of_ble_eq_true rfl⟩) ⟨PcR_fb, va_recv hK hP (ci := 4) (q0 := 0) rfl rfl, PcR_pre hP hK⟩ rfl rfl hl.1 rfl (lv_room (Nat.le_of_ble_eq_true rfl)) dX6_courses_39 ⟨Nat.zero_le _, Nat.zero_le _⟩) hP (hD _ rfl) hS 0 13 rfl (fun u_3 H locs hu_3 hP hS => ?_)
      obtain ⟨mo_5, rfl⟩ : ∃ z, z = u_3 := ⟨_, rfl⟩
      have hP : va_P D vwCl (mdw cI cL b (enc (sCo (sPass (ix x0) (co, gu, kn, fo, sp, ki, pl, ea, to, qu))) (sGu (sPass (ix x0) (co, gu, kn, fo, sp, ki, pl, ea, to, qu))) (sKn (sPass (ix x0) (co, gu, kn, fo, sp, ki, pl, ea, to, qu))) (sFo (sPass (ix x0) (co, gu, kn, fo, sp, ki, pl, ea, to, qu))) (sSp (sPass (ix x0) (co, gu, kn, fo, sp, ki, pl, ea, to, qu))) (sKi (sPass (ix x0) (co, gu, kn, fo, sp, ki, pl, ea, to, qu))) (sPl (sPass (ix x0) (co, gu, kn, fo, sp, ki, pl, ea, to, qu))) (sEa (sPass (ix x0) (co, gu, kn, fo, sp, ki, pl, ea, to, qu))) (sTo (sPass (ix x0) (co, gu, kn, fo, sp, ki, pl, ea, to, qu))) (sQu (sPass (ix x0) (co, gu, kn, fo, sp, ki, pl, ea, to, qu)))) fd mo_5 tr b1 tp tm so bg te wd va gd bo sz sh le im bf ik) H := hP
      refine lv_aload_n hx hb dX6_courses_42 rfl (lv_at hl 0 rfl) ?_
      refine callE (W.runV (As := []) (rest := []) ⟨hx, hb, hml, hown, hts⟩ (k_X6_soreSet l D cI cL cS b (sCo (sPass (ix x0) (co, gu, kn, fo, sp, ki, pl, ea, to, qu))) (sGu (sPass (ix x0) (co, gu, kn, fo, sp, ki, pl, ea, to, qu))) (sKn (sPass (ix x0) (co, gu, kn, fo, sp, ki, pl, ea, to, qu))) (sFo (sPass (ix x0) (co, gu, kn, fo, sp, ki, pl, ea, to, qu))) (sSp (sPass (ix x0) (co, gu, kn, fo, sp, ki, pl, ea, to, qu))) (sKi (sPass (ix x0) (co, gu, kn, fo, sp, ki, pl, ea, to, qu))) (sPl (sPass (ix x0) (co, gu, kn, fo, sp, ki, pl, ea, to, qu))) (sEa (sPass (ix x0) (co, gu, kn, fo, sp, ki, pl, ea, to, qu))) (sTo (sPass (ix x0) (co, gu, kn, fo, sp, ki, pl, ea, to, qu))) (sQu (sPass (ix x0) (co, gu, kn, fo, sp, ki, pl, ea, to, qu))) fd mo_5 tr b1 tp tm so bg te wd va gd bo sz sh le im bf ik (((okS_pass (σ := (co, gu, kn, fo, sp, ki, pl, ea, to, qu)) ⟨ok, oe⟩ (ix x0)).1.cC).gu)) (cwV 0 hts gX6_courses_X6_soreSet rfl rfl rfl (by decide +kernel) ⟨Nat.le_of_ble_eq_true rfl, Nat.le_of_ble_eq_true rfl⟩) ⟨PcR_fb, va_recv hK hP (ci := 4) (q0 := 0) rfl rfl, PcR_pre hP hK⟩ rfl rfl hl.1 rfl (lv_room (Nat.le_of_ble_eq_true rfl)) dX6_courses_43 ⟨Nat.zero_le _, Nat.zero_le _⟩) ?_
      exact W.iret hx hb hr (fun t ht hW => ⟨⟨_, (((sCo (sPass (ix x0) (co, gu, kn, fo, sp, ki, pl, ea, to, qu))), (sGu (sPass (ix x0) (co, gu, kn, fo, sp, ki, pl, ea, to, qu))), (sKn (sPass (ix x0) (co, gu, kn, fo, sp, ki, pl, ea, to, qu))), (sFo (sPass (ix x0) (co, gu, kn, fo, sp, ki, pl, ea, to, qu))), (sSp (sPass (ix x0) (co, gu, kn, fo, sp, ki, pl, ea, to, qu))), (sKi (sPass (ix x0) (co, gu, kn, fo, sp, ki, pl, ea, to, qu))), (sPl (sPass (ix x0) (co, gu, kn, fo, sp, ki, pl, ea, to, qu))), (sEa (sPass (ix x0) (co, gu, kn, fo, sp, ki, pl, ea, to, qu))), (sTo (sPass (ix x0) (co, gu, kn, fo, sp, ki, pl, ea, to, qu))), (sQu (sPass (ix x0) (co, gu, kn, fo, sp, ki, pl, ea, to, qu)))), mo_5, fd), rfl, (by unfold sCourses; rw [iF_t c_1b, iF_f (Int32.not_lt.mpr c_2)]), by dsimp only; rw [ht]; exact hP⟩, hS.F ht⟩) hS.2.2 dX6_courses_46
    · skip
      refine lv_aload_n hx hb dX6_courses_30 rfl (lv_at hl 0 rfl) ?_
      refine lv_ldc hx hb hown k109 dX6_courses_31 ?_
      refine callMi (va_runV (As := [.int (-1000000005)]) (rest := []) ⟨hx, hb, hml, hown, hts⟩ (k_X6_finds l D cI cL cS b co gu kn fo sp ki pl ea to qu fd mo tr b1 tp tm so bg te wd va gd bo sz sh le im bf ik (-1000000005) (va_DT (hD _ rfl) rfl) (vp_in_iff.mpr (by decide))) (cwV 1 hts gX6_courses_X6_finds rfl rfl rfl (by decide +kernel) ⟨Nat.le_of_ble_eq_true rfl, Nat.le_of_ble_eq_true rfl⟩) ⟨PcR_fb, va_recv hK hP (ci := 4) (q0 := 0) rfl rfl, PcR_pre hP hK⟩ rfl rfl hl.1 rfl (lv_room (Nat.le_of_ble_eq_true rfl)) dX6_courses_33 ⟨Nat.zero_le _, Nat.zero_le _⟩) hP (hD _ rfl) hS 0 13 rfl (fun r_7 u_6 H locs hu_6 hP hS => ?_)
      obtain ⟨hu_6r, hu_6⟩ := hu_6
      subst hu_6r
      have hP : va_P D vwCl (mdw cI cL b (enc co gu kn fo sp ki pl ea to qu) (bump fd (-1000000005)) mo tr b1 tp tm so bg te wd va gd bo sz sh le im bf ik) H := hP
      exact W.iret hx hb hr (fun t ht hW => ⟨⟨_, ((co, gu, kn, fo, sp, ki, pl, ea, to, qu), mo, bump fd (-1000000005)), rfl, (by unfold sCourses; rw [iF_t c_1b, iF_t (Int32.not_le.mp c_2)]), by dsimp only; rw [ht]; exact hP⟩, hS.F ht⟩) hS.2.2 dX6_courses_36
  · skip
    have c_1b := bI_0 c_1
    refine lv_aload_n hx hb dX6_courses_10 rfl (lv_at hl 0 rfl) ?_
    refine lv_ldc hx hb hown k47 dX6_courses_11 ?_
    refine callMi (va_runV (As := [.int (-1000000001)]) (rest := []) ⟨hx, hb, hml, hown, hts⟩ (k_X6_finds l D cI cL cS b co gu kn fo sp ki pl ea to qu fd mo tr b1 tp tm so bg te wd va gd bo sz sh le im bf ik (-1000000001) (va_DT (hD _ rfl) rfl) (vp_in_iff.mpr (by decide))) (cwV 1 hts gX6_courses_X6_finds rfl rfl rfl (by decide +kernel) ⟨Nat.le_of_ble_eq_true rfl, Nat.le_of_ble_eq_true rfl⟩) ⟨PcR_fb, va_recv hK hP (ci := 4) (q0 := 0) rfl rfl, PcR_pre hP hK⟩ rfl rfl hl.1 rfl (lv_room (Nat.le_of_ble_eq_true rfl)) dX6_courses_13 ⟨Nat.zero_le _, Nat.zero_le _⟩) hP (hD _ rfl) hS 0 13 rfl (fun r_9 u_8 H locs hu_8 hP hS => ?_)
    obtain ⟨hu_8r, hu_8⟩ := hu_8
    subst hu_8r
    have hP : va_P D vwCl (mdw cI cL b (enc co gu kn fo sp ki pl ea to qu) (bump fd (-1000000001)) mo tr b1 tp tm so bg te wd va gd bo sz sh le im bf ik) H := hP
    exact W.iret hx hb hr (fun t ht hW => ⟨⟨_, ((co, gu, kn, fo, sp, ki, pl, ea, to, qu), mo, bump fd (-1000000001)), rfl, (by exact (iF_f c_1b).symm), by dsimp only; rw [ht]; exact hP⟩, hS.F ht⟩) hS.2.2 dX6_courses_16

set_option maxRecDepth 100000 in
set_option maxHeartbeats 4000000 in
theorem k_X6_on (l : Launch) (D : va_G) (cI cL cS : ClassId) (b : Nat → Nat) (co gu : Int32) (kn fo sp ki pl ea to qu : FI) (fd : FI) (mo : FI) (tr : FI) (b1 : FI) (tp : FI) (tm : Int32) (so : Int32) (bg : Int32) (te : Int32) (wd : Int64) (va : Int32) (gd : Int32) (bo : FI) (sz : FI) (sh : FJ) (le : FJ) (im : FI) (bf : FI) (ik : Int32) (x0 : Int32) (x1 : Int32) (x2 : Int32) (dj : va_D (fun _ => True) (dj0 b 13)) (ok : okT gu kn fo sp (whC gu pl) ki pl) (oe : okE ea to qu) : Met l yX6_on wsX6_on { frames := 7, cells := 0, slots := 0, locals := 160 } (PcR D vwCl (tyG cI cL cS) [.ref (b 0), .int x0, .int x1, .int x2] (mdw cI cL b (enc co gu kn fo sp ki pl ea to qu) fd mo tr b1 tp tm so bg te wd va gd bo sz sh le im bf ik)) (va_Qi (fun (r : Int32) (u : FI × FI × FI) => (r, u.2.2) = sOn (co, gu, kn, fo, sp, ki, pl, ea, to, qu) fd x0 x1 x2) (fun u t => va_P D vwCl (mdw cI cL b (enc co gu kn fo sp ki pl ea to qu) u.2.2 u.1 u.2.1 b1 tp tm so bg te wd va gd bo sz sh le im bf ik) t.heap) (Aof (mdw cI cL b (enc co gu kn fo sp ki pl ea to qu) fd mo tr b1 tp tm so bg te wd va gd bo sz sh le im bf ik))) 0 0 (Aof (mdw cI cL b (enc co gu kn fo sp ki pl ea to qu) fd mo tr b1 tp tm so bg te wd va gd bo sz sh le im bf ik)) := by
  refine Met.ofW (cc := cX6_on) (maxL := 5) (ret := (some .int)) (by decide) rfl ?_
  intro p e s m args below meth c s₁ B hml hv
  obtain ⟨rfl, hP, hK⟩ := hv
  have hx := B.exec
  have hb := B.bytes
  have hr := B.returns
  have hts := atoms_spec (ws := wsX6_on) B.pre
  have hown : s.vm.findClass RX6 = some m.cls := findClass_of_methodNamed B.named
  have hlocks := B.notSynchronized
  obtain ⟨A, hAe⟩ : ∃ A, A = Aof (mdw cI cL b (enc co gu kn fo sp ki pl ea to qu) fd mo tr b1 tp tm so bg te wd va gd bo sz sh le im bf ik) := ⟨_, rfl⟩
  rw [← hAe]
  have hD : ∀ ws' : va_W, ws'.map Prod.fst = (mdw cI cL b (enc co gu kn fo sp ki pl ea to qu) fd mo tr b1 tp tm so bg te wd va gd bo sz sh le im bf ik).map Prod.fst → va_D A ws' := fun ws' e => by rw [hAe]; exact va_D_adr (va_D_self (va_D_adr dj rfl)) e
  have hS : va_S A s.heap s.heap [] := va_S.rf
  have hP : va_P D vwCl (mdw cI cL b (enc co gu kn fo sp ki pl ea to qu) fd mo tr b1 tp tm so bg te wd va gd bo sz sh le im bf ik) s.heap := hP
  have hl := lv_entry ([.ref (b 0), .int x0, .int x1, .int x2]) (n := 5) (Nat.le_of_ble_eq_true rfl)
  rw [lg_entry_eq]
  generalize (lg_sl ([.ref (b 0), .int x0, .int x1, .int x2]) ++ List.replicate (5 - (lg_sl ([.ref (b 0), .int x0, .int x1, .int x2])).length) Slot.unset).toArray = ls at hl ⊢
  have hl : lv_has ls 5 [(0, .ref (b 0)), (1, .int x0), (2, .int x1), (3, .int x2)] := hl
  have k47 := hts (.constant RX6 47 (-1000000001)) (List.mem_of_getElem? (i := 1) rfl)
  have f19 := hts (.fieldLink RX6 19 "KnivesLaidModel" "tried" "[I") (List.mem_of_getElem? (i := 2) rfl)
  have inX6 : ∀ w ∈ u_ws RX6 TX6 20, w ∈ wsX6_on := in_at 96 _ _ rfl
  skip
  refine lv_aload_n hx hb dX6_on_0 rfl (lv_at hl 0 rfl) ?_
  refine lv_iload_n hx hb dX6_on_1 rfl (lv_at hl 1 rfl) ?_
  refine callE (W.runV (As := [.int x0]) (rest := []) ⟨hx, hb, hml, hown, hts⟩ (k_X6_isOne l D cI cL cS b co gu kn fo sp ki pl ea to qu fd mo tr b1 tp tm so bg te wd va gd bo sz sh le im bf ik x0 ok.gu) (cwV 1 hts gX6_on_X6_isOne rfl rfl rfl (by decide +kernel) ⟨Nat.le_of_ble_eq_true rfl, Nat.le_of_ble_eq_true rfl⟩) ⟨PcR_fb, va_recv hK hP (ci := 4) (q0 := 0) rfl rfl, PcR_pre hP hK⟩ rfl rfl hl.1 rfl (lv_room (Nat.le_of_ble_eq_true rfl)) dX6_on_2 ⟨Nat.zero_le _, Nat.zero_le _⟩) ?_
  refine lv_if_eq (tgt := 27) hx hb dX6_on_5 (by decide) (fun c_1 => ?_) (fun c_1 => ?_)
  · skip
    have c_1b := bI_0 c_1
    refine lv_aload_n hx hb dX6_on_27 rfl (lv_at hl 0 rfl) ?_
    refine lv_ldc hx hb hown k47 dX6_on_28 ?_
    refine callMi (va_runV (As := [.int (-1000000001)]) (rest := []) ⟨hx, hb, hml, hown, hts⟩ (k_X6_finds l D cI cL cS b co gu kn fo sp ki pl ea to qu fd mo tr b1 tp tm so bg te wd va gd bo sz sh le im bf ik (-1000000001) (va_DT (hD _ rfl) rfl) (vp_in_iff.mpr (by decide))) (cwV 1 hts gX6_on_X6_finds rfl rfl rfl (by decide +kernel) ⟨Nat.le_of_ble_eq_true rfl, Nat.le_of_ble_eq_true rfl⟩) ⟨PcR_fb, va_recv hK hP (ci := 4) (q0 := 0) rfl rfl, PcR_pre hP hK⟩ rfl rfl hl.1 rfl (lv_room (Nat.le_of_ble_eq_true rfl)) dX6_on_30 ⟨Nat.zero_le _, Nat.zero_le _⟩) hP (hD _ rfl) hS 0 13 rfl (fun r_3 u_2 H locs hu_2 hP hS => ?_)
    obtain ⟨hu_2r, hu_2⟩ := hu_2
    subst hu_2r
    have hP : va_P D vwCl (mdw cI cL b (enc co gu kn fo sp ki pl ea to qu) (bump fd (-1000000001)) mo tr b1 tp tm so bg te wd va gd bo sz sh le im bf ik) H := hP
    exact W.iret hx hb hr (fun t ht hW => ⟨⟨_, (mo, tr, bump fd (-1000000001)), rfl, (by exact (iF_f (fun h => by first | exact absurd h.1 c_1b | exact absurd c_1b h.1 | exact absurd h.2.1 c_1b | exact absurd c_1b h.2.1 | exact absurd h.2.2 c_1b | exact absurd c_1b h.2.2)).symm), by dsimp only; rw [ht]; exact hP⟩, hS.F ht⟩) hS.2.2 dX6_on_33
  · skip
    have c_1b := bI_n c_1
    have h8 : vp_in x0 8 := in_8 ok.gu c_1b
    refine lv_iload_n hx hb dX6_on_8 rfl (lv_at hl 2 rfl) ?_
    refine lv_iconst (v := 0) hx hb dX6_on_9 (by decide) ?_
    refine lv_bipush (v := 100) hx hb dX6_on_10 (by decide) ?_
    refine callE (W.runS (As := [.int x1, .int 0, .int 100]) (rest := []) ⟨hx, hb, hml, hown, hts⟩ (k_X6_in l x1 0 100) (va_cwS 3 hts gX6_on_X6_in rfl rfl rfl (by decide +kernel) ⟨Nat.le_of_ble_eq_true rfl, Nat.le_of_ble_eq_true rfl⟩) ⟨PcP_fb, fun U _ _ => ⟨rfl, trivial⟩⟩ rfl rfl hl.1 rfl (lv_room (Nat.le_of_ble_eq_true rfl)) dX6_on_12 ⟨Nat.zero_le _, Nat.zero_le _⟩) ?_
    refine lv_if_eq (tgt := 27) hx hb dX6_on_15 (by decide) (fun c_4 => ?_) (fun c_4 => ?_)
    · skip
      have c_4b := bI_0 c_4
      refine lv_aload_n hx hb dX6_on_27 rfl (lv_at hl 0 rfl) ?_
      refine lv_ldc hx hb hown k47 dX6_on_28 ?_
      refine callMi (va_runV (As := [.int (-1000000001)]) (rest := []) ⟨hx, hb, hml, hown, hts⟩ (k_X6_finds l D cI cL cS b co gu kn fo sp ki pl ea to qu fd mo tr b1 tp tm so bg te wd va gd bo sz sh le im bf ik (-1000000001) (va_DT (hD _ rfl) rfl) (vp_in_iff.mpr (by decide))) (cwV 1 hts gX6_on_X6_finds rfl rfl rfl (by decide +kernel) ⟨Nat.le_of_ble_eq_true rfl, Nat.le_of_ble_eq_true rfl⟩) ⟨PcR_fb, va_recv hK hP (ci := 4) (q0 := 0) rfl rfl, PcR_pre hP hK⟩ rfl rfl hl.1 rfl (lv_room (Nat.le_of_ble_eq_true rfl)) dX6_on_30 ⟨Nat.zero_le _, Nat.zero_le _⟩) hP (hD _ rfl) hS 0 13 rfl (fun r_6 u_5 H locs hu_5 hP hS => ?_)
      obtain ⟨hu_5r, hu_5⟩ := hu_5
      subst hu_5r
      have hP : va_P D vwCl (mdw cI cL b (enc co gu kn fo sp ki pl ea to qu) (bump fd (-1000000001)) mo tr b1 tp tm so bg te wd va gd bo sz sh le im bf ik) H := hP
      exact W.iret hx hb hr (fun t ht hW => ⟨⟨_, (mo, tr, bump fd (-1000000001)), rfl, (by exact (iF_f (fun h => by first | exact absurd h.1 c_4b | exact absurd c_4b h.1 | exact absurd h.2.1 c_4b | exact absurd c_4b h.2.1 | exact absurd h.2.2 c_4b | exact absurd c_4b h.2.2)).symm), by dsimp only; rw [ht]; exact hP⟩, hS.F ht⟩) hS.2.2 dX6_on_33
    · skip
      have c_4b := bI_n c_4
      have hn := c_4b
      refine lv_iload_n hx hb dX6_on_18 rfl (lv_at hl 3 rfl) ?_
      refine lv_iconst (v := 0) hx hb dX6_on_19 (by decide) ?_
      refine lv_iconst (v := 2) hx hb dX6_on_20 (by decide) ?_
      refine callE (W.runS (As := [.int x2, .int 0, .int 2]) (rest := []) ⟨hx, hb, hml, hown, hts⟩ (k_X6_in l x2 0 2) (va_cwS 3 hts gX6_on_X6_in rfl rfl rfl (by decide +kernel) ⟨Nat.le_of_ble_eq_true rfl, Nat.le_of_ble_eq_true rfl⟩) ⟨PcP_fb, fun U _ _ => ⟨rfl, trivial⟩⟩ rfl rfl hl.1 rfl (lv_room (Nat.le_of_ble_eq_true rfl)) dX6_on_21 ⟨Nat.zero_le _, Nat.zero_le _⟩) ?_
      refine lv_if_ne (tgt := 34) hx hb dX6_on_24 (by decide) (fun c_7 => ?_) (fun c_7 => ?_)
      · skip
        have c_7b := bI_n c_7
        have hw : vp_in x2 3 := (in_iff9 (n := 2) (by decide)).mp c_7b
        refine lv_aload_n hx hb dX6_on_34 rfl (lv_at hl 0 rfl) ?_
        refine lv_iconst (v := 1) hx hb dX6_on_35 (by decide) ?_
        refine lv_aload_n hx hb dX6_on_36 rfl (lv_at hl 0 rfl) ?_
        refine va_get (ci := 4) (v := .ref (b 4)) (C := RX6) (T := TX6) (N := 20) hx hb hts inX6 hown hK hP 0 rfl rfl 3 (by decide) f19 (fun _ h9 => h9) rfl dX6_on_37 ?_
        refine callMv (va_runV (As := [.int 1, .ref (b 4)]) (rest := []) ⟨hx, hb, hml, hown, hts⟩ (k_X6_moveAll_tr1 l D cI cL cS b co gu kn fo sp ki pl ea to qu fd mo tr b1 tp tm so bg te wd va gd bo sz sh le im bf ik (va_DT (hD _ rfl) rfl)) (cwV 2 hts gX6_on_X6_moveAll rfl rfl rfl (by decide +kernel) ⟨Nat.le_of_ble_eq_true rfl, Nat.le_of_ble_eq_true rfl⟩) ⟨PcR_fb, va_recv hK hP (ci := 4) (q0 := 0) rfl rfl, PcR_pre hP hK⟩ rfl rfl hl.1 rfl (lv_room (Nat.le_of_ble_eq_true rfl)) dX6_on_40 ⟨Nat.zero_le _, Nat.zero_le _⟩) hP (hD _ rfl) hS 0 13 rfl (fun u_8 H locs hu_8 hP hS => ?_)
        have hP : va_P D vwCl (mdw cI cL b (enc co gu kn fo sp ki pl ea to qu) fd mo (enc co gu kn fo sp ki pl ea to qu) b1 tp tm so bg te wd va gd bo sz sh le im bf ik) H := hP
        refine lv_aload_n hx hb dX6_on_43 rfl (lv_at hl 0 rfl) ?_
        refine lv_iload_n hx hb dX6_on_44 rfl (lv_at hl 2 rfl) ?_
        refine callMv (va_runV (As := [.int x1]) (rest := []) ⟨hx, hb, hml, hown, hts⟩ (k_X6_passes l D cI cL cS b co gu kn fo sp ki pl ea to qu fd mo (enc co gu kn fo sp ki pl ea to qu) b1 tp tm so bg te wd va gd bo sz sh le im bf ik x1 (va_DT (hD _ rfl) rfl) ok oe (wi_in hn (by decide) (by decide))) (cwV 1 hts gX6_on_X6_passes rfl rfl rfl (by decide +kernel) ⟨Nat.le_of_ble_eq_true rfl, Nat.le_of_ble_eq_true rfl⟩) ⟨PcR_fb, va_recv hK hP (ci := 4) (q0 := 0) rfl rfl, PcR_pre hP hK⟩ rfl rfl hl.1 rfl (lv_room (Nat.le_of_ble_eq_true rfl)) dX6_on_45 ⟨Nat.zero_le _, Nat.zero_le _⟩) hP (hD _ rfl) hS 0 13 rfl (fun u_10 H locs hu_10 hP hS => ?_)
        obtain ⟨mo_12, rfl⟩ : ∃ z, z = u_10 := ⟨_, rfl⟩
        have hP : va_P D vwCl (mdw cI cL b (enc (sCo (sPass (ix x1) (co, gu, kn, fo, sp, ki, pl, ea, to, qu))) (sGu (sPass (ix x1) (co, gu, kn, fo, sp, ki, pl, ea, to, qu))) (sKn (sPass (ix x1) (co, gu, kn, fo, sp, ki, pl, ea, to, qu))) (sFo (sPass (ix x1) (co, gu, kn, fo, sp, ki, pl, ea, to, qu))) (sSp (sPass (ix x1) (co, gu, kn, fo, sp, ki, pl, ea, to, qu))) (sKi (sPass (ix x1) (co, gu, kn, fo, sp, ki, pl, ea, to, qu))) (sPl (sPass (ix x1) (co, gu, kn, fo, sp, ki, pl, ea, to, qu))) (sEa (sPass (ix x1) (co, gu, kn, fo, sp, ki, pl, ea, to, qu))) (sTo (sPass (ix x1) (co, gu, kn, fo, sp, ki, pl, ea, to, qu))) (sQu (sPass (ix x1) (co, gu, kn, fo, sp, ki, pl, ea, to, qu)))) fd mo_12 (enc co gu kn fo sp ki pl ea to qu) b1 tp tm so bg te wd va gd bo sz sh le im bf ik) H := hP
        refine lv_aload_n hx hb dX6_on_48 rfl (lv_at hl 0 rfl) ?_
        refine lv_iload_n hx hb dX6_on_49 rfl (lv_at hl 1 rfl) ?_
        refine lv_iconst (v := 2) hx hb dX6_on_50 (by decide) ?_
        refine lv_iload_n hx hb dX6_on_51 rfl (lv_at hl 3 rfl) ?_
        refine lv_iadd hx hb dX6_on_52 ?_
        refine callE (W.runV (As := [.int x0, .int (2 + x2)]) (rest := []) ⟨hx, hb, hml, hown, hts⟩ (k_X6_its l D cI cL cS b (sCo (sPass (ix x1) (co, gu, kn, fo, sp, ki, pl, ea, to, qu))) (sGu (sPass (ix x1) (co, gu, kn, fo, sp, ki, pl, ea, to, qu))) (sKn (sPass (ix x1) (co, gu, kn, fo, sp, ki, pl, ea, to, qu))) (sFo (sPass (ix x1) (co, gu, kn, fo, sp, ki, pl, ea, to, qu))) (sSp (sPass (ix x1) (co, gu, kn, fo, sp, ki, pl, ea, to, qu))) (sKi (sPass (ix x1) (co, gu, kn, fo, sp, ki, pl, ea, to, qu))) (sPl (sPass (ix x1) (co, gu, kn, fo, sp, ki, pl, ea, to, qu))) (sEa (sPass (ix x1) (co, gu, kn, fo, sp, ki, pl, ea, to, qu))) (sTo (sPass (ix x1) (co, gu, kn, fo, sp, ki, pl, ea, to, qu))) (sQu (sPass (ix x1) (co, gu, kn, fo, sp, ki, pl, ea, to, qu))) fd mo_12 (enc co gu kn fo sp ki pl ea to qu) b1 tp tm so bg te wd va gd bo sz sh le im bf ik x0 (2 + x2) h8 (on_in hw)) (cwV 2 hts gX6_on_X6_its rfl rfl rfl (by decide +kernel) ⟨Nat.le_of_ble_eq_true rfl, Nat.le_of_ble_eq_true rfl⟩) ⟨PcR_fb, va_recv hK hP (ci := 4) (q0 := 0) rfl rfl, PcR_pre hP hK⟩ rfl rfl hl.1 rfl (lv_room (Nat.le_of_ble_eq_true rfl)) dX6_on_53 ⟨Nat.zero_le _, Nat.zero_le _⟩) ?_
        refine lv_istore (lv' := [(4, .int (enc (sCo (sPass (ix x1) (co, gu, kn, fo, sp, ki, pl, ea, to, qu))) (sGu (sPass (ix x1) (co, gu, kn, fo, sp, ki, pl, ea, to, qu))) (sKn (sPass (ix x1) (co, gu, kn, fo, sp, ki, pl, ea, to, qu))) (sFo (sPass (ix x1) (co, gu, kn, fo, sp, ki, pl, ea, to, qu))) (sSp (sPass (ix x1) (co, gu, kn, fo, sp, ki, pl, ea, to, qu))) (sKi (sPass (ix x1) (co, gu, kn, fo, sp, ki, pl, ea, to, qu))) (sPl (sPass (ix x1) (co, gu, kn, fo, sp, ki, pl, ea, to, qu))) (sEa (sPass (ix x1) (co, gu, kn, fo, sp, ki, pl, ea, to, qu))) (sTo (sPass (ix x1) (co, gu, kn, fo, sp, ki, pl, ea, to, qu))) (sQu (sPass (ix x1) (co, gu, kn, fo, sp, ki, pl, ea, to, qu))) (32 + 5 * ix x0 + ix (2 + x2)))), (0, .ref (b 0)), (1, .int x0), (2, .int x1), (3, .int x2)]) hx hb dX6_on_56 hl (by decide) rfl (fun ls hl => ?_)
        refine lv_aload_n hx hb dX6_on_58 rfl (lv_at hl 1 rfl) ?_
        refine lv_iconst (v := 0) hx hb dX6_on_59 (by decide) ?_
        refine lv_aload_n hx hb dX6_on_60 rfl (lv_at hl 1 rfl) ?_
        refine va_get (ci := 4) (v := .ref (b 4)) (C := RX6) (T := TX6) (N := 20) hx hb hts inX6 hown hK hP 0 rfl rfl 3 (by decide) f19 (fun _ h9 => h9) rfl dX6_on_61 ?_
        refine callMv (va_runV (As := [.int 0, .ref (b 4)]) (rest := []) ⟨hx, hb, hml, hown, hts⟩ (k_X6_moveAll_tr0 l D cI cL cS b (sCo (sPass (ix x1) (co, gu, kn, fo, sp, ki, pl, ea, to, qu))) (sGu (sPass (ix x1) (co, gu, kn, fo, sp, ki, pl, ea, to, qu))) (sKn (sPass (ix x1) (co, gu, kn, fo, sp, ki, pl, ea, to, qu))) (sFo (sPass (ix x1) (co, gu, kn, fo, sp, ki, pl, ea, to, qu))) (sSp (sPass (ix x1) (co, gu, kn, fo, sp, ki, pl, ea, to, qu))) (sKi (sPass (ix x1) (co, gu, kn, fo, sp, ki, pl, ea, to, qu))) (sPl (sPass (ix x1) (co, gu, kn, fo, sp, ki, pl, ea, to, qu))) (sEa (sPass (ix x1) (co, gu, kn, fo, sp, ki, pl, ea, to, qu))) (sTo (sPass (ix x1) (co, gu, kn, fo, sp, ki, pl, ea, to, qu))) (sQu (sPass (ix x1) (co, gu, kn, fo, sp, ki, pl, ea, to, qu))) fd mo_12 b1 tp tm so bg te wd va gd bo sz sh le im bf ik co gu kn fo sp ki pl ea to qu (va_DT (hD _ rfl) rfl)) (cwV 2 hts gX6_on_X6_moveAll rfl rfl rfl (by decide +kernel) ⟨Nat.le_of_ble_eq_true rfl, Nat.le_of_ble_eq_true rfl⟩) ⟨PcR_fb, va_recv hK hP (ci := 4) (q0 := 0) rfl rfl, PcR_pre hP hK⟩ rfl rfl hl.1 rfl (lv_room (Nat.le_of_ble_eq_true rfl)) dX6_on_64 ⟨Nat.zero_le _, Nat.zero_le _⟩) hP (hD _ rfl) hS 0 13 rfl (fun u_13 H locs hu_13 hP hS => ?_)
        have hP : va_P D vwCl (mdw cI cL b (enc co gu kn fo sp ki pl ea to qu) fd mo_12 (enc co gu kn fo sp ki pl ea to qu) b1 tp tm so bg te wd va gd bo sz sh le im bf ik) H := hP
        refine lv_iload hx hb dX6_on_67 (lv_at hl 0 rfl) ?_
        exact W.iret hx hb hr (fun t ht hW => ⟨⟨_, (mo_12, enc co gu kn fo sp ki pl ea to qu, fd), rfl, (by unfold sOn; rw [iF_t ⟨c_1b, c_4b, c_7b⟩]; exact on_ans hw), by dsimp only; rw [ht]; exact hP⟩, hS.F ht⟩) hS.2.2 dX6_on_69
      · skip
        have c_7b := bI_0 c_7
        refine lv_aload_n hx hb dX6_on_27 rfl (lv_at hl 0 rfl) ?_
        refine lv_ldc hx hb hown k47 dX6_on_28 ?_
        refine callMi (va_runV (As := [.int (-1000000001)]) (rest := []) ⟨hx, hb, hml, hown, hts⟩ (k_X6_finds l D cI cL cS b co gu kn fo sp ki pl ea to qu fd mo tr b1 tp tm so bg te wd va gd bo sz sh le im bf ik (-1000000001) (va_DT (hD _ rfl) rfl) (vp_in_iff.mpr (by decide))) (cwV 1 hts gX6_on_X6_finds rfl rfl rfl (by decide +kernel) ⟨Nat.le_of_ble_eq_true rfl, Nat.le_of_ble_eq_true rfl⟩) ⟨PcR_fb, va_recv hK hP (ci := 4) (q0 := 0) rfl rfl, PcR_pre hP hK⟩ rfl rfl hl.1 rfl (lv_room (Nat.le_of_ble_eq_true rfl)) dX6_on_30 ⟨Nat.zero_le _, Nat.zero_le _⟩) hP (hD _ rfl) hS 0 13 rfl (fun r_16 u_15 H locs hu_15 hP hS => ?_)
        obtain ⟨hu_15r, hu_15⟩ := hu_15
        subst hu_15r
        have hP : va_P D vwCl (mdw cI cL b (enc co gu kn fo sp ki pl ea to qu) (bump fd (-1000000001)) mo tr b1 tp tm so bg te wd va gd bo sz sh le im bf ik) H := hP
        exact W.iret hx hb hr (fun t ht hW => ⟨⟨_, (mo, tr, bump fd (-1000000001)), rfl, (by exact (iF_f (fun h => by first | exact absurd h.1 c_7b | exact absurd c_7b h.1 | exact absurd h.2.1 c_7b | exact absurd c_7b h.2.1 | exact absurd h.2.2 c_7b | exact absurd c_7b h.2.2)).symm), by dsimp only; rw [ht]; exact hP⟩, hS.F ht⟩) hS.2.2 dX6_on_33

set_option maxRecDepth 100000 in
set_option maxHeartbeats 4000000 in
theorem k_X6_allBehind2 (l : Launch) (D : va_G) (cI cL cS : ClassId) (b : Nat → Nat) (co gu : Int32) (kn fo sp ki pl ea to qu : FI) (fd : FI) (mo : FI) (b1 : FI) (tp : FI) (tm : Int32) (so : Int32) (bg : Int32) (te : Int32) (wd : Int64) (va : Int32) (gd : Int32) (bo : FI) (sz : FI) (sh : FJ) (le : FJ) (im : FI) (bf : FI) (ik : Int32) (co2 gu2 : Int32) (kn2 fo2 sp2 ki2 pl2 ea2 to2 qu2 : FI) (x0 : Int32) (dj : va_D (fun _ => True) (dj0 b 13)) (ok : okT gu kn fo sp (whC gu pl) ki pl) (oe : okE ea to qu) (h0 : vp_in x0 1000) : Met l yX6_allBehind wsX6_allBehind { frames := 7, cells := 0, slots := 0, locals := 160 } (PcR D vwCl (tyG cI cL cS) [.ref (b 0), .int x0, .int 2] (mdw cI cL b (enc co gu kn fo sp ki pl ea to qu) fd mo (enc co2 gu2 kn2 fo2 sp2 ki2 pl2 ea2 to2 qu2) b1 tp tm so bg te wd va gd bo sz sh le im bf ik)) (va_Qi (fun (r : Int32) (u : FI) => r = sSum (sEa (sPass (ix x0) (co, gu, kn, fo, sp, ki, pl, ea, to, qu))) (ix gu)) (fun u t => va_P D vwCl (mdw cI cL b (enc co2 gu2 kn2 fo2 sp2 ki2 pl2 ea2 to2 qu2) fd u (enc co2 gu2 kn2 fo2 sp2 ki2 pl2 ea2 to2 qu2) b1 tp tm so bg te wd va gd bo sz sh le im bf ik) t.heap) (Aof (mdw cI cL b (enc co gu kn fo sp ki pl ea to qu) fd mo (enc co2 gu2 kn2 fo2 sp2 ki2 pl2 ea2 to2 qu2) b1 tp tm so bg te wd va gd bo sz sh le im bf ik))) 0 0 (Aof (mdw cI cL b (enc co gu kn fo sp ki pl ea to qu) fd mo (enc co2 gu2 kn2 fo2 sp2 ki2 pl2 ea2 to2 qu2) b1 tp tm so bg te wd va gd bo sz sh le im bf ik)) := by
  refine Met.ofW (cc := cX6_allBehind) (maxL := 4) (ret := (some .int)) (by decide) rfl ?_
  intro p e s m args below meth c s₁ B hml hv
  obtain ⟨rfl, hP, hK⟩ := hv
  have hx := B.exec
  have hb := B.bytes
  have hr := B.returns
  have hts := atoms_spec (ws := wsX6_allBehind) B.pre
  have hown : s.vm.findClass RX6 = some m.cls := findClass_of_methodNamed B.named
  have hlocks := B.notSynchronized
  obtain ⟨A, hAe⟩ : ∃ A, A = Aof (mdw cI cL b (enc co gu kn fo sp ki pl ea to qu) fd mo (enc co2 gu2 kn2 fo2 sp2 ki2 pl2 ea2 to2 qu2) b1 tp tm so bg te wd va gd bo sz sh le im bf ik) := ⟨_, rfl⟩
  rw [← hAe]
  have hD : ∀ ws' : va_W, ws'.map Prod.fst = (mdw cI cL b (enc co gu kn fo sp ki pl ea to qu) fd mo (enc co2 gu2 kn2 fo2 sp2 ki2 pl2 ea2 to2 qu2) b1 tp tm so bg te wd va gd bo sz sh le im bf ik).map Prod.fst → va_D A ws' := fun ws' e => by rw [hAe]; exact va_D_adr (va_D_self (va_D_adr dj rfl)) e
  have hS : va_S A s.heap s.heap [] := va_S.rf
  have hP : va_P D vwCl (mdw cI cL b (enc co gu kn fo sp ki pl ea to qu) fd mo (enc co2 gu2 kn2 fo2 sp2 ki2 pl2 ea2 to2 qu2) b1 tp tm so bg te wd va gd bo sz sh le im bf ik) s.heap := hP
  have hl := lv_entry ([.ref (b 0), .int x0, .int 2]) (n := 4) (Nat.le_of_ble_eq_true rfl)
  rw [lg_entry_eq]
  generalize (lg_sl ([.ref (b 0), .int x0, .int 2]) ++ List.replicate (4 - (lg_sl ([.ref (b 0), .int x0, .int 2])).length) Slot.unset).toArray = ls at hl ⊢
  have hl : lv_has ls 4 [(0, .ref (b 0)), (1, .int x0), (2, .int 2)] := hl
  have f19 := hts (.fieldLink RX6 19 "KnivesLaidModel" "tried" "[I") (List.mem_of_getElem? (i := 1) rfl)
  have inX6 : ∀ w ∈ u_ws RX6 TX6 20, w ∈ wsX6_allBehind := in_at 87 _ _ rfl
  skip
  refine lv_aload_n hx hb dX6_allBehind_0 rfl (lv_at hl 0 rfl) ?_
  refine lv_iload_n hx hb dX6_allBehind_1 rfl (lv_at hl 1 rfl) ?_
  refine callMv (va_runV (As := [.int x0]) (rest := []) ⟨hx, hb, hml, hown, hts⟩ (k_X6_passes l D cI cL cS b co gu kn fo sp ki pl ea to qu fd mo (enc co2 gu2 kn2 fo2 sp2 ki2 pl2 ea2 to2 qu2) b1 tp tm so bg te wd va gd bo sz sh le im bf ik x0 (va_DT (hD _ rfl) rfl) ok oe h0) (cwV 1 hts gX6_allBehind_X6_passes rfl rfl rfl (by decide +kernel) ⟨Nat.le_of_ble_eq_true rfl, Nat.le_of_ble_eq_true rfl⟩) ⟨PcR_fb, va_recv hK hP (ci := 4) (q0 := 0) rfl rfl, PcR_pre hP hK⟩ rfl rfl hl.1 rfl (lv_room (Nat.le_of_ble_eq_true rfl)) dX6_allBehind_2 ⟨Nat.zero_le _, Nat.zero_le _⟩) hP (hD _ rfl) hS 0 13 rfl (fun u_1 H locs hu_1 hP hS => ?_)
  obtain ⟨mo_3, rfl⟩ : ∃ z, z = u_1 := ⟨_, rfl⟩
  have hP : va_P D vwCl (mdw cI cL b (enc (sCo (sPass (ix x0) (co, gu, kn, fo, sp, ki, pl, ea, to, qu))) (sGu (sPass (ix x0) (co, gu, kn, fo, sp, ki, pl, ea, to, qu))) (sKn (sPass (ix x0) (co, gu, kn, fo, sp, ki, pl, ea, to, qu))) (sFo (sPass (ix x0) (co, gu, kn, fo, sp, ki, pl, ea, to, qu))) (sSp (sPass (ix x0) (co, gu, kn, fo, sp, ki, pl, ea, to, qu))) (sKi (sPass (ix x0) (co, gu, kn, fo, sp, ki, pl, ea, to, qu))) (sPl (sPass (ix x0) (co, gu, kn, fo, sp, ki, pl, ea, to, qu))) (sEa (sPass (ix x0) (co, gu, kn, fo, sp, ki, pl, ea, to, qu))) (sTo (sPass (ix x0) (co, gu, kn, fo, sp, ki, pl, ea, to, qu))) (sQu (sPass (ix x0) (co, gu, kn, fo, sp, ki, pl, ea, to, qu)))) fd mo_3 (enc co2 gu2 kn2 fo2 sp2 ki2 pl2 ea2 to2 qu2) b1 tp tm so bg te wd va gd bo sz sh le im bf ik) H := hP
  refine lv_aload_n hx hb dX6_allBehind_5 rfl (lv_at hl 0 rfl) ?_
  refine lv_iload_n hx hb dX6_allBehind_6 rfl (lv_at hl 2 rfl) ?_
  refine callE (W.runV (As := [.int 2]) (rest := []) ⟨hx, hb, hml, hown, hts⟩ (k_X6_sumOf2 l D cI cL cS b (sCo (sPass (ix x0) (co, gu, kn, fo, sp, ki, pl, ea, to, qu))) (sGu (sPass (ix x0) (co, gu, kn, fo, sp, ki, pl, ea, to, qu))) (sKn (sPass (ix x0) (co, gu, kn, fo, sp, ki, pl, ea, to, qu))) (sFo (sPass (ix x0) (co, gu, kn, fo, sp, ki, pl, ea, to, qu))) (sSp (sPass (ix x0) (co, gu, kn, fo, sp, ki, pl, ea, to, qu))) (sKi (sPass (ix x0) (co, gu, kn, fo, sp, ki, pl, ea, to, qu))) (sPl (sPass (ix x0) (co, gu, kn, fo, sp, ki, pl, ea, to, qu))) (sEa (sPass (ix x0) (co, gu, kn, fo, sp, ki, pl, ea, to, qu))) (sTo (sPass (ix x0) (co, gu, kn, fo, sp, ki, pl, ea, to, qu))) (sQu (sPass (ix x0) (co, gu, kn, fo, sp, ki, pl, ea, to, qu))) fd mo_3 (enc co2 gu2 kn2 fo2 sp2 ki2 pl2 ea2 to2 qu2) b1 tp tm so bg te wd va gd bo sz sh le im bf ik (((okS_pass (σ := (co, gu, kn, fo, sp, ki, pl, ea, to, qu)) ⟨ok, oe⟩ (ix x0)).1.cC).gu)) (cwV 1 hts gX6_allBehind_X6_sumOf rfl rfl rfl (by decide +kernel) ⟨Nat.le_of_ble_eq_true rfl, Nat.le_of_ble_eq_true rfl⟩) ⟨PcR_fb, va_recv hK hP (ci := 4) (q0 := 0) rfl rfl, PcR_pre hP hK⟩ rfl rfl hl.1 rfl (lv_room (Nat.le_of_ble_eq_true rfl)) dX6_allBehind_7 ⟨Nat.zero_le _, Nat.zero_le _⟩) ?_
  refine lv_istore_n (lv' := [(3, .int (sSum (sEa (sPass (ix x0) (co, gu, kn, fo, sp, ki, pl, ea, to, qu))) (ix (sGu (sPass (ix x0) (co, gu, kn, fo, sp, ki, pl, ea, to, qu)))))), (0, .ref (b 0)), (1, .int x0), (2, .int 2)]) hx hb dX6_allBehind_10 rfl hl (by decide) rfl (fun ls hl => ?_)
  refine lv_aload_n hx hb dX6_allBehind_11 rfl (lv_at hl 1 rfl) ?_
  refine lv_iconst (v := 0) hx hb dX6_allBehind_12 (by decide) ?_
  refine lv_aload_n hx hb dX6_allBehind_13 rfl (lv_at hl 1 rfl) ?_
  refine va_get (ci := 4) (v := .ref (b 4)) (C := RX6) (T := TX6) (N := 20) hx hb hts inX6 hown hK hP 0 rfl rfl 3 (by decide) f19 (fun _ h9 => h9) rfl dX6_allBehind_14 ?_
  refine callMv (va_runV (As := [.int 0, .ref (b 4)]) (rest := []) ⟨hx, hb, hml, hown, hts⟩ (k_X6_moveAll_tr0 l D cI cL cS b (sCo (sPass (ix x0) (co, gu, kn, fo, sp, ki, pl, ea, to, qu))) (sGu (sPass (ix x0) (co, gu, kn, fo, sp, ki, pl, ea, to, qu))) (sKn (sPass (ix x0) (co, gu, kn, fo, sp, ki, pl, ea, to, qu))) (sFo (sPass (ix x0) (co, gu, kn, fo, sp, ki, pl, ea, to, qu))) (sSp (sPass (ix x0) (co, gu, kn, fo, sp, ki, pl, ea, to, qu))) (sKi (sPass (ix x0) (co, gu, kn, fo, sp, ki, pl, ea, to, qu))) (sPl (sPass (ix x0) (co, gu, kn, fo, sp, ki, pl, ea, to, qu))) (sEa (sPass (ix x0) (co, gu, kn, fo, sp, ki, pl, ea, to, qu))) (sTo (sPass (ix x0) (co, gu, kn, fo, sp, ki, pl, ea, to, qu))) (sQu (sPass (ix x0) (co, gu, kn, fo, sp, ki, pl, ea, to, qu))) fd mo_3 b1 tp tm so bg te wd va gd bo sz sh le im bf ik co2 gu2 kn2 fo2 sp2 ki2 pl2 ea2 to2 qu2 (va_DT (hD _ rfl) rfl)) (cwV 2 hts gX6_allBehind_X6_moveAll rfl rfl rfl (by decide +kernel) ⟨Nat.le_of_ble_eq_true rfl, Nat.le_of_ble_eq_true rfl⟩) ⟨PcR_fb, va_recv hK hP (ci := 4) (q0 := 0) rfl rfl, PcR_pre hP hK⟩ rfl rfl hl.1 rfl (lv_room (Nat.le_of_ble_eq_true rfl)) dX6_allBehind_17 ⟨Nat.zero_le _, Nat.zero_le _⟩) hP (hD _ rfl) hS 0 13 rfl (fun u_4 H locs hu_4 hP hS => ?_)
  have hP : va_P D vwCl (mdw cI cL b (enc co2 gu2 kn2 fo2 sp2 ki2 pl2 ea2 to2 qu2) fd mo_3 (enc co2 gu2 kn2 fo2 sp2 ki2 pl2 ea2 to2 qu2) b1 tp tm so bg te wd va gd bo sz sh le im bf ik) H := hP
  refine lv_iload_n hx hb dX6_allBehind_20 rfl (lv_at hl 0 rfl) ?_
  exact W.iret hx hb hr (fun t ht hW => ⟨⟨_, mo_3, rfl, (by rw [(pass_st (co, gu, kn, fo, sp, ki, pl, ea, to, qu) (ix x0)).1]), by dsimp only; rw [ht]; exact hP⟩, hS.F ht⟩) hS.2.2 dX6_allBehind_21

set_option maxRecDepth 100000 in
set_option maxHeartbeats 4000000 in
theorem k_X6_allBehind4 (l : Launch) (D : va_G) (cI cL cS : ClassId) (b : Nat → Nat) (co gu : Int32) (kn fo sp ki pl ea to qu : FI) (fd : FI) (mo : FI) (b1 : FI) (tp : FI) (tm : Int32) (so : Int32) (bg : Int32) (te : Int32) (wd : Int64) (va : Int32) (gd : Int32) (bo : FI) (sz : FI) (sh : FJ) (le : FJ) (im : FI) (bf : FI) (ik : Int32) (co2 gu2 : Int32) (kn2 fo2 sp2 ki2 pl2 ea2 to2 qu2 : FI) (x0 : Int32) (dj : va_D (fun _ => True) (dj0 b 13)) (ok : okT gu kn fo sp (whC gu pl) ki pl) (oe : okE ea to qu) (h0 : vp_in x0 1000) : Met l yX6_allBehind wsX6_allBehind { frames := 7, cells := 0, slots := 0, locals := 160 } (PcR D vwCl (tyG cI cL cS) [.ref (b 0), .int x0, .int 4] (mdw cI cL b (enc co gu kn fo sp ki pl ea to qu) fd mo (enc co2 gu2 kn2 fo2 sp2 ki2 pl2 ea2 to2 qu2) b1 tp tm so bg te wd va gd bo sz sh le im bf ik)) (va_Qi (fun (r : Int32) (u : FI) => r = sSum (sQu (sPass (ix x0) (co, gu, kn, fo, sp, ki, pl, ea, to, qu))) (ix gu)) (fun u t => va_P D vwCl (mdw cI cL b (enc co2 gu2 kn2 fo2 sp2 ki2 pl2 ea2 to2 qu2) fd u (enc co2 gu2 kn2 fo2 sp2 ki2 pl2 ea2 to2 qu2) b1 tp tm so bg te wd va gd bo sz sh le im bf ik) t.heap) (Aof (mdw cI cL b (enc co gu kn fo sp ki pl ea to qu) fd mo (enc co2 gu2 kn2 fo2 sp2 ki2 pl2 ea2 to2 qu2) b1 tp tm so bg te wd va gd bo sz sh le im bf ik))) 0 0 (Aof (mdw cI cL b (enc co gu kn fo sp ki pl ea to qu) fd mo (enc co2 gu2 kn2 fo2 sp2 ki2 pl2 ea2 to2 qu2) b1 tp tm so bg te wd va gd bo sz sh le im bf ik)) := by
  refine Met.ofW (cc := cX6_allBehind) (maxL := 4) (ret := (some .int)) (by decide) rfl ?_
  intro p e s m args below meth c s₁ B hml hv
  obtain ⟨rfl, hP, hK⟩ := hv
  have hx := B.exec
  have hb := B.bytes
  have hr := B.returns
  have hts := atoms_spec (ws := wsX6_allBehind) B.pre
  have hown : s.vm.findClass RX6 = some m.cls := findClass_of_methodNamed B.named
  have hlocks := B.notSynchronized
  obtain ⟨A, hAe⟩ : ∃ A, A = Aof (mdw cI cL b (enc co gu kn fo sp ki pl ea to qu) fd mo (enc co2 gu2 kn2 fo2 sp2 ki2 pl2 ea2 to2 qu2) b1 tp tm so bg te wd va gd bo sz sh le im bf ik) := ⟨_, rfl⟩
  rw [← hAe]
  have hD : ∀ ws' : va_W, ws'.map Prod.fst = (mdw cI cL b (enc co gu kn fo sp ki pl ea to qu) fd mo (enc co2 gu2 kn2 fo2 sp2 ki2 pl2 ea2 to2 qu2) b1 tp tm so bg te wd va gd bo sz sh le im bf ik).map Prod.fst → va_D A ws' := fun ws' e => by rw [hAe]; exact va_D_adr (va_D_self (va_D_adr dj rfl)) e
  have hS : va_S A s.heap s.heap [] := va_S.rf
  have hP : va_P D vwCl (mdw cI cL b (enc co gu kn fo sp ki pl ea to qu) fd mo (enc co2 gu2 kn2 fo2 sp2 ki2 pl2 ea2 to2 qu2) b1 tp tm so bg te wd va gd bo sz sh le im bf ik) s.heap := hP
  have hl := lv_entry ([.ref (b 0), .int x0, .int 4]) (n := 4) (Nat.le_of_ble_eq_true rfl)
  rw [lg_entry_eq]
  generalize (lg_sl ([.ref (b 0), .int x0, .int 4]) ++ List.replicate (4 - (lg_sl ([.ref (b 0), .int x0, .int 4])).length) Slot.unset).toArray = ls at hl ⊢
  have hl : lv_has ls 4 [(0, .ref (b 0)), (1, .int x0), (2, .int 4)] := hl
  have f19 := hts (.fieldLink RX6 19 "KnivesLaidModel" "tried" "[I") (List.mem_of_getElem? (i := 1) rfl)
  have inX6 : ∀ w ∈ u_ws RX6 TX6 20, w ∈ wsX6_allBehind := in_at 87 _ _ rfl
  skip
  refine lv_aload_n hx hb dX6_allBehind_0 rfl (lv_at hl 0 rfl) ?_
  refine lv_iload_n hx hb dX6_allBehind_1 rfl (lv_at hl 1 rfl) ?_
  refine callMv (va_runV (As := [.int x0]) (rest := []) ⟨hx, hb, hml, hown, hts⟩ (k_X6_passes l D cI cL cS b co gu kn fo sp ki pl ea to qu fd mo (enc co2 gu2 kn2 fo2 sp2 ki2 pl2 ea2 to2 qu2) b1 tp tm so bg te wd va gd bo sz sh le im bf ik x0 (va_DT (hD _ rfl) rfl) ok oe h0) (cwV 1 hts gX6_allBehind_X6_passes rfl rfl rfl (by decide +kernel) ⟨Nat.le_of_ble_eq_true rfl, Nat.le_of_ble_eq_true rfl⟩) ⟨PcR_fb, va_recv hK hP (ci := 4) (q0 := 0) rfl rfl, PcR_pre hP hK⟩ rfl rfl hl.1 rfl (lv_room (Nat.le_of_ble_eq_true rfl)) dX6_allBehind_2 ⟨Nat.zero_le _, Nat.zero_le _⟩) hP (hD _ rfl) hS 0 13 rfl (fun u_1 H locs hu_1 hP hS => ?_)
  obtain ⟨mo_3, rfl⟩ : ∃ z, z = u_1 := ⟨_, rfl⟩
  have hP : va_P D vwCl (mdw cI cL b (enc (sCo (sPass (ix x0) (co, gu, kn, fo, sp, ki, pl, ea, to, qu))) (sGu (sPass (ix x0) (co, gu, kn, fo, sp, ki, pl, ea, to, qu))) (sKn (sPass (ix x0) (co, gu, kn, fo, sp, ki, pl, ea, to, qu))) (sFo (sPass (ix x0) (co, gu, kn, fo, sp, ki, pl, ea, to, qu))) (sSp (sPass (ix x0) (co, gu, kn, fo, sp, ki, pl, ea, to, qu))) (sKi (sPass (ix x0) (co, gu, kn, fo, sp, ki, pl, ea, to, qu))) (sPl (sPass (ix x0) (co, gu, kn, fo, sp, ki, pl, ea, to, qu))) (sEa (sPass (ix x0) (co, gu, kn, fo, sp, ki, pl, ea, to, qu))) (sTo (sPass (ix x0) (co, gu, kn, fo, sp, ki, pl, ea, to, qu))) (sQu (sPass (ix x0) (co, gu, kn, fo, sp, ki, pl, ea, to, qu)))) fd mo_3 (enc co2 gu2 kn2 fo2 sp2 ki2 pl2 ea2 to2 qu2) b1 tp tm so bg te wd va gd bo sz sh le im bf ik) H := hP
  refine lv_aload_n hx hb dX6_allBehind_5 rfl (lv_at hl 0 rfl) ?_
  refine lv_iload_n hx hb dX6_allBehind_6 rfl (lv_at hl 2 rfl) ?_
  refine callE (W.runV (As := [.int 4]) (rest := []) ⟨hx, hb, hml, hown, hts⟩ (k_X6_sumOf4 l D cI cL cS b (sCo (sPass (ix x0) (co, gu, kn, fo, sp, ki, pl, ea, to, qu))) (sGu (sPass (ix x0) (co, gu, kn, fo, sp, ki, pl, ea, to, qu))) (sKn (sPass (ix x0) (co, gu, kn, fo, sp, ki, pl, ea, to, qu))) (sFo (sPass (ix x0) (co, gu, kn, fo, sp, ki, pl, ea, to, qu))) (sSp (sPass (ix x0) (co, gu, kn, fo, sp, ki, pl, ea, to, qu))) (sKi (sPass (ix x0) (co, gu, kn, fo, sp, ki, pl, ea, to, qu))) (sPl (sPass (ix x0) (co, gu, kn, fo, sp, ki, pl, ea, to, qu))) (sEa (sPass (ix x0) (co, gu, kn, fo, sp, ki, pl, ea, to, qu))) (sTo (sPass (ix x0) (co, gu, kn, fo, sp, ki, pl, ea, to, qu))) (sQu (sPass (ix x0) (co, gu, kn, fo, sp, ki, pl, ea, to, qu))) fd mo_3 (enc co2 gu2 kn2 fo2 sp2 ki2 pl2 ea2 to2 qu2) b1 tp tm so bg te wd va gd bo sz sh le im bf ik (((okS_pass (σ := (co, gu, kn, fo, sp, ki, pl, ea, to, qu)) ⟨ok, oe⟩ (ix x0)).1.cC).gu)) (cwV 1 hts gX6_allBehind_X6_sumOf rfl rfl rfl (by decide +kernel) ⟨Nat.le_of_ble_eq_true rfl, Nat.le_of_ble_eq_true rfl⟩) ⟨PcR_fb, va_recv hK hP (ci := 4) (q0 := 0) rfl rfl, PcR_pre hP hK⟩ rfl rfl hl.1 rfl (lv_room (Nat.le_of_ble_eq_true rfl)) dX6_allBehind_7 ⟨Nat.zero_le _, Nat.zero_le _⟩) ?_
  refine lv_istore_n (lv' := [(3, .int (sSum (sQu (sPass (ix x0) (co, gu, kn, fo, sp, ki, pl, ea, to, qu))) (ix (sGu (sPass (ix x0) (co, gu, kn, fo, sp, ki, pl, ea, to, qu)))))), (0, .ref (b 0)), (1, .int x0), (2, .int 4)]) hx hb dX6_allBehind_10 rfl hl (by decide) rfl (fun ls hl => ?_)
  refine lv_aload_n hx hb dX6_allBehind_11 rfl (lv_at hl 1 rfl) ?_
  refine lv_iconst (v := 0) hx hb dX6_allBehind_12 (by decide) ?_
  refine lv_aload_n hx hb dX6_allBehind_13 rfl (lv_at hl 1 rfl) ?_
  refine va_get (ci := 4) (v := .ref (b 4)) (C := RX6) (T := TX6) (N := 20) hx hb hts inX6 hown hK hP 0 rfl rfl 3 (by decide) f19 (fun _ h9 => h9) rfl dX6_allBehind_14 ?_
  refine callMv (va_runV (As := [.int 0, .ref (b 4)]) (rest := []) ⟨hx, hb, hml, hown, hts⟩ (k_X6_moveAll_tr0 l D cI cL cS b (sCo (sPass (ix x0) (co, gu, kn, fo, sp, ki, pl, ea, to, qu))) (sGu (sPass (ix x0) (co, gu, kn, fo, sp, ki, pl, ea, to, qu))) (sKn (sPass (ix x0) (co, gu, kn, fo, sp, ki, pl, ea, to, qu))) (sFo (sPass (ix x0) (co, gu, kn, fo, sp, ki, pl, ea, to, qu))) (sSp (sPass (ix x0) (co, gu, kn, fo, sp, ki, pl, ea, to, qu))) (sKi (sPass (ix x0) (co, gu, kn, fo, sp, ki, pl, ea, to, qu))) (sPl (sPass (ix x0) (co, gu, kn, fo, sp, ki, pl, ea, to, qu))) (sEa (sPass (ix x0) (co, gu, kn, fo, sp, ki, pl, ea, to, qu))) (sTo (sPass (ix x0) (co, gu, kn, fo, sp, ki, pl, ea, to, qu))) (sQu (sPass (ix x0) (co, gu, kn, fo, sp, ki, pl, ea, to, qu))) fd mo_3 b1 tp tm so bg te wd va gd bo sz sh le im bf ik co2 gu2 kn2 fo2 sp2 ki2 pl2 ea2 to2 qu2 (va_DT (hD _ rfl) rfl)) (cwV 2 hts gX6_allBehind_X6_moveAll rfl rfl rfl (by decide +kernel) ⟨Nat.le_of_ble_eq_true rfl, Nat.le_of_ble_eq_true rfl⟩) ⟨PcR_fb, va_recv hK hP (ci := 4) (q0 := 0) rfl rfl, PcR_pre hP hK⟩ rfl rfl hl.1 rfl (lv_room (Nat.le_of_ble_eq_true rfl)) dX6_allBehind_17 ⟨Nat.zero_le _, Nat.zero_le _⟩) hP (hD _ rfl) hS 0 13 rfl (fun u_4 H locs hu_4 hP hS => ?_)
  have hP : va_P D vwCl (mdw cI cL b (enc co2 gu2 kn2 fo2 sp2 ki2 pl2 ea2 to2 qu2) fd mo_3 (enc co2 gu2 kn2 fo2 sp2 ki2 pl2 ea2 to2 qu2) b1 tp tm so bg te wd va gd bo sz sh le im bf ik) H := hP
  refine lv_iload_n hx hb dX6_allBehind_20 rfl (lv_at hl 0 rfl) ?_
  exact W.iret hx hb hr (fun t ht hW => ⟨⟨_, mo_3, rfl, (by rw [(pass_st (co, gu, kn, fo, sp, ki, pl, ea, to, qu) (ix x0)).1]), by dsimp only; rw [ht]; exact hP⟩, hS.F ht⟩) hS.2.2 dX6_allBehind_21

set_option maxRecDepth 100000 in
set_option maxHeartbeats 4000000 in
theorem k_X6_easeBehind (l : Launch) (D : va_G) (cI cL cS : ClassId) (b : Nat → Nat) (co gu : Int32) (kn fo sp ki pl ea to qu : FI) (fd : FI) (mo : FI) (b1 : FI) (tp : FI) (tm : Int32) (so : Int32) (bg : Int32) (te : Int32) (wd : Int64) (va : Int32) (gd : Int32) (bo : FI) (sz : FI) (sh : FJ) (le : FJ) (im : FI) (bf : FI) (ik : Int32) (co2 gu2 : Int32) (kn2 fo2 sp2 ki2 pl2 ea2 to2 qu2 : FI) (x0 : Int32) (x1 : Int32) (dj : va_D (fun _ => True) (dj0 b 13)) (ok : okT gu kn fo sp (whC gu pl) ki pl) (oe : okE ea to qu) (h0 : vp_in x0 8) (h1 : vp_in x1 1000) : Met l yX6_easeBehind wsX6_easeBehind { frames := 7, cells := 0, slots := 0, locals := 160 } (PcR D vwCl (tyG cI cL cS) [.ref (b 0), .int x0, .int x1] (mdw cI cL b (enc co gu kn fo sp ki pl ea to qu) fd mo (enc co2 gu2 kn2 fo2 sp2 ki2 pl2 ea2 to2 qu2) b1 tp tm so bg te wd va gd bo sz sh le im bf ik)) (va_Qi (fun (r : Int32) (u : FI) => r = sEa (sPass (ix x1) (co, gu, kn, fo, sp, ki, pl, ea, to, qu)) (ix x0)) (fun u t => va_P D vwCl (mdw cI cL b (enc co2 gu2 kn2 fo2 sp2 ki2 pl2 ea2 to2 qu2) fd u (enc co2 gu2 kn2 fo2 sp2 ki2 pl2 ea2 to2 qu2) b1 tp tm so bg te wd va gd bo sz sh le im bf ik) t.heap) (Aof (mdw cI cL b (enc co gu kn fo sp ki pl ea to qu) fd mo (enc co2 gu2 kn2 fo2 sp2 ki2 pl2 ea2 to2 qu2) b1 tp tm so bg te wd va gd bo sz sh le im bf ik))) 0 0 (Aof (mdw cI cL b (enc co gu kn fo sp ki pl ea to qu) fd mo (enc co2 gu2 kn2 fo2 sp2 ki2 pl2 ea2 to2 qu2) b1 tp tm so bg te wd va gd bo sz sh le im bf ik)) := by
  refine Met.ofW (cc := cX6_easeBehind) (maxL := 4) (ret := (some .int)) (by decide) rfl ?_
  intro p e s m args below meth c s₁ B hml hv
  obtain ⟨rfl, hP, hK⟩ := hv
  have hx := B.exec
  have hb := B.bytes
  have hr := B.returns
  have hts := atoms_spec (ws := wsX6_easeBehind) B.pre
  have hown : s.vm.findClass RX6 = some m.cls := findClass_of_methodNamed B.named
  have hlocks := B.notSynchronized
  obtain ⟨A, hAe⟩ : ∃ A, A = Aof (mdw cI cL b (enc co gu kn fo sp ki pl ea to qu) fd mo (enc co2 gu2 kn2 fo2 sp2 ki2 pl2 ea2 to2 qu2) b1 tp tm so bg te wd va gd bo sz sh le im bf ik) := ⟨_, rfl⟩
  rw [← hAe]
  have hD : ∀ ws' : va_W, ws'.map Prod.fst = (mdw cI cL b (enc co gu kn fo sp ki pl ea to qu) fd mo (enc co2 gu2 kn2 fo2 sp2 ki2 pl2 ea2 to2 qu2) b1 tp tm so bg te wd va gd bo sz sh le im bf ik).map Prod.fst → va_D A ws' := fun ws' e => by rw [hAe]; exact va_D_adr (va_D_self (va_D_adr dj rfl)) e
  have hS : va_S A s.heap s.heap [] := va_S.rf
  have hP : va_P D vwCl (mdw cI cL b (enc co gu kn fo sp ki pl ea to qu) fd mo (enc co2 gu2 kn2 fo2 sp2 ki2 pl2 ea2 to2 qu2) b1 tp tm so bg te wd va gd bo sz sh le im bf ik) s.heap := hP
  have hl := lv_entry ([.ref (b 0), .int x0, .int x1]) (n := 4) (Nat.le_of_ble_eq_true rfl)
  rw [lg_entry_eq]
  generalize (lg_sl ([.ref (b 0), .int x0, .int x1]) ++ List.replicate (4 - (lg_sl ([.ref (b 0), .int x0, .int x1])).length) Slot.unset).toArray = ls at hl ⊢
  have hl : lv_has ls 4 [(0, .ref (b 0)), (1, .int x0), (2, .int x1)] := hl
  have f19 := hts (.fieldLink RX6 19 "KnivesLaidModel" "tried" "[I") (List.mem_of_getElem? (i := 1) rfl)
  have inX6 : ∀ w ∈ u_ws RX6 TX6 20, w ∈ wsX6_easeBehind := in_at 83 _ _ rfl
  skip
  refine lv_aload_n hx hb dX6_easeBehind_0 rfl (lv_at hl 0 rfl) ?_
  refine lv_iload_n hx hb dX6_easeBehind_1 rfl (lv_at hl 2 rfl) ?_
  refine callMv (va_runV (As := [.int x1]) (rest := []) ⟨hx, hb, hml, hown, hts⟩ (k_X6_passes l D cI cL cS b co gu kn fo sp ki pl ea to qu fd mo (enc co2 gu2 kn2 fo2 sp2 ki2 pl2 ea2 to2 qu2) b1 tp tm so bg te wd va gd bo sz sh le im bf ik x1 (va_DT (hD _ rfl) rfl) ok oe h1) (cwV 1 hts gX6_easeBehind_X6_passes rfl rfl rfl (by decide +kernel) ⟨Nat.le_of_ble_eq_true rfl, Nat.le_of_ble_eq_true rfl⟩) ⟨PcR_fb, va_recv hK hP (ci := 4) (q0 := 0) rfl rfl, PcR_pre hP hK⟩ rfl rfl hl.1 rfl (lv_room (Nat.le_of_ble_eq_true rfl)) dX6_easeBehind_2 ⟨Nat.zero_le _, Nat.zero_le _⟩) hP (hD _ rfl) hS 0 13 rfl (fun u_1 H locs hu_1 hP hS => ?_)
  obtain ⟨mo_3, rfl⟩ : ∃ z, z = u_1 := ⟨_, rfl⟩
  have hP : va_P D vwCl (mdw cI cL b (enc (sCo (sPass (ix x1) (co, gu, kn, fo, sp, ki, pl, ea, to, qu))) (sGu (sPass (ix x1) (co, gu, kn, fo, sp, ki, pl, ea, to, qu))) (sKn (sPass (ix x1) (co, gu, kn, fo, sp, ki, pl, ea, to, qu))) (sFo (sPass (ix x1) (co, gu, kn, fo, sp, ki, pl, ea, to, qu))) (sSp (sPass (ix x1) (co, gu, kn, fo, sp, ki, pl, ea, to, qu))) (sKi (sPass (ix x1) (co, gu, kn, fo, sp, ki, pl, ea, to, qu))) (sPl (sPass (ix x1) (co, gu, kn, fo, sp, ki, pl, ea, to, qu))) (sEa (sPass (ix x1) (co, gu, kn, fo, sp, ki, pl, ea, to, qu))) (sTo (sPass (ix x1) (co, gu, kn, fo, sp, ki, pl, ea, to, qu))) (sQu (sPass (ix x1) (co, gu, kn, fo, sp, ki, pl, ea, to, qu)))) fd mo_3 (enc co2 gu2 kn2 fo2 sp2 ki2 pl2 ea2 to2 qu2) b1 tp tm so bg te wd va gd bo sz sh le im bf ik) H := hP
  refine lv_aload_n hx hb dX6_easeBehind_5 rfl (lv_at hl 0 rfl) ?_
  refine lv_iload_n hx hb dX6_easeBehind_6 rfl (lv_at hl 1 rfl) ?_
  refine lv_iconst (v := 2) hx hb dX6_easeBehind_7 (by decide) ?_
  refine callE (W.runV (As := [.int x0, .int 2]) (rest := []) ⟨hx, hb, hml, hown, hts⟩ (k_X6_its2 l D cI cL cS b (sCo (sPass (ix x1) (co, gu, kn, fo, sp, ki, pl, ea, to, qu))) (sGu (sPass (ix x1) (co, gu, kn, fo, sp, ki, pl, ea, to, qu))) (sKn (sPass (ix x1) (co, gu, kn, fo, sp, ki, pl, ea, to, qu))) (sFo (sPass (ix x1) (co, gu, kn, fo, sp, ki, pl, ea, to, qu))) (sSp (sPass (ix x1) (co, gu, kn, fo, sp, ki, pl, ea, to, qu))) (sKi (sPass (ix x1) (co, gu, kn, fo, sp, ki, pl, ea, to, qu))) (sPl (sPass (ix x1) (co, gu, kn, fo, sp, ki, pl, ea, to, qu))) (sEa (sPass (ix x1) (co, gu, kn, fo, sp, ki, pl, ea, to, qu))) (sTo (sPass (ix x1) (co, gu, kn, fo, sp, ki, pl, ea, to, qu))) (sQu (sPass (ix x1) (co, gu, kn, fo, sp, ki, pl, ea, to, qu))) fd mo_3 (enc co2 gu2 kn2 fo2 sp2 ki2 pl2 ea2 to2 qu2) b1 tp tm so bg te wd va gd bo sz sh le im bf ik x0 h0) (cwV 2 hts gX6_easeBehind_X6_its rfl rfl rfl (by decide +kernel) ⟨Nat.le_of_ble_eq_true rfl, Nat.le_of_ble_eq_true rfl⟩) ⟨PcR_fb, va_recv hK hP (ci := 4) (q0 := 0) rfl rfl, PcR_pre hP hK⟩ rfl rfl hl.1 rfl (lv_room (Nat.le_of_ble_eq_true rfl)) dX6_easeBehind_8 ⟨Nat.zero_le _, Nat.zero_le _⟩) ?_
  refine lv_istore_n (lv' := [(3, .int ((sEa (sPass (ix x1) (co, gu, kn, fo, sp, ki, pl, ea, to, qu))) (ix x0))), (0, .ref (b 0)), (1, .int x0), (2, .int x1)]) hx hb dX6_easeBehind_11 rfl hl (by decide) rfl (fun ls hl => ?_)
  refine lv_aload_n hx hb dX6_easeBehind_12 rfl (lv_at hl 1 rfl) ?_
  refine lv_iconst (v := 0) hx hb dX6_easeBehind_13 (by decide) ?_
  refine lv_aload_n hx hb dX6_easeBehind_14 rfl (lv_at hl 1 rfl) ?_
  refine va_get (ci := 4) (v := .ref (b 4)) (C := RX6) (T := TX6) (N := 20) hx hb hts inX6 hown hK hP 0 rfl rfl 3 (by decide) f19 (fun _ h9 => h9) rfl dX6_easeBehind_15 ?_
  refine callMv (va_runV (As := [.int 0, .ref (b 4)]) (rest := []) ⟨hx, hb, hml, hown, hts⟩ (k_X6_moveAll_tr0 l D cI cL cS b (sCo (sPass (ix x1) (co, gu, kn, fo, sp, ki, pl, ea, to, qu))) (sGu (sPass (ix x1) (co, gu, kn, fo, sp, ki, pl, ea, to, qu))) (sKn (sPass (ix x1) (co, gu, kn, fo, sp, ki, pl, ea, to, qu))) (sFo (sPass (ix x1) (co, gu, kn, fo, sp, ki, pl, ea, to, qu))) (sSp (sPass (ix x1) (co, gu, kn, fo, sp, ki, pl, ea, to, qu))) (sKi (sPass (ix x1) (co, gu, kn, fo, sp, ki, pl, ea, to, qu))) (sPl (sPass (ix x1) (co, gu, kn, fo, sp, ki, pl, ea, to, qu))) (sEa (sPass (ix x1) (co, gu, kn, fo, sp, ki, pl, ea, to, qu))) (sTo (sPass (ix x1) (co, gu, kn, fo, sp, ki, pl, ea, to, qu))) (sQu (sPass (ix x1) (co, gu, kn, fo, sp, ki, pl, ea, to, qu))) fd mo_3 b1 tp tm so bg te wd va gd bo sz sh le im bf ik co2 gu2 kn2 fo2 sp2 ki2 pl2 ea2 to2 qu2 (va_DT (hD _ rfl) rfl)) (cwV 2 hts gX6_easeBehind_X6_moveAll rfl rfl rfl (by decide +kernel) ⟨Nat.le_of_ble_eq_true rfl, Nat.le_of_ble_eq_true rfl⟩) ⟨PcR_fb, va_recv hK hP (ci := 4) (q0 := 0) rfl rfl, PcR_pre hP hK⟩ rfl rfl hl.1 rfl (lv_room (Nat.le_of_ble_eq_true rfl)) dX6_easeBehind_18 ⟨Nat.zero_le _, Nat.zero_le _⟩) hP (hD _ rfl) hS 0 13 rfl (fun u_4 H locs hu_4 hP hS => ?_)
  have hP : va_P D vwCl (mdw cI cL b (enc co2 gu2 kn2 fo2 sp2 ki2 pl2 ea2 to2 qu2) fd mo_3 (enc co2 gu2 kn2 fo2 sp2 ki2 pl2 ea2 to2 qu2) b1 tp tm so bg te wd va gd bo sz sh le im bf ik) H := hP
  refine lv_iload_n hx hb dX6_easeBehind_21 rfl (lv_at hl 0 rfl) ?_
  exact W.iret hx hb hr (fun t ht hW => ⟨⟨_, mo_3, rfl, (by rfl), by dsimp only; rw [ht]; exact hP⟩, hS.F ht⟩) hS.2.2 dX6_easeBehind_22

set_option maxRecDepth 100000 in
set_option maxHeartbeats 4000000 in
theorem k_X6_mood (l : Launch) (D : va_G) (cI cL cS : ClassId) (b : Nat → Nat) (co gu : Int32) (kn fo sp ki pl ea to qu : FI) (fd : FI) (mo : FI) (tr : FI) (b1 : FI) (tp : FI) (tm : Int32) (so : Int32) (bg : Int32) (te : Int32) (wd : Int64) (va : Int32) (gd : Int32) (bo : FI) (sz : FI) (sh : FJ) (le : FJ) (im : FI) (bf : FI) (ik : Int32) (x0 : Int32) (dj : va_D (fun _ => True) (dj0 b 13)) (ok : okT gu kn fo sp (whC gu pl) ki pl) (oe : okE ea to qu) : Met l yX6_mood wsX6_mood { frames := 8, cells := 0, slots := 0, locals := 183 } (PcR D vwCl (tyG cI cL cS) [.ref (b 0), .int x0] (mdw cI cL b (enc co gu kn fo sp ki pl ea to qu) fd mo tr b1 tp tm so bg te wd va gd bo sz sh le im bf ik)) (va_Qi (fun (r : Int32) (u : FI × FI × FI) => (r, u.2.2) = sMood (co, gu, kn, fo, sp, ki, pl, ea, to, qu) fd x0) (fun u t => va_P D vwCl (mdw cI cL b (enc co gu kn fo sp ki pl ea to qu) u.2.2 u.1 u.2.1 b1 tp tm so bg te wd va gd bo sz sh le im bf ik) t.heap) (Aof (mdw cI cL b (enc co gu kn fo sp ki pl ea to qu) fd mo tr b1 tp tm so bg te wd va gd bo sz sh le im bf ik))) 0 0 (Aof (mdw cI cL b (enc co gu kn fo sp ki pl ea to qu) fd mo tr b1 tp tm so bg te wd va gd bo sz sh le im bf ik)) := by
  refine Met.ofW (cc := cX6_mood) (maxL := 2) (ret := (some .int)) (by decide) rfl ?_
  intro p e s m args below meth c s₁ B hml hv
  obtain ⟨rfl, hP, hK⟩ := hv
  have hx := B.exec
  have hb := B.bytes
  have hr := B.returns
  have hts := atoms_spec (ws := wsX6_mood) B.pre
  have hown : s.vm.findClass RX6 = some m.cls := findClass_of_methodNamed B.named
  have hlocks := B.notSynchronized
  obtain ⟨A, hAe⟩ : ∃ A, A = Aof (mdw cI cL b (enc co gu kn fo sp ki pl ea to qu) fd mo tr b1 tp tm so bg te wd va gd bo sz sh le im bf ik) := ⟨_, rfl⟩
  rw [← hAe]
  have hD : ∀ ws' : va_W, ws'.map Prod.fst = (mdw cI cL b (enc co gu kn fo sp ki pl ea to qu) fd mo tr b1 tp tm so bg te wd va gd bo sz sh le im bf ik).map Prod.fst → va_D A ws' := fun ws' e => by rw [hAe]; exact va_D_adr (va_D_self (va_D_adr dj rfl)) e
  have hS : va_S A s.heap s.heap [] := va_S.rf
  have hP : va_P D vwCl (mdw cI cL b (enc co gu kn fo sp ki pl ea to qu) fd mo tr b1 tp tm so bg te wd va gd bo sz sh le im bf ik) s.heap := hP
  have hl := lv_entry ([.ref (b 0), .int x0]) (n := 2) (Nat.le_of_ble_eq_true rfl)
  rw [lg_entry_eq]
  generalize (lg_sl ([.ref (b 0), .int x0]) ++ List.replicate (2 - (lg_sl ([.ref (b 0), .int x0])).length) Slot.unset).toArray = ls at hl ⊢
  have hl : lv_has ls 2 [(0, .ref (b 0)), (1, .int x0)] := hl
  have f19 := hts (.fieldLink RX6 19 "KnivesLaidModel" "tried" "[I") (List.mem_of_getElem? (i := 2) rfl)
  have inX6 : ∀ w ∈ u_ws RX6 TX6 20, w ∈ wsX6_mood := in_at 100 _ _ rfl
  have k47 := hts (.constant RX6 47 (-1000000001)) (List.mem_of_getElem? (i := 1) rfl)
  skip
  refine lv_iload_n hx hb dX6_mood_0 rfl (lv_at hl 1 rfl) ?_
  refine lv_iconst (v := 0) hx hb dX6_mood_1 (by decide) ?_
  refine lv_bipush (v := 100) hx hb dX6_mood_2 (by decide) ?_
  refine callE (W.runS (As := [.int x0, .int 0, .int 100]) (rest := []) ⟨hx, hb, hml, hown, hts⟩ (k_X6_in l x0 0 100) (va_cwS 3 hts gX6_mood_X6_in rfl rfl rfl (by decide +kernel) ⟨Nat.le_of_ble_eq_true rfl, Nat.le_of_ble_eq_true rfl⟩) ⟨PcP_fb, fun U _ _ => ⟨rfl, trivial⟩⟩ rfl rfl hl.1 rfl (lv_room (Nat.le_of_ble_eq_true rfl)) dX6_mood_4 ⟨Nat.zero_le _, Nat.zero_le _⟩) ?_
  refine lv_if_ne (tgt := 17) hx hb dX6_mood_7 (by decide) (fun c_1 => ?_) (fun c_1 => ?_)
  · skip
    have c_1b := bI_n c_1
    have hn := c_1b
    refine lv_aload_n hx hb dX6_mood_17 rfl (lv_at hl 0 rfl) ?_
    refine lv_iconst (v := 1) hx hb dX6_mood_18 (by decide) ?_
    refine lv_aload_n hx hb dX6_mood_19 rfl (lv_at hl 0 rfl) ?_
    refine va_get (ci := 4) (v := .ref (b 4)) (C := RX6) (T := TX6) (N := 20) hx hb hts inX6 hown hK hP 0 rfl rfl 3 (by decide) f19 (fun _ h9 => h9) rfl dX6_mood_20 ?_
    refine callMv (va_runV (As := [.int 1, .ref (b 4)]) (rest := []) ⟨hx, hb, hml, hown, hts⟩ (k_X6_moveAll_tr1 l D cI cL cS b co gu kn fo sp ki pl ea to qu fd mo tr b1 tp tm so bg te wd va gd bo sz sh le im bf ik (va_DT (hD _ rfl) rfl)) (cwV 2 hts gX6_mood_X6_moveAll rfl rfl rfl (by decide +kernel) ⟨Nat.le_of_ble_eq_true rfl, Nat.le_of_ble_eq_true rfl⟩) ⟨PcR_fb, va_recv hK hP (ci := 4) (q0 := 0) rfl rfl, PcR_pre hP hK⟩ rfl rfl hl.1 rfl (lv_room (Nat.le_of_ble_eq_true rfl)) dX6_mood_23 ⟨Nat.zero_le _, Nat.zero_le _⟩) hP (hD _ rfl) hS 0 13 rfl (fun u_2 H locs hu_2 hP hS => ?_)
    have hP : va_P D vwCl (mdw cI cL b (enc co gu kn fo sp ki pl ea to qu) fd mo (enc co gu kn fo sp ki pl ea to qu) b1 tp tm so bg te wd va gd bo sz sh le im bf ik) H := hP
    refine lv_aload_n hx hb dX6_mood_26 rfl (lv_at hl 0 rfl) ?_
    refine lv_iload_n hx hb dX6_mood_27 rfl (lv_at hl 1 rfl) ?_
    refine lv_iconst (v := 2) hx hb dX6_mood_28 (by decide) ?_
    refine callMi (va_runV (As := [.int x0, .int 2]) (rest := []) ⟨hx, hb, hml, hown, hts⟩ (k_X6_allBehind2 l D cI cL cS b co gu kn fo sp ki pl ea to qu fd mo b1 tp tm so bg te wd va gd bo sz sh le im bf ik co gu kn fo sp ki pl ea to qu x0 (va_DT (hD _ rfl) rfl) ok oe (wi_in hn (by decide) (by decide))) (cwV 2 hts gX6_mood_X6_allBehind rfl rfl rfl (by decide +kernel) ⟨Nat.le_of_ble_eq_true rfl, Nat.le_of_ble_eq_true rfl⟩) ⟨PcR_fb, va_recv hK hP (ci := 4) (q0 := 0) rfl rfl, PcR_pre hP hK⟩ rfl rfl hl.1 rfl (lv_room (Nat.le_of_ble_eq_true rfl)) dX6_mood_29 ⟨Nat.zero_le _, Nat.zero_le _⟩) hP (hD _ rfl) hS 0 13 rfl (fun r_5 u_4 H locs hu_4 hP hS => ?_)
    obtain ⟨mo_6, rfl⟩ : ∃ z, z = u_4 := ⟨_, rfl⟩
    have hu_4 : r_5 = sSum (sEa (sPass (ix x0) (co, gu, kn, fo, sp, ki, pl, ea, to, qu))) (ix gu) := hu_4
    subst hu_4
    have hP : va_P D vwCl (mdw cI cL b (enc co gu kn fo sp ki pl ea to qu) fd mo_6 (enc co gu kn fo sp ki pl ea to qu) b1 tp tm so bg te wd va gd bo sz sh le im bf ik) H := hP
    exact W.iret hx hb hr (fun t ht hW => ⟨⟨_, (mo_6, enc co gu kn fo sp ki pl ea to qu, fd), rfl, (by unfold sMood; rw [iF_t c_1b]), by dsimp only; rw [ht]; exact hP⟩, hS.F ht⟩) hS.2.2 dX6_mood_32
  · skip
    have c_1b := bI_0 c_1
    refine lv_aload_n hx hb dX6_mood_10 rfl (lv_at hl 0 rfl) ?_
    refine lv_ldc hx hb hown k47 dX6_mood_11 ?_
    refine callMi (va_runV (As := [.int (-1000000001)]) (rest := []) ⟨hx, hb, hml, hown, hts⟩ (k_X6_finds l D cI cL cS b co gu kn fo sp ki pl ea to qu fd mo tr b1 tp tm so bg te wd va gd bo sz sh le im bf ik (-1000000001) (va_DT (hD _ rfl) rfl) (vp_in_iff.mpr (by decide))) (cwV 1 hts gX6_mood_X6_finds rfl rfl rfl (by decide +kernel) ⟨Nat.le_of_ble_eq_true rfl, Nat.le_of_ble_eq_true rfl⟩) ⟨PcR_fb, va_recv hK hP (ci := 4) (q0 := 0) rfl rfl, PcR_pre hP hK⟩ rfl rfl hl.1 rfl (lv_room (Nat.le_of_ble_eq_true rfl)) dX6_mood_13 ⟨Nat.zero_le _, Nat.zero_le _⟩) hP (hD _ rfl) hS 0 13 rfl (fun r_8 u_7 H locs hu_7 hP hS => ?_)
    obtain ⟨hu_7r, hu_7⟩ := hu_7
    subst hu_7r
    have hP : va_P D vwCl (mdw cI cL b (enc co gu kn fo sp ki pl ea to qu) (bump fd (-1000000001)) mo tr b1 tp tm so bg te wd va gd bo sz sh le im bf ik) H := hP
    exact W.iret hx hb hr (fun t ht hW => ⟨⟨_, (mo, tr, bump fd (-1000000001)), rfl, (by exact (iF_f c_1b).symm), by dsimp only; rw [ht]; exact hP⟩, hS.F ht⟩) hS.2.2 dX6_mood_16

set_option maxRecDepth 100000 in
set_option maxHeartbeats 4000000 in
theorem k_X6_count (l : Launch) (D : va_G) (cI cL cS : ClassId) (b : Nat → Nat) (co gu : Int32) (kn fo sp ki pl ea to qu : FI) (fd : FI) (mo : FI) (tr : FI) (b1 : FI) (tp : FI) (tm : Int32) (so : Int32) (bg : Int32) (te : Int32) (wd : Int64) (va : Int32) (gd : Int32) (bo : FI) (sz : FI) (sh : FJ) (le : FJ) (im : FI) (bf : FI) (ik : Int32) (x0 : Int32) (dj : va_D (fun _ => True) (dj0 b 13)) (ok : okT gu kn fo sp (whC gu pl) ki pl) : Met l yX6_count wsX6_count { frames := 2, cells := 0, slots := 0, locals := 45 } (PcR D vwCl (tyG cI cL cS) [.ref (b 0), .int x0] (mdw cI cL b (enc co gu kn fo sp ki pl ea to qu) fd mo tr b1 tp tm so bg te wd va gd bo sz sh le im bf ik)) (va_Qi (fun (r : Int32) (u : FI) => (r, u) = sCount (co, gu, kn, fo, sp, ki, pl, ea, to, qu) tm fd x0) (fun u t => va_P D vwCl (mdw cI cL b (enc co gu kn fo sp ki pl ea to qu) u mo tr b1 tp tm so bg te wd va gd bo sz sh le im bf ik) t.heap) (Aof (mdw cI cL b (enc co gu kn fo sp ki pl ea to qu) fd mo tr b1 tp tm so bg te wd va gd bo sz sh le im bf ik))) 0 0 (Aof (mdw cI cL b (enc co gu kn fo sp ki pl ea to qu) fd mo tr b1 tp tm so bg te wd va gd bo sz sh le im bf ik)) := by
  refine Met.ofW (cc := cX6_count) (maxL := 2) (ret := (some .int)) (by decide) rfl ?_
  intro p e s m args below meth c s₁ B hml hv
  obtain ⟨rfl, hP, hK⟩ := hv
  have hx := B.exec
  have hb := B.bytes
  have hr := B.returns
  have hts := atoms_spec (ws := wsX6_count) B.pre
  have hown : s.vm.findClass RX6 = some m.cls := findClass_of_methodNamed B.named
  have hlocks := B.notSynchronized
  obtain ⟨A, hAe⟩ : ∃ A, A = Aof (mdw cI cL b (enc co gu kn fo sp ki pl ea to qu) fd mo tr b1 tp tm so bg te wd va gd bo sz sh le im bf ik) := ⟨_, rfl⟩
  rw [← hAe]
  have hD : ∀ ws' : va_W, ws'.map Prod.fst = (mdw cI cL b (enc co gu kn fo sp ki pl ea to qu) fd mo tr b1 tp tm so bg te wd va gd bo sz sh le im bf ik).map Prod.fst → va_D A ws' := fun ws' e => by rw [hAe]; exact va_D_adr (va_D_self (va_D_adr dj rfl)) e
  have hS : va_S A s.heap s.heap [] := va_S.rf
  have hP : va_P D vwCl (mdw cI cL b (enc co gu kn fo sp ki pl ea to qu) fd mo tr b1 tp tm so bg te wd va gd bo sz sh le im bf ik) s.heap := hP
  have hl := lv_entry ([.ref (b 0), .int x0]) (n := 2) (Nat.le_of_ble_eq_true rfl)
  rw [lg_entry_eq]
  generalize (lg_sl ([.ref (b 0), .int x0]) ++ List.replicate (2 - (lg_sl ([.ref (b 0), .int x0])).length) Slot.unset).toArray = ls at hl ⊢
  have hl : lv_has ls 2 [(0, .ref (b 0)), (1, .int x0)] := hl
  have f7 := hts (.fieldLink RX6 7 "KnivesLaidModel" "row" "[I") (List.mem_of_getElem? (i := 1) rfl)
  have inX6 : ∀ w ∈ u_ws RX6 TX6 20, w ∈ wsX6_count := in_at 26 _ _ rfl
  have f160 := hts (.fieldLink RX6 160 "KnivesLaidModel" "tapeMany" "I") (List.mem_of_getElem? (i := 2) rfl)
  have k47 := hts (.constant RX6 47 (-1000000001)) (List.mem_of_getElem? (i := 3) rfl)
  skip
  refine lv_iload_n hx hb dX6_count_0 rfl (lv_at hl 1 rfl) ?_
  by_cases c_1 : x0 = 0
  · refine lv_tableIn (tgt := 32) hx hb dX6_count_1 (by rw [c_1]; decide) (by rw [c_1]; decide) (by rw [c_1]; rfl) (by decide) ?_
    refine lv_aload_n hx hb dX6_count_32 rfl (lv_at hl 0 rfl) ?_
    refine va_get (ci := 4) (v := .ref (b 1)) (C := RX6) (T := TX6) (N := 20) hx hb hts inX6 hown hK hP 0 rfl rfl 0 (by decide) f7 (fun _ h9 => h9) rfl dX6_count_33 ?_
    refine lv_iconst (v := 1) hx hb dX6_count_36 (by decide) ?_
    refine va_iald hx hb hK hP 1 0 rfl rfl (vp_in_iff.mpr (by decide)) dX6_count_37 ?_
    refine lv_to (y := gu) rfl ?_
    exact W.iret hx hb hr (fun t ht hW => ⟨⟨_, (fd), rfl, (by unfold sCount; simp [c_1]), by dsimp only; rw [ht]; exact hP⟩, hS.F ht⟩) hS.2.2 dX6_count_38
  by_cases c_2 : x0 = 1
  · refine lv_tableIn (tgt := 39) hx hb dX6_count_1 (by rw [c_2]; decide) (by rw [c_2]; decide) (by rw [c_2]; rfl) (by decide) ?_
    refine lv_aload_n hx hb dX6_count_39 rfl (lv_at hl 0 rfl) ?_
    refine va_get (ci := 4) (v := .int tm) (C := RX6) (T := TX6) (N := 20) hx hb hts inX6 hown hK hP 0 rfl rfl 6 (by decide) f160 (fun _ h9 => h9) rfl dX6_count_40 ?_
    exact W.iret hx hb hr (fun t ht hW => ⟨⟨_, (fd), rfl, (by unfold sCount; simp [c_2]), by dsimp only; rw [ht]; exact hP⟩, hS.F ht⟩) hS.2.2 dX6_count_43
  by_cases c_3 : x0 = 2
  · refine lv_tableIn (tgt := 44) hx hb dX6_count_1 (by rw [c_3]; decide) (by rw [c_3]; decide) (by rw [c_3]; rfl) (by decide) ?_
    refine lv_aload_n hx hb dX6_count_44 rfl (lv_at hl 0 rfl) ?_
    refine lv_iconst (v := 4) hx hb dX6_count_45 (by decide) ?_
    refine callE (W.runV (As := [.int 4]) (rest := []) ⟨hx, hb, hml, hown, hts⟩ (k_X6_sumOf4 l D cI cL cS b co gu kn fo sp ki pl ea to qu fd mo tr b1 tp tm so bg te wd va gd bo sz sh le im bf ik ok.gu) (cwV 1 hts gX6_count_X6_sumOf rfl rfl rfl (by decide +kernel) ⟨Nat.le_of_ble_eq_true rfl, Nat.le_of_ble_eq_true rfl⟩) ⟨PcR_fb, va_recv hK hP (ci := 4) (q0 := 0) rfl rfl, PcR_pre hP hK⟩ rfl rfl hl.1 rfl (lv_room (Nat.le_of_ble_eq_true rfl)) dX6_count_46 ⟨Nat.zero_le _, Nat.zero_le _⟩) ?_
    exact W.iret hx hb hr (fun t ht hW => ⟨⟨_, (fd), rfl, (by unfold sCount; simp [c_3]), by dsimp only; rw [ht]; exact hP⟩, hS.F ht⟩) hS.2.2 dX6_count_49
  by_cases c_4 : x0 = 3
  · refine lv_tableIn (tgt := 50) hx hb dX6_count_1 (by rw [c_4]; decide) (by rw [c_4]; decide) (by rw [c_4]; rfl) (by decide) ?_
    refine lv_aload_n hx hb dX6_count_50 rfl (lv_at hl 0 rfl) ?_
    refine callE (W.runV (As := []) (rest := []) ⟨hx, hb, hml, hown, hts⟩ (k_X6_spoons l D cI cL cS b co gu kn fo sp ki pl ea to qu fd mo tr b1 tp tm so bg te wd va gd bo sz sh le im bf ik) (cwV 0 hts gX6_count_X6_spoons rfl rfl rfl (by decide +kernel) ⟨Nat.le_of_ble_eq_true rfl, Nat.le_of_ble_eq_true rfl⟩) ⟨PcR_fb, va_recv hK hP (ci := 4) (q0 := 0) rfl rfl, PcR_pre hP hK⟩ rfl rfl hl.1 rfl (lv_room (Nat.le_of_ble_eq_true rfl)) dX6_count_51 ⟨Nat.zero_le _, Nat.zero_le _⟩) ?_
    exact W.iret hx hb hr (fun t ht hW => ⟨⟨_, (fd), rfl, (by unfold sCount; simp [c_4]), by dsimp only; rw [ht]; exact hP⟩, hS.F ht⟩) hS.2.2 dX6_count_54
  refine lv_tableOut (tgt := 55) hx hb dX6_count_1 (by have := lv_neT c_1 (a := 0) rfl; have := lv_neT c_2 (a := 1) rfl; have := lv_neT c_3 (a := 2) rfl; have := lv_neT c_4 (a := 3) rfl; omega) (by decide) ?_
  refine lv_aload_n hx hb dX6_count_55 rfl (lv_at hl 0 rfl) ?_
  refine lv_ldc hx hb hown k47 dX6_count_56 ?_
  refine callMi (va_runV (As := [.int (-1000000001)]) (rest := []) ⟨hx, hb, hml, hown, hts⟩ (k_X6_finds l D cI cL cS b co gu kn fo sp ki pl ea to qu fd mo tr b1 tp tm so bg te wd va gd bo sz sh le im bf ik (-1000000001) (va_DT (hD _ rfl) rfl) (vp_in_iff.mpr (by decide))) (cwV 1 hts gX6_count_X6_finds rfl rfl rfl (by decide +kernel) ⟨Nat.le_of_ble_eq_true rfl, Nat.le_of_ble_eq_true rfl⟩) ⟨PcR_fb, va_recv hK hP (ci := 4) (q0 := 0) rfl rfl, PcR_pre hP hK⟩ rfl rfl hl.1 rfl (lv_room (Nat.le_of_ble_eq_true rfl)) dX6_count_58 ⟨Nat.zero_le _, Nat.zero_le _⟩) hP (hD _ rfl) hS 0 13 rfl (fun r_6 u_5 H locs hu_5 hP hS => ?_)
  obtain ⟨hu_5r, hu_5⟩ := hu_5
  subst hu_5r
  have hP : va_P D vwCl (mdw cI cL b (enc co gu kn fo sp ki pl ea to qu) (bump fd (-1000000001)) mo tr b1 tp tm so bg te wd va gd bo sz sh le im bf ik) H := hP
  exact W.iret hx hb hr (fun t ht hW => ⟨⟨_, (bump fd (-1000000001)), rfl, (by unfold sCount; simp [c_1, c_2, c_3, c_4]), by dsimp only; rw [ht]; exact hP⟩, hS.F ht⟩) hS.2.2 dX6_count_61

set_option maxRecDepth 100000 in
set_option maxHeartbeats 4000000 in
theorem k_X6_status (l : Launch) (D : va_G) (cI cL cS : ClassId) (b : Nat → Nat) (co gu : Int32) (kn fo sp ki pl ea to qu : FI) (fd : FI) (mo : FI) (tr : FI) (b1 : FI) (tp : FI) (tm : Int32) (so : Int32) (bg : Int32) (te : Int32) (wd : Int64) (va : Int32) (gd : Int32) (bo : FI) (sz : FI) (sh : FJ) (le : FJ) (im : FI) (bf : FI) (ik : Int32) (x0 : Int32) (dj : va_D (fun _ => True) (dj0 b 13))  : Met l yX6_status wsX6_status { frames := 1, cells := 0, slots := 0, locals := 22 } (PcR D vwCl (tyG cI cL cS) [.ref (b 0), .int x0] (mdw cI cL b (enc co gu kn fo sp ki pl ea to qu) fd mo tr b1 tp tm so bg te wd va gd bo sz sh le im bf ik)) (va_Qi (fun (r : Int32) (u : FI) => (r, u) = sStatus fd x0) (fun u t => va_P D vwCl (mdw cI cL b (enc co gu kn fo sp ki pl ea to qu) u mo tr b1 tp tm so bg te wd va gd bo sz sh le im bf ik) t.heap) (Aof (mdw cI cL b (enc co gu kn fo sp ki pl ea to qu) fd mo tr b1 tp tm so bg te wd va gd bo sz sh le im bf ik))) 0 0 (Aof (mdw cI cL b (enc co gu kn fo sp ki pl ea to qu) fd mo tr b1 tp tm so bg te wd va gd bo sz sh le im bf ik)) := by
  refine Met.ofW (cc := cX6_status) (maxL := 4) (ret := (some .int)) (by decide) rfl ?_
  intro p e s m args below meth c s₁ B hml hv
  obtain ⟨rfl, hP, hK⟩ := hv
  have hx := B.exec
  have hb := B.bytes
  have hr := B.returns
  have hts := atoms_spec (ws := wsX6_status) B.pre
  have hown : s.vm.findClass RX6 = some m.cls := findClass_of_methodNamed B.named
  have hlocks := B.notSynchronized
  obtain ⟨A, hAe⟩ : ∃ A, A = Aof (mdw cI cL b (enc co gu kn fo sp ki pl ea to qu) fd mo tr b1 tp tm so bg te wd va gd bo sz sh le im bf ik) := ⟨_, rfl⟩
  rw [← hAe]
  have hD : ∀ ws' : va_W, ws'.map Prod.fst = (mdw cI cL b (enc co gu kn fo sp ki pl ea to qu) fd mo tr b1 tp tm so bg te wd va gd bo sz sh le im bf ik).map Prod.fst → va_D A ws' := fun ws' e => by rw [hAe]; exact va_D_adr (va_D_self (va_D_adr dj rfl)) e
  have hS : va_S A s.heap s.heap [] := va_S.rf
  have hP : va_P D vwCl (mdw cI cL b (enc co gu kn fo sp ki pl ea to qu) fd mo tr b1 tp tm so bg te wd va gd bo sz sh le im bf ik) s.heap := hP
  have hl := lv_entry ([.ref (b 0), .int x0]) (n := 4) (Nat.le_of_ble_eq_true rfl)
  rw [lg_entry_eq]
  generalize (lg_sl ([.ref (b 0), .int x0]) ++ List.replicate (4 - (lg_sl ([.ref (b 0), .int x0])).length) Slot.unset).toArray = ls at hl ⊢
  have hl : lv_has ls 4 [(0, .ref (b 0)), (1, .int x0)] := hl
  have f13 := hts (.fieldLink RX6 13 "KnivesLaidModel" "found" "[I") (List.mem_of_getElem? (i := 2) rfl)
  have inX6 : ∀ w ∈ u_ws RX6 TX6 20, w ∈ wsX6_status := in_at 11 _ _ rfl
  have k47 := hts (.constant RX6 47 (-1000000001)) (List.mem_of_getElem? (i := 1) rfl)
  skip
  refine lv_iload_n hx hb dX6_status_0 rfl (lv_at hl 1 rfl) ?_
  refine lv_iconst (v := (-1)) hx hb dX6_status_1 (by decide) ?_
  refine lv_bipush (v := 6) hx hb dX6_status_2 (by decide) ?_
  refine callE (W.runS (As := [.int x0, .int (-1), .int 6]) (rest := []) ⟨hx, hb, hml, hown, hts⟩ (k_X6_in l x0 (-1) 6) (va_cwS 3 hts gX6_status_X6_in rfl rfl rfl (by decide +kernel) ⟨Nat.le_of_ble_eq_true rfl, Nat.le_of_ble_eq_true rfl⟩) ⟨PcP_fb, fun U _ _ => ⟨rfl, trivial⟩⟩ rfl rfl hl.1 rfl (lv_room (Nat.le_of_ble_eq_true rfl)) dX6_status_4 ⟨Nat.zero_le _, Nat.zero_le _⟩) ?_
  refine lv_if_ne (tgt := 17) hx hb dX6_status_7 (by decide) (fun c_1 => ?_) (fun c_1 => ?_)
  · skip
    have c_1b := bI_n c_1
    have hn := c_1b
    refine lv_iconst (v := 0) hx hb dX6_status_17 (by decide) ?_
    refine lv_istore_n (lv' := [(2, .int 0), (0, .ref (b 0)), (1, .int x0)]) hx hb dX6_status_18 rfl hl (by decide) rfl (fun ls hl => ?_)
    refine lv_iconst (v := 0) hx hb dX6_status_19 (by decide) ?_
    refine lv_istore_n (lv' := [(3, .int 0), (2, .int 0), (0, .ref (b 0)), (1, .int x0)]) hx hb dX6_status_20 rfl hl (by decide) rfl (fun ls hl => ?_)
    refine lpR (fun n (u : Nat × Int32) ls => (u.1 + n = 7) ∧ (u.2 = sSum fd u.1) ∧ lv_has ls 4 [(0, .ref (b 0)), (1, .int x0), (2, .int u.2), (3, .int (nI u.1))]) (7) ((0, 0)) ⟨by omega, rfl, lv_sub hl [2, 3, 1, 0] rfl⟩ (fun n ih u ls hI => ?_)
    obtain ⟨i, z⟩ := u
    obtain ⟨hi0, hi1, hl⟩ := hI
    have hi0 : i + n = 7 := hi0
    have hi1 : z = sSum fd i := hi1
    have hl : lv_has ls 4 [(0, .ref (b 0)), (1, .int x0), (2, .int z), (3, .int (nI i))] := hl
    have hix : ix (nI i) = i := ix_nI (by omega)
    refine lv_iload_n hx hb dX6_status_21 rfl (lv_at hl 3 rfl) ?_
    refine lv_bipush (v := 7) hx hb dX6_status_22 (by decide) ?_
    refine lv_icmp_ge (tgt := 42) hx hb dX6_status_24 (by decide) (fun c_2 => ?_) (fun c_2 => ?_)
    · skip
      have c_2n := (cmp_le (a := 7) (b := i) rfl rfl (by omega) (by omega)).mp c_2
      refine lv_iload_n hx hb dX6_status_42 rfl (lv_at hl 1 rfl) ?_
      refine lv_if_ge (tgt := 50) hx hb dX6_status_43 (by decide) (fun c_3 => ?_) (fun c_3 => ?_)
      · skip
        refine lv_aload_n hx hb dX6_status_50 rfl (lv_at hl 0 rfl) ?_
        refine va_get (ci := 4) (v := .ref (b 2)) (C := RX6) (T := TX6) (N := 20) hx hb hts inX6 hown hK hP 0 rfl rfl 1 (by decide) f13 (fun _ h9 => h9) rfl dX6_status_51 ?_
        refine lv_iload_n hx hb dX6_status_54 rfl (lv_at hl 1 rfl) ?_
        refine jn (fun v_4 : Int32 => v_4 = (if 0 ≤ x0 then x0 else 0 : Int32)) (fun v_4 => F0 m 63 ls [.int v_4, .ref (b 2)]) (fun Jv_4 => ?_) (fun v_4 ev_4 => ?_)
        · skip
          refine lv_if_ge (tgt := 62) hx hb dX6_status_55 (by decide) (fun c_5 => ?_) (fun c_5 => ?_)
          · skip
            refine lv_iload_n hx hb dX6_status_62 rfl (lv_at hl 1 rfl) ?_
            exact Jv_4 _ (by rw [if_pos c_5])
          · skip
            refine lv_iconst (v := 0) hx hb dX6_status_58 (by decide) ?_
            refine lv_goto (tgt := 63) hx hb dX6_status_59 (by decide) ?_
            exact Jv_4 _ (by rw [if_neg c_5])
        subst ev_4
        refine va_iald hx hb hK hP 2 0 rfl rfl (st_in2 hn c_3) dX6_status_63 ?_
        exact W.iret hx hb hr (fun t ht hW => ⟨⟨_, (fd), rfl, (by unfold sStatus; rw [iF_t hn, if_neg (Int32.not_lt.mpr c_3), if_pos c_3]), by dsimp only; rw [ht]; exact hP⟩, hS.F ht⟩) hS.2.2 dX6_status_64
      · skip
        refine lv_iload_n hx hb dX6_status_46 rfl (lv_at hl 2 rfl) ?_
        refine lv_goto (tgt := 64) hx hb dX6_status_47 (by decide) ?_
        exact W.iret hx hb hr (fun t ht hW => ⟨⟨_, (fd), rfl, (by unfold sStatus; rw [iF_t hn, if_pos (Int32.not_le.mp c_3), hi1, show i = 7 by omega]), by dsimp only; rw [ht]; exact hP⟩, hS.F ht⟩) hS.2.2 dX6_status_64
    · skip
      have c_2n := mt (cmp_le (a := 7) (b := i) rfl rfl (by omega) (by omega)).mpr c_2
      refine lv_iload_n hx hb dX6_status_27 rfl (lv_at hl 2 rfl) ?_
      refine lv_aload_n hx hb dX6_status_28 rfl (lv_at hl 0 rfl) ?_
      refine va_get (ci := 4) (v := .ref (b 2)) (C := RX6) (T := TX6) (N := 20) hx hb hts inX6 hown hK hP 0 rfl rfl 1 (by decide) f13 (fun _ h9 => h9) rfl dX6_status_29 ?_
      refine lv_iload_n hx hb dX6_status_32 rfl (lv_at hl 3 rfl) ?_
      refine va_iald hx hb hK hP 2 0 rfl rfl (vp_in_nI (by omega) (by omega)) dX6_status_33 ?_
      refine lv_iadd hx hb dX6_status_34 ?_
      refine lv_istore_n (lv' := [(2, .int (z + (fd (ix (nI i))))), (0, .ref (b 0)), (1, .int x0), (3, .int (nI i))]) hx hb dX6_status_35 rfl hl (by decide) rfl (fun ls hl => ?_)
      refine lv_iinc (v := nI (i + 1)) (lv' := [(3, .int (nI (i + 1))), (2, .int (z + (fd (ix (nI i))))), (0, .ref (b 0)), (1, .int x0)]) hx hb dX6_status_36 hl (k := 3) rfl (nI_1 _) (by decide) rfl (fun ls hl => ?_)
      refine lv_goto (tgt := 21) hx hb dX6_status_39 (by decide) ?_
      exact ih (n - 1) (by omega) ((i + 1, (z + (fd (ix (nI i)))))) ls ⟨by omega, by rw [hi1, hix]; rfl, lv_sub hl [2, 3, 1, 0] rfl⟩
  · skip
    have c_1b := bI_0 c_1
    refine lv_aload_n hx hb dX6_status_10 rfl (lv_at hl 0 rfl) ?_
    refine lv_ldc hx hb hown k47 dX6_status_11 ?_
    refine callMi (va_runV (As := [.int (-1000000001)]) (rest := []) ⟨hx, hb, hml, hown, hts⟩ (k_X6_finds l D cI cL cS b co gu kn fo sp ki pl ea to qu fd mo tr b1 tp tm so bg te wd va gd bo sz sh le im bf ik (-1000000001) (va_DT (hD _ rfl) rfl) (vp_in_iff.mpr (by decide))) (cwV 1 hts gX6_status_X6_finds rfl rfl rfl (by decide +kernel) ⟨Nat.le_of_ble_eq_true rfl, Nat.le_of_ble_eq_true rfl⟩) ⟨PcR_fb, va_recv hK hP (ci := 4) (q0 := 0) rfl rfl, PcR_pre hP hK⟩ rfl rfl hl.1 rfl (lv_room (Nat.le_of_ble_eq_true rfl)) dX6_status_13 ⟨Nat.zero_le _, Nat.zero_le _⟩) hP (hD _ rfl) hS 0 13 rfl (fun r_7 u_6 H locs hu_6 hP hS => ?_)
    obtain ⟨hu_6r, hu_6⟩ := hu_6
    subst hu_6r
    have hP : va_P D vwCl (mdw cI cL b (enc co gu kn fo sp ki pl ea to qu) (bump fd (-1000000001)) mo tr b1 tp tm so bg te wd va gd bo sz sh le im bf ik) H := hP
    exact W.iret hx hb hr (fun t ht hW => ⟨⟨_, (bump fd (-1000000001)), rfl, (by exact (iF_f c_1b).symm), by dsimp only; rw [ht]; exact hP⟩, hS.F ht⟩) hS.2.2 dX6_status_16

set_option maxRecDepth 100000 in
set_option maxHeartbeats 4000000 in
theorem k_X6_image (l : Launch) (D : va_G) (cI cL cS : ClassId) (b : Nat → Nat) (co gu : Int32) (kn fo sp ki pl ea to qu : FI) (fd : FI) (mo : FI) (tr : FI) (b1 : FI) (tp : FI) (tm : Int32) (so : Int32) (bg : Int32) (te : Int32) (wd : Int64) (va : Int32) (gd : Int32) (bo : FI) (sz : FI) (sh : FJ) (le : FJ) (im : FI) (bf : FI) (ik : Int32) (dj : va_D (fun _ => True) (dj0 b 13))  : Met l yX6_image wsX6_image { frames := 1, cells := 0, slots := 0, locals := 23 } (PcR D vwCl (tyG cI cL cS) [.ref (b 0)] (mdw cI cL b (enc co gu kn fo sp ki pl ea to qu) fd mo tr b1 tp tm so bg te wd va gd bo sz sh le im bf ik)) (va_Qi (fun (r : Int32) (u : FI × Int32) => r = 1 ∧ u.1 = encS (co, gu, kn, fo, sp, ki, pl, ea, to, qu) ∧ u.2 = 1) (fun u t => va_P D vwCl (mdw cI cL b (enc co gu kn fo sp ki pl ea to qu) fd mo tr b1 tp tm so bg te wd va gd bo sz sh le u.1 bf u.2) t.heap) (Aof (mdw cI cL b (enc co gu kn fo sp ki pl ea to qu) fd mo tr b1 tp tm so bg te wd va gd bo sz sh le im bf ik))) 0 0 (Aof (mdw cI cL b (enc co gu kn fo sp ki pl ea to qu) fd mo tr b1 tp tm so bg te wd va gd bo sz sh le im bf ik)) := by
  refine Met.ofW (cc := cX6_image) (maxL := 1) (ret := (some .int)) (by decide) rfl ?_
  intro p e s m args below meth c s₁ B hml hv
  obtain ⟨rfl, hP, hK⟩ := hv
  have hx := B.exec
  have hb := B.bytes
  have hr := B.returns
  have hts := atoms_spec (ws := wsX6_image) B.pre
  have hown : s.vm.findClass RX6 = some m.cls := findClass_of_methodNamed B.named
  have hlocks := B.notSynchronized
  obtain ⟨A, hAe⟩ : ∃ A, A = Aof (mdw cI cL b (enc co gu kn fo sp ki pl ea to qu) fd mo tr b1 tp tm so bg te wd va gd bo sz sh le im bf ik) := ⟨_, rfl⟩
  rw [← hAe]
  have hD : ∀ ws' : va_W, ws'.map Prod.fst = (mdw cI cL b (enc co gu kn fo sp ki pl ea to qu) fd mo tr b1 tp tm so bg te wd va gd bo sz sh le im bf ik).map Prod.fst → va_D A ws' := fun ws' e => by rw [hAe]; exact va_D_adr (va_D_self (va_D_adr dj rfl)) e
  have hS : va_S A s.heap s.heap [] := va_S.rf
  have hP : va_P D vwCl (mdw cI cL b (enc co gu kn fo sp ki pl ea to qu) fd mo tr b1 tp tm so bg te wd va gd bo sz sh le im bf ik) s.heap := hP
  have hl := lv_entry ([.ref (b 0)]) (n := 1) (Nat.le_of_ble_eq_true rfl)
  rw [lg_entry_eq]
  generalize (lg_sl ([.ref (b 0)]) ++ List.replicate (1 - (lg_sl ([.ref (b 0)])).length) Slot.unset).toArray = ls at hl ⊢
  have hl : lv_has ls 1 [(0, .ref (b 0))] := hl
  have f41 := hts (.fieldLink RX6 41 "KnivesLaidModel" "image" "[I") (List.mem_of_getElem? (i := 1) rfl)
  have inX6 : ∀ w ∈ u_ws RX6 TX6 20, w ∈ wsX6_image := in_at 9 _ _ rfl
  have f274 := hts (.fieldLink RX6 274 "KnivesLaidModel" "isKept" "Z") (List.mem_of_getElem? (i := 2) rfl)
  skip
  refine lv_aload_n hx hb dX6_image_0 rfl (lv_at hl 0 rfl) ?_
  refine lv_iconst (v := 1) hx hb dX6_image_1 (by decide) ?_
  refine lv_aload_n hx hb dX6_image_2 rfl (lv_at hl 0 rfl) ?_
  refine va_get (ci := 4) (v := .ref (b 11)) (C := RX6) (T := TX6) (N := 20) hx hb hts inX6 hown hK hP 0 rfl rfl 17 (by decide) f41 (fun _ h9 => h9) rfl dX6_image_3 ?_
  refine callMv (va_runV (As := [.int 1, .ref (b 11)]) (rest := []) ⟨hx, hb, hml, hown, hts⟩ (k_X6_moveAll_im1 l D cI cL cS b co gu kn fo sp ki pl ea to qu fd mo tr b1 tp tm so bg te wd va gd bo sz sh le im bf ik (va_DT (hD _ rfl) rfl)) (cwV 2 hts gX6_image_X6_moveAll rfl rfl rfl (by decide +kernel) ⟨Nat.le_of_ble_eq_true rfl, Nat.le_of_ble_eq_true rfl⟩) ⟨PcR_fb, va_recv hK hP (ci := 4) (q0 := 0) rfl rfl, PcR_pre hP hK⟩ rfl rfl hl.1 rfl (lv_room (Nat.le_of_ble_eq_true rfl)) dX6_image_6 ⟨Nat.zero_le _, Nat.zero_le _⟩) hP (hD _ rfl) hS 0 13 rfl (fun u_1 H locs hu_1 hP hS => ?_)
  have hP : va_P D vwCl (mdw cI cL b (enc co gu kn fo sp ki pl ea to qu) fd mo tr b1 tp tm so bg te wd va gd bo sz sh le (enc co gu kn fo sp ki pl ea to qu) bf ik) H := hP
  refine lv_aload_n hx hb dX6_image_9 rfl (lv_at hl 0 rfl) ?_
  refine lv_iconst (v := 1) hx hb dX6_image_10 (by decide) ?_
  refine va_put (ci := 4) (v := .int 1) (ty := .boolean) (C := RX6) (T := TX6) (N := 20) hx hb hts inX6 tyX6 tyX6_ok nmX6 hown hK hP (hD _ rfl) hS 0 rfl rfl 19 (by decide) f274 (fun _ h9 => h9) rfl rfl rfl rfl (Nat.le_of_ble_eq_true rfl) dX6_image_11 (fun H locs hP _ hS => ?_)
  have hP : va_P D vwCl (mdw cI cL b (enc co gu kn fo sp ki pl ea to qu) fd mo tr b1 tp tm so bg te wd va gd bo sz sh le (enc co gu kn fo sp ki pl ea to qu) bf 1) H := hP
  refine lv_iconst (v := 1) hx hb dX6_image_14 (by decide) ?_
  exact W.iret hx hb hr (fun t ht hW => ⟨⟨_, (enc co gu kn fo sp ki pl ea to qu, 1), rfl, (by exact ⟨rfl, rfl, rfl⟩), by dsimp only; rw [ht]; exact hP⟩, hS.F ht⟩) hS.2.2 dX6_image_15

set_option maxRecDepth 100000 in
set_option maxHeartbeats 4000000 in
theorem k_X6_tear (l : Launch) (D : va_G) (cI cL cS : ClassId) (b : Nat → Nat) (co gu : Int32) (kn fo sp ki pl ea to qu : FI) (fd : FI) (mo : FI) (tr : FI) (b1 : FI) (tp : FI) (tm : Int32) (so : Int32) (bg : Int32) (te : Int32) (wd : Int64) (va : Int32) (gd : Int32) (bo : FI) (sz : FI) (sh : FJ) (le : FJ) (im : FI) (bf : FI) (ik : Int32) (dj : va_D (fun _ => True) (dj0 b 13))  : Met l yX6_tear wsX6_tear { frames := 0, cells := 0, slots := 0, locals := 0 } (PcR D vwCl (tyG cI cL cS) [.ref (b 0)] (mdw cI cL b (enc co gu kn fo sp ki pl ea to qu) fd mo tr b1 tp tm so bg te wd va gd bo sz sh le im bf ik)) (va_Qi (fun (r : Int32) (u : Int32) => r = (if ik = 0 then 0 else 1 : Int32) ∧ u = 0) (fun u t => va_P D vwCl (mdw cI cL b (enc co gu kn fo sp ki pl ea to qu) fd mo tr b1 tp tm so bg te wd va gd bo sz sh le im bf u) t.heap) (Aof (mdw cI cL b (enc co gu kn fo sp ki pl ea to qu) fd mo tr b1 tp tm so bg te wd va gd bo sz sh le im bf ik))) 0 0 (Aof (mdw cI cL b (enc co gu kn fo sp ki pl ea to qu) fd mo tr b1 tp tm so bg te wd va gd bo sz sh le im bf ik)) := by
  refine Met.ofW (cc := cX6_tear) (maxL := 2) (ret := (some .int)) (by decide) rfl ?_
  intro p e s m args below meth c s₁ B hml hv
  obtain ⟨rfl, hP, hK⟩ := hv
  have hx := B.exec
  have hb := B.bytes
  have hr := B.returns
  have hts := atoms_spec (ws := wsX6_tear) B.pre
  have hown : s.vm.findClass RX6 = some m.cls := findClass_of_methodNamed B.named
  have hlocks := B.notSynchronized
  obtain ⟨A, hAe⟩ : ∃ A, A = Aof (mdw cI cL b (enc co gu kn fo sp ki pl ea to qu) fd mo tr b1 tp tm so bg te wd va gd bo sz sh le im bf ik) := ⟨_, rfl⟩
  rw [← hAe]
  have hD : ∀ ws' : va_W, ws'.map Prod.fst = (mdw cI cL b (enc co gu kn fo sp ki pl ea to qu) fd mo tr b1 tp tm so bg te wd va gd bo sz sh le im bf ik).map Prod.fst → va_D A ws' := fun ws' e => by rw [hAe]; exact va_D_adr (va_D_self (va_D_adr dj rfl)) e
  have hS : va_S A s.heap s.heap [] := va_S.rf
  have hP : va_P D vwCl (mdw cI cL b (enc co gu kn fo sp ki pl ea to qu) fd mo tr b1 tp tm so bg te wd va gd bo sz sh le im bf ik) s.heap := hP
  have hl := lv_entry ([.ref (b 0)]) (n := 2) (Nat.le_of_ble_eq_true rfl)
  rw [lg_entry_eq]
  generalize (lg_sl ([.ref (b 0)]) ++ List.replicate (2 - (lg_sl ([.ref (b 0)])).length) Slot.unset).toArray = ls at hl ⊢
  have hl : lv_has ls 2 [(0, .ref (b 0))] := hl
  have f274 := hts (.fieldLink RX6 274 "KnivesLaidModel" "isKept" "Z") (List.mem_of_getElem? (i := 1) rfl)
  have inX6 : ∀ w ∈ u_ws RX6 TX6 20, w ∈ wsX6_tear := in_at 2 _ _ rfl
  skip
  refine lv_aload_n hx hb dX6_tear_0 rfl (lv_at hl 0 rfl) ?_
  refine va_get (ci := 4) (v := .int ik) (C := RX6) (T := TX6) (N := 20) hx hb hts inX6 hown hK hP 0 rfl rfl 19 (by decide) f274 (fun _ h9 => h9) rfl dX6_tear_1 ?_
  refine jn (fun v_1 : Int32 => v_1 = (if ik = 0 then 0 else 1 : Int32)) (fun v_1 => F0 m 12 ls [.int v_1]) (fun Jv_1 => ?_) (fun v_1 ev_1 => ?_)
  · skip
    refine lv_if_eq (tgt := 11) hx hb dX6_tear_4 (by decide) (fun c_2 => ?_) (fun c_2 => ?_)
    · skip
      refine lv_iconst (v := 0) hx hb dX6_tear_11 (by decide) ?_
      exact Jv_1 _ (by rw [if_pos c_2])
    · skip
      refine lv_iconst (v := 1) hx hb dX6_tear_7 (by decide) ?_
      refine lv_goto (tgt := 12) hx hb dX6_tear_8 (by decide) ?_
      exact Jv_1 _ (by rw [if_neg c_2])
  subst ev_1
  refine lv_istore_n (lv' := [(1, .int (if ik = 0 then 0 else 1 : Int32)), (0, .ref (b 0))]) hx hb dX6_tear_12 rfl hl (by decide) rfl (fun ls hl => ?_)
  refine lv_aload_n hx hb dX6_tear_13 rfl (lv_at hl 1 rfl) ?_
  refine lv_iconst (v := 0) hx hb dX6_tear_14 (by decide) ?_
  refine va_put (ci := 4) (v := .int 0) (ty := .boolean) (C := RX6) (T := TX6) (N := 20) hx hb hts inX6 tyX6 tyX6_ok nmX6 hown hK hP (hD _ rfl) hS 0 rfl rfl 19 (by decide) f274 (fun _ h9 => h9) rfl rfl rfl rfl (Nat.le_of_ble_eq_true rfl) dX6_tear_15 (fun H locs hP _ hS => ?_)
  have hP : va_P D vwCl (mdw cI cL b (enc co gu kn fo sp ki pl ea to qu) fd mo tr b1 tp tm so bg te wd va gd bo sz sh le im bf 0) H := hP
  refine lv_iload_n hx hb dX6_tear_18 rfl (lv_at hl 0 rfl) ?_
  exact W.iret hx hb hr (fun t ht hW => ⟨⟨_, (0), rfl, (by exact ⟨rfl, rfl⟩), by dsimp only; rw [ht]; exact hP⟩, hS.F ht⟩) hS.2.2 dX6_tear_19

set_option maxRecDepth 100000 in
set_option maxHeartbeats 4000000 in
theorem k_X6_wipe (l : Launch) (D : va_G) (cI cL cS : ClassId) (b : Nat → Nat) (co gu : Int32) (kn fo sp ki pl ea to qu : FI) (fd : FI) (mo : FI) (tr : FI) (b1 : FI) (tp : FI) (tm : Int32) (so : Int32) (bg : Int32) (te : Int32) (wd : Int64) (va : Int32) (gd : Int32) (bo : FI) (sz : FI) (sh : FJ) (le : FJ) (im : FI) (bf : FI) (ik : Int32) (dj : va_D (fun _ => True) (dj0 b 13))  : Met l yX6_wipe wsX6_wipe { frames := 0, cells := 0, slots := 0, locals := 0 } (PcR D vwCl (tyG cI cL cS) [.ref (b 0)] (mdw cI cL b (enc co gu kn fo sp ki pl ea to qu) fd mo tr b1 tp tm so bg te wd va gd bo sz sh le im bf ik)) (va_Qi (fun (r : Int32) (u : Int32) => r = tm ∧ u = 0) (fun u t => va_P D vwCl (mdw cI cL b (enc co gu kn fo sp ki pl ea to qu) fd mo tr b1 tp u so bg te wd va gd bo sz sh le im bf ik) t.heap) (Aof (mdw cI cL b (enc co gu kn fo sp ki pl ea to qu) fd mo tr b1 tp tm so bg te wd va gd bo sz sh le im bf ik))) 0 0 (Aof (mdw cI cL b (enc co gu kn fo sp ki pl ea to qu) fd mo tr b1 tp tm so bg te wd va gd bo sz sh le im bf ik)) := by
  refine Met.ofW (cc := cX6_wipe) (maxL := 2) (ret := (some .int)) (by decide) rfl ?_
  intro p e s m args below meth c s₁ B hml hv
  obtain ⟨rfl, hP, hK⟩ := hv
  have hx := B.exec
  have hb := B.bytes
  have hr := B.returns
  have hts := atoms_spec (ws := wsX6_wipe) B.pre
  have hown : s.vm.findClass RX6 = some m.cls := findClass_of_methodNamed B.named
  have hlocks := B.notSynchronized
  obtain ⟨A, hAe⟩ : ∃ A, A = Aof (mdw cI cL b (enc co gu kn fo sp ki pl ea to qu) fd mo tr b1 tp tm so bg te wd va gd bo sz sh le im bf ik) := ⟨_, rfl⟩
  rw [← hAe]
  have hD : ∀ ws' : va_W, ws'.map Prod.fst = (mdw cI cL b (enc co gu kn fo sp ki pl ea to qu) fd mo tr b1 tp tm so bg te wd va gd bo sz sh le im bf ik).map Prod.fst → va_D A ws' := fun ws' e => by rw [hAe]; exact va_D_adr (va_D_self (va_D_adr dj rfl)) e
  have hS : va_S A s.heap s.heap [] := va_S.rf
  have hP : va_P D vwCl (mdw cI cL b (enc co gu kn fo sp ki pl ea to qu) fd mo tr b1 tp tm so bg te wd va gd bo sz sh le im bf ik) s.heap := hP
  have hl := lv_entry ([.ref (b 0)]) (n := 2) (Nat.le_of_ble_eq_true rfl)
  rw [lg_entry_eq]
  generalize (lg_sl ([.ref (b 0)]) ++ List.replicate (2 - (lg_sl ([.ref (b 0)])).length) Slot.unset).toArray = ls at hl ⊢
  have hl : lv_has ls 2 [(0, .ref (b 0))] := hl
  have f160 := hts (.fieldLink RX6 160 "KnivesLaidModel" "tapeMany" "I") (List.mem_of_getElem? (i := 1) rfl)
  have inX6 : ∀ w ∈ u_ws RX6 TX6 20, w ∈ wsX6_wipe := in_at 2 _ _ rfl
  skip
  refine lv_aload_n hx hb dX6_wipe_0 rfl (lv_at hl 0 rfl) ?_
  refine va_get (ci := 4) (v := .int tm) (C := RX6) (T := TX6) (N := 20) hx hb hts inX6 hown hK hP 0 rfl rfl 6 (by decide) f160 (fun _ h9 => h9) rfl dX6_wipe_1 ?_
  refine lv_istore_n (lv' := [(1, .int tm), (0, .ref (b 0))]) hx hb dX6_wipe_4 rfl hl (by decide) rfl (fun ls hl => ?_)
  refine lv_aload_n hx hb dX6_wipe_5 rfl (lv_at hl 1 rfl) ?_
  refine lv_iconst (v := 0) hx hb dX6_wipe_6 (by decide) ?_
  refine va_put (ci := 4) (v := .int 0) (ty := .int) (C := RX6) (T := TX6) (N := 20) hx hb hts inX6 tyX6 tyX6_ok nmX6 hown hK hP (hD _ rfl) hS 0 rfl rfl 6 (by decide) f160 (fun _ h9 => h9) rfl rfl rfl rfl (Nat.le_of_ble_eq_true rfl) dX6_wipe_7 (fun H locs hP _ hS => ?_)
  have hP : va_P D vwCl (mdw cI cL b (enc co gu kn fo sp ki pl ea to qu) fd mo tr b1 tp 0 so bg te wd va gd bo sz sh le im bf ik) H := hP
  refine lv_iload_n hx hb dX6_wipe_10 rfl (lv_at hl 0 rfl) ?_
  exact W.iret hx hb hr (fun t ht hW => ⟨⟨_, (0), rfl, (by exact ⟨rfl, rfl⟩), by dsimp only; rw [ht]; exact hP⟩, hS.F ht⟩) hS.2.2 dX6_wipe_11
