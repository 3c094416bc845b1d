set_option maxRecDepth 100000 in
set_option maxHeartbeats 4000000 in
theorem k_X6_isSo (l : Launch) (D : va_G) (cI cL cS : ClassId) (b : Nat → Nat) (co gu : Int32) (kn fo sp ki pl ea to qu : FI) (fd : FI) (mo : FI) (tr : FI) (b1 : FI) (tp : FI) (tm : Int32) (so : Int32) (bg : Int32) (te : Int32) (wd : Int64) (va : Int32) (gd : Int32) (bo : FI) (sz : FI) (le : FJ) (im : FI) (bf : FI) (ik : Int32) (num : Nat → FJ) (x0 : Int32) (x1 : Int32) (dj : va_D (fun _ => True) (dj0 b 13)) (ok : okT gu kn fo sp (whC gu pl) ki pl) (oe : okE ea to qu) (oh : okH bo sz) (hs : vp_in x0 4) (h8 : vp_in x1 8) : Met l yX6_isSo wsX6_isSo { frames := 6, cells := 0, slots := 0, locals := 138 } (PcR D vwCl (tyG cI cL cS) [.ref (b 0), .int x0, .int x1] (mdw cI cL b (enc co gu kn fo sp ki pl ea to qu) fd mo tr b1 tp tm so bg te wd va gd bo sz (flat4 num) le im bf ik)) (va_Qi (fun (r : Int32) (u : Sg × FI) => r = bI (pGoes (num (ix x0)) (ix (sz (ix x0))) (co, gu, kn, fo, sp, ki, pl, ea, to, qu) x1)) (fun u t => va_P D vwCl (mdw cI cL b (encS u.1) fd u.2 tr b1 tp tm so bg te wd va gd bo sz (flat4 num) le im bf ik) t.heap) (Aof (mdw cI cL b (enc co gu kn fo sp ki pl ea to qu) fd mo tr b1 tp tm so bg te wd va gd bo sz (flat4 num) le im bf ik))) 0 0 (Aof (mdw cI cL b (enc co gu kn fo sp ki pl ea to qu) fd mo tr b1 tp tm so bg te wd va gd bo sz (flat4 num) le im bf ik)) := by
  refine Met.ofW (cc := cX6_isSo) (maxL := 5) (ret := (some .boolean)) (by decide) rfl ?_
  intro p e s m args below meth c s₁ B hml hv
  obtain ⟨rfl, hP, hK⟩ := hv
  have hx := B.exec
  have hb := B.bytes
  have hr := B.returns
  have hts := atoms_spec (ws := wsX6_isSo) B.pre
  have hown : s.vm.findClass RX6 = some m.cls := findClass_of_methodNamed B.named
  have hlocks := B.notSynchronized
  obtain ⟨A, hAe⟩ : ∃ A, A = Aof (mdw cI cL b (enc co gu kn fo sp ki pl ea to qu) fd mo tr b1 tp tm so bg te wd va gd bo sz (flat4 num) le im bf ik) := ⟨_, rfl⟩
  rw [← hAe]
  have hD : ∀ ws' : va_W, ws'.map Prod.fst = (mdw cI cL b (enc co gu kn fo sp ki pl ea to qu) fd mo tr b1 tp tm so bg te wd va gd bo sz (flat4 num) le im bf ik).map Prod.fst → va_D A ws' := fun ws' e => by rw [hAe]; exact va_D_adr (va_D_self (va_D_adr dj rfl)) e
  have hS : va_S A s.heap s.heap [] := va_S.rf
  have hP : va_P D vwCl (mdw cI cL b (enc co gu kn fo sp ki pl ea to qu) fd mo tr b1 tp tm so bg te wd va gd bo sz (flat4 num) le im bf ik) s.heap := hP
  have hl := lv_entry ([.ref (b 0), .int x0, .int x1]) (n := 5) (Nat.le_of_ble_eq_true rfl)
  rw [lg_entry_eq]
  generalize (lg_sl ([.ref (b 0), .int x0, .int x1]) ++ List.replicate (5 - (lg_sl ([.ref (b 0), .int x0, .int x1])).length) Slot.unset).toArray = ls at hl ⊢
  have hl : lv_has ls 5 [(0, .ref (b 0)), (1, .int x0), (2, .int x1)] := hl
  have f31 := hts (.fieldLink RX6 31 "KnivesLaidModel" "sizeOf" "[I") (List.mem_of_getElem? (i := 1) rfl)
  have inX6 : ∀ w ∈ u_ws RX6 TX6 20, w ∈ wsX6_isSo := in_at 76 _ _ rfl
  have f34 := hts (.fieldLink RX6 34 "KnivesLaidModel" "sheets" "[J") (List.mem_of_getElem? (i := 2) rfl)
  skip
  have hq := sz_of (oh _ (ix_lt (by decide) hs)).1
  have hP : va_P D vwCl (mdw cI cL b (enc (sCo (sPass 0 (co, gu, kn, fo, sp, ki, pl, ea, to, qu))) (sGu (sPass 0 (co, gu, kn, fo, sp, ki, pl, ea, to, qu))) (sKn (sPass 0 (co, gu, kn, fo, sp, ki, pl, ea, to, qu))) (sFo (sPass 0 (co, gu, kn, fo, sp, ki, pl, ea, to, qu))) (sSp (sPass 0 (co, gu, kn, fo, sp, ki, pl, ea, to, qu))) (sKi (sPass 0 (co, gu, kn, fo, sp, ki, pl, ea, to, qu))) (sPl (sPass 0 (co, gu, kn, fo, sp, ki, pl, ea, to, qu))) (sEa (sPass 0 (co, gu, kn, fo, sp, ki, pl, ea, to, qu))) (sTo (sPass 0 (co, gu, kn, fo, sp, ki, pl, ea, to, qu))) (sQu (sPass 0 (co, gu, kn, fo, sp, ki, pl, ea, to, qu)))) fd mo tr b1 tp tm so bg te wd va gd bo sz (flat4 num) le im bf ik) s.heap := by exact hP
  refine lv_iconst (v := 1) hx hb dX6_isSo_0 (by decide) ?_
  refine lv_istore_n (lv' := [(3, .int 1), (0, .ref (b 0)), (1, .int x0), (2, .int x1)]) hx hb dX6_isSo_1 rfl hl (by decide) rfl (fun ls hl => ?_)
  refine lv_iconst (v := 0) hx hb dX6_isSo_2 (by decide) ?_
  refine lv_istore (lv' := [(4, .int 0), (3, .int 1), (0, .ref (b 0)), (1, .int x0), (2, .int x1)]) hx hb dX6_isSo_3 hl (by decide) rfl (fun ls hl => ?_)
  refine lpW (fun n (u : Nat × Int32 × FI) H locs ls => (u.1 + n = ix (sz (ix x0))) ∧ (u.2.1 = bI (∀ k, k < u.1 → num (ix x0) k = (sEa (sPass k (co, gu, kn, fo, sp, ki, pl, ea, to, qu)) (ix x1)).toInt64)) ∧ va_P D vwCl (mdw cI cL b (enc (sCo (sPass u.1 (co, gu, kn, fo, sp, ki, pl, ea, to, qu))) (sGu (sPass u.1 (co, gu, kn, fo, sp, ki, pl, ea, to, qu))) (sKn (sPass u.1 (co, gu, kn, fo, sp, ki, pl, ea, to, qu))) (sFo (sPass u.1 (co, gu, kn, fo, sp, ki, pl, ea, to, qu))) (sSp (sPass u.1 (co, gu, kn, fo, sp, ki, pl, ea, to, qu))) (sKi (sPass u.1 (co, gu, kn, fo, sp, ki, pl, ea, to, qu))) (sPl (sPass u.1 (co, gu, kn, fo, sp, ki, pl, ea, to, qu))) (sEa (sPass u.1 (co, gu, kn, fo, sp, ki, pl, ea, to, qu))) (sTo (sPass u.1 (co, gu, kn, fo, sp, ki, pl, ea, to, qu))) (sQu (sPass u.1 (co, gu, kn, fo, sp, ki, pl, ea, to, qu)))) fd u.2.2 tr b1 tp tm so bg te wd va gd bo sz (flat4 num) le im bf ik) H ∧ va_S A s.heap H locs ∧ lv_has ls 5 [(0, .ref (b 0)), (1, .int x0), (2, .int x1), (3, .int u.2.1), (4, .int (nI u.1))]) (ix (sz (ix x0))) ((0, 1, mo)) ⟨by omega, (bI_t (fun k hk => absurd hk (Nat.not_lt_zero k))).symm, hP, hS, lv_sub hl [2, 3, 4, 1, 0] rfl⟩ (fun n ih u H locs ls hI => ?_)
  obtain ⟨i, zz, mo1⟩ := u
  obtain ⟨hi0, hi1, hP, hS, hl⟩ := hI
  have hi0 : i + n = ix (sz (ix x0)) := hi0
  have hi1 : zz = bI (∀ k, k < i → num (ix x0) k = (sEa (sPass k (co, gu, kn, fo, sp, ki, pl, ea, to, qu)) (ix x1)).toInt64) := hi1
  have hl : lv_has ls 5 [(0, .ref (b 0)), (1, .int x0), (2, .int x1), (3, .int zz), (4, .int (nI i))] := hl
  have hP : va_P D vwCl (mdw cI cL b (enc (sCo (sPass i (co, gu, kn, fo, sp, ki, pl, ea, to, qu))) (sGu (sPass i (co, gu, kn, fo, sp, ki, pl, ea, to, qu))) (sKn (sPass i (co, gu, kn, fo, sp, ki, pl, ea, to, qu))) (sFo (sPass i (co, gu, kn, fo, sp, ki, pl, ea, to, qu))) (sSp (sPass i (co, gu, kn, fo, sp, ki, pl, ea, to, qu))) (sKi (sPass i (co, gu, kn, fo, sp, ki, pl, ea, to, qu))) (sPl (sPass i (co, gu, kn, fo, sp, ki, pl, ea, to, qu))) (sEa (sPass i (co, gu, kn, fo, sp, ki, pl, ea, to, qu))) (sTo (sPass i (co, gu, kn, fo, sp, ki, pl, ea, to, qu))) (sQu (sPass i (co, gu, kn, fo, sp, ki, pl, ea, to, qu)))) fd mo1 tr b1 tp tm so bg te wd va gd bo sz (flat4 num) le im bf ik) H := hP
  have hix : ix (nI i) = i := ix_nI (by omega)
  refine lv_iload hx hb dX6_isSo_5 (lv_at hl 4 rfl) ?_
  refine lv_aload_n hx hb dX6_isSo_7 rfl (lv_at hl 0 rfl) ?_
  refine va_get (ci := 4) (v := .ref (b 8)) (C := RX6) (T := TX6) (N := 20) hx hb hts inX6 hown hK hP 0 rfl rfl 14 (by decide) f31 (fun _ h9 => h9) rfl dX6_isSo_8 ?_
  refine lv_iload_n hx hb dX6_isSo_11 rfl (lv_at hl 1 rfl) ?_
  refine va_iald hx hb hK hP 8 0 rfl rfl hs dX6_isSo_12 ?_
  refine lv_icmp_ge (tgt := 59) hx hb dX6_isSo_13 (by decide) (fun c_1 => ?_) (fun c_1 => ?_)
  · skip
    have c_1n := (cmp_le (a := ix (sz (ix x0))) (b := i) hq.1 rfl (by omega) (by omega)).mp c_1
    refine lv_iload_n hx hb dX6_isSo_59 rfl (lv_at hl 3 rfl) ?_
    exact W.zret (ty := .boolean) hx hb hr (by rw [hi1]; exact bI_nar _) (fun t ht hW => ⟨⟨_, ((sCo (sPass i (co, gu, kn, fo, sp, ki, pl, ea, to, qu)), sGu (sPass i (co, gu, kn, fo, sp, ki, pl, ea, to, qu)), sKn (sPass i (co, gu, kn, fo, sp, ki, pl, ea, to, qu)), sFo (sPass i (co, gu, kn, fo, sp, ki, pl, ea, to, qu)), sSp (sPass i (co, gu, kn, fo, sp, ki, pl, ea, to, qu)), sKi (sPass i (co, gu, kn, fo, sp, ki, pl, ea, to, qu)), sPl (sPass i (co, gu, kn, fo, sp, ki, pl, ea, to, qu)), sEa (sPass i (co, gu, kn, fo, sp, ki, pl, ea, to, qu)), sTo (sPass i (co, gu, kn, fo, sp, ki, pl, ea, to, qu)), sQu (sPass i (co, gu, kn, fo, sp, ki, pl, ea, to, qu))), mo1), rfl, (by rw [hi1, show i = ix (sz (ix x0)) by omega]), by dsimp only; rw [ht]; exact hP⟩, hS.F ht⟩) hS.2.2 dX6_isSo_60
  · skip
    have c_1n := mt (cmp_le (a := ix (sz (ix x0))) (b := i) hq.1 rfl (by omega) (by omega)).mpr c_1
    refine lv_iload_n hx hb dX6_isSo_16 rfl (lv_at hl 3 rfl) ?_
    refine lv_if_eq (tgt := 59) hx hb dX6_isSo_17 (by decide) (fun c_2 => ?_) (fun c_2 => ?_)
    · skip
      refine lv_iload_n hx hb dX6_isSo_59 rfl (lv_at hl 3 rfl) ?_
      exact W.zret (ty := .boolean) hx hb hr (by rw [hi1]; exact bI_nar _) (fun t ht hW => ⟨⟨_, ((sCo (sPass i (co, gu, kn, fo, sp, ki, pl, ea, to, qu)), sGu (sPass i (co, gu, kn, fo, sp, ki, pl, ea, to, qu)), sKn (sPass i (co, gu, kn, fo, sp, ki, pl, ea, to, qu)), sFo (sPass i (co, gu, kn, fo, sp, ki, pl, ea, to, qu)), sSp (sPass i (co, gu, kn, fo, sp, ki, pl, ea, to, qu)), sKi (sPass i (co, gu, kn, fo, sp, ki, pl, ea, to, qu)), sPl (sPass i (co, gu, kn, fo, sp, ki, pl, ea, to, qu)), sEa (sPass i (co, gu, kn, fo, sp, ki, pl, ea, to, qu)), sTo (sPass i (co, gu, kn, fo, sp, ki, pl, ea, to, qu)), sQu (sPass i (co, gu, kn, fo, sp, ki, pl, ea, to, qu))), mo1), rfl, (by exact so_end hi1 c_2 (by omega)), by dsimp only; rw [ht]; exact hP⟩, hS.F ht⟩) hS.2.2 dX6_isSo_60
    · skip
      refine lv_aload_n hx hb dX6_isSo_20 rfl (lv_at hl 0 rfl) ?_
      refine va_get (ci := 4) (v := .ref (b 9)) (C := RX6) (T := TX6) (N := 20) hx hb hts inX6 hown hK hP 0 rfl rfl 15 (by decide) f34 (fun _ h9 => h9) rfl dX6_isSo_21 ?_
      refine lv_bipush (v := 40) hx hb dX6_isSo_24 (by decide) ?_
      refine lv_iload_n hx hb dX6_isSo_26 rfl (lv_at hl 1 rfl) ?_
      refine lv_imul hx hb dX6_isSo_27 ?_
      refine lv_iload hx hb dX6_isSo_28 (lv_at hl 4 rfl) ?_
      refine lv_iadd hx hb dX6_isSo_30 ?_
      refine va_lald hx hb hK hP 9 1 rfl rfl ((ix40 hs (vp_in_nI (by omega) (by decide))).2) dX6_isSo_31 ?_
      refine lv_toL (y := num (ix x0) i) ((flat_rd hs (vp_in_nI (by omega) (by decide))).trans (by rw [hix])) ?_
      refine lv_aload_n hx hb dX6_isSo_32 rfl (lv_at hl 0 rfl) ?_
      refine lv_iload_n hx hb dX6_isSo_33 rfl (lv_at hl 2 rfl) ?_
      refine lv_iconst (v := 2) hx hb dX6_isSo_34 (by decide) ?_
      refine callE (W.runV (As := [.int x1, .int 2]) (rest := [.long (num (ix x0) i)]) ⟨hx, hb, hml, hown, hts⟩ (k_X6_its2 l D cI cL cS b (sCo (sPass i (co, gu, kn, fo, sp, ki, pl, ea, to, qu))) (sGu (sPass i (co, gu, kn, fo, sp, ki, pl, ea, to, qu))) (sKn (sPass i (co, gu, kn, fo, sp, ki, pl, ea, to, qu))) (sFo (sPass i (co, gu, kn, fo, sp, ki, pl, ea, to, qu))) (sSp (sPass i (co, gu, kn, fo, sp, ki, pl, ea, to, qu))) (sKi (sPass i (co, gu, kn, fo, sp, ki, pl, ea, to, qu))) (sPl (sPass i (co, gu, kn, fo, sp, ki, pl, ea, to, qu))) (sEa (sPass i (co, gu, kn, fo, sp, ki, pl, ea, to, qu))) (sTo (sPass i (co, gu, kn, fo, sp, ki, pl, ea, to, qu))) (sQu (sPass i (co, gu, kn, fo, sp, ki, pl, ea, to, qu))) fd mo1 tr b1 tp tm so bg te wd va gd bo sz (flat4 num) le im bf ik x1 (by assumption)) (cwV 2 hts gX6_isSo_X6_its rfl rfl rfl (by decide +kernel) ⟨Nat.le_of_ble_eq_true rfl, Nat.le_of_ble_eq_true rfl⟩) ⟨PcR_fb, va_recv hK hP (ci := 4) (q0 := 0) rfl rfl, PcR_pre hP hK⟩ rfl rfl hl.1 rfl (lv_room (Nat.le_of_ble_eq_true rfl)) dX6_isSo_35 ⟨Nat.zero_le _, Nat.zero_le _⟩) ?_
      refine lv_i2l (v := ((sEa (sPass i (co, gu, kn, fo, sp, ki, pl, ea, to, qu))) (ix x1)).toInt64) hx hb dX6_isSo_38 rfl ?_
      refine W.lcmp hx hb dX6_isSo_39 ?_
      refine jn (fun v_3 : Int32 => v_3 = (if (lg_cmp (num (ix x0) i) (((sEa (sPass i (co, gu, kn, fo, sp, ki, pl, ea, to, qu))) (ix x1)).toInt64)) = 0 then 1 else 0 : Int32)) (fun v_3 => F0 m 48 ls [.int v_3]) (fun Jv_3 => ?_) (fun v_3 ev_3 => ?_)
      · skip
        refine lv_if_ne (tgt := 47) hx hb dX6_isSo_40 (by decide) (fun c_4 => ?_) (fun c_4 => ?_)
        · skip
          refine lv_iconst (v := 0) hx hb dX6_isSo_47 (by decide) ?_
          exact Jv_3 _ (by rw [if_neg c_4])
        · skip
          refine lv_iconst (v := 1) hx hb dX6_isSo_43 (by decide) ?_
          refine lv_goto (tgt := 48) hx hb dX6_isSo_44 (by decide) ?_
          exact Jv_3 _ (by rw [if_pos c_4])
      subst ev_3
      refine lv_istore_n (lv' := [(3, .int (if (lg_cmp (num (ix x0) i) (((sEa (sPass i (co, gu, kn, fo, sp, ki, pl, ea, to, qu))) (ix x1)).toInt64)) = 0 then 1 else 0 : Int32)), (0, .ref (b 0)), (1, .int x0), (2, .int x1), (4, .int (nI i))]) hx hb dX6_isSo_48 rfl hl (by decide) rfl (fun ls hl => ?_)
      refine lv_aload_n hx hb dX6_isSo_49 rfl (lv_at hl 1 rfl) ?_
      refine callMv (va_runV (As := []) (rest := []) ⟨hx, hb, hml, hown, hts⟩ (k_X6_oneCourse l D cI cL cS b (sCo (sPass i (co, gu, kn, fo, sp, ki, pl, ea, to, qu))) (sGu (sPass i (co, gu, kn, fo, sp, ki, pl, ea, to, qu))) (sKn (sPass i (co, gu, kn, fo, sp, ki, pl, ea, to, qu))) (sFo (sPass i (co, gu, kn, fo, sp, ki, pl, ea, to, qu))) (sSp (sPass i (co, gu, kn, fo, sp, ki, pl, ea, to, qu))) (sKi (sPass i (co, gu, kn, fo, sp, ki, pl, ea, to, qu))) (sPl (sPass i (co, gu, kn, fo, sp, ki, pl, ea, to, qu))) (sEa (sPass i (co, gu, kn, fo, sp, ki, pl, ea, to, qu))) (sTo (sPass i (co, gu, kn, fo, sp, ki, pl, ea, to, qu))) (sQu (sPass i (co, gu, kn, fo, sp, ki, pl, ea, to, qu))) fd mo1 tr b1 tp tm so bg te wd va gd bo sz (flat4 num) le im bf ik (va_DT (hD _ rfl) rfl) ((okS_pass (σ := (co, gu, kn, fo, sp, ki, pl, ea, to, qu)) ⟨ok, oe⟩ i).1.cC) ((okS_pass (σ := (co, gu, kn, fo, sp, ki, pl, ea, to, qu)) ⟨ok, oe⟩ i).2)) (cwV 0 hts gX6_isSo_X6_oneCourse rfl rfl rfl (by decide +kernel) ⟨Nat.le_of_ble_eq_true rfl, Nat.le_of_ble_eq_true rfl⟩) ⟨PcR_fb, va_recv hK hP (ci := 4) (q0 := 0) rfl rfl, PcR_pre hP hK⟩ rfl rfl hl.1 rfl (lv_room (Nat.le_of_ble_eq_true rfl)) dX6_isSo_50 ⟨Nat.zero_le _, Nat.zero_le _⟩) hP (hD _ rfl) hS 0 13 rfl (fun u_5 H locs hu_5 hP hS => ?_)
      obtain ⟨mo_7, rfl⟩ : ∃ z, z = u_5 := ⟨_, rfl⟩
      have hP : va_P D vwCl (mdw cI cL b (enc ((sCo (sPass i (co, gu, kn, fo, sp, ki, pl, ea, to, qu))) + 1) (sGu (sPass i (co, gu, kn, fo, sp, ki, pl, ea, to, qu))) (sKn (sPass i (co, gu, kn, fo, sp, ki, pl, ea, to, qu))) (sFo (sPass i (co, gu, kn, fo, sp, ki, pl, ea, to, qu))) (sSp (sPass i (co, gu, kn, fo, sp, ki, pl, ea, to, qu))) (sKi (sPass i (co, gu, kn, fo, sp, ki, pl, ea, to, qu))) (sPl (sPass i (co, gu, kn, fo, sp, ki, pl, ea, to, qu))) (cEa (sGu (sPass i (co, gu, kn, fo, sp, ki, pl, ea, to, qu))) (sKn (sPass i (co, gu, kn, fo, sp, ki, pl, ea, to, qu))) (sFo (sPass i (co, gu, kn, fo, sp, ki, pl, ea, to, qu))) (sSp (sPass i (co, gu, kn, fo, sp, ki, pl, ea, to, qu))) (sKi (sPass i (co, gu, kn, fo, sp, ki, pl, ea, to, qu))) (sPl (sPass i (co, gu, kn, fo, sp, ki, pl, ea, to, qu))) (sEa (sPass i (co, gu, kn, fo, sp, ki, pl, ea, to, qu)))) (cTo (sGu (sPass i (co, gu, kn, fo, sp, ki, pl, ea, to, qu))) (sSp (sPass i (co, gu, kn, fo, sp, ki, pl, ea, to, qu))) (sKi (sPass i (co, gu, kn, fo, sp, ki, pl, ea, to, qu))) (sPl (sPass i (co, gu, kn, fo, sp, ki, pl, ea, to, qu))) (sEa (sPass i (co, gu, kn, fo, sp, ki, pl, ea, to, qu))) (sTo (sPass i (co, gu, kn, fo, sp, ki, pl, ea, to, qu)))) (cQu (sGu (sPass i (co, gu, kn, fo, sp, ki, pl, ea, to, qu))) (sKi (sPass i (co, gu, kn, fo, sp, ki, pl, ea, to, qu))) (sPl (sPass i (co, gu, kn, fo, sp, ki, pl, ea, to, qu))) (cEa (sGu (sPass i (co, gu, kn, fo, sp, ki, pl, ea, to, qu))) (sKn (sPass i (co, gu, kn, fo, sp, ki, pl, ea, to, qu))) (sFo (sPass i (co, gu, kn, fo, sp, ki, pl, ea, to, qu))) (sSp (sPass i (co, gu, kn, fo, sp, ki, pl, ea, to, qu))) (sKi (sPass i (co, gu, kn, fo, sp, ki, pl, ea, to, qu))) (sPl (sPass i (co, gu, kn, fo, sp, ki, pl, ea, to, qu))) (sEa (sPass i (co, gu, kn, fo, sp, ki, pl, ea, to, qu)))) (sQu (sPass i (co, gu, kn, fo, sp, ki, pl, ea, to, qu))))) fd mo_7 tr b1 tp tm so bg te wd va gd bo sz (flat4 num) le im bf ik) H := hP
      refine lv_iinc (v := nI (i + 1)) (lv' := [(4, .int (nI (i + 1))), (3, .int (if (lg_cmp (num (ix x0) i) (((sEa (sPass i (co, gu, kn, fo, sp, ki, pl, ea, to, qu))) (ix x1)).toInt64)) = 0 then 1 else 0 : Int32)), (0, .ref (b 0)), (1, .int x0), (2, .int x1)]) hx hb dX6_isSo_53 hl (k := 4) rfl (nI_1 _) (by decide) rfl (fun ls hl => ?_)
      refine lv_goto (tgt := 5) hx hb dX6_isSo_56 (by decide) ?_
      have hP : va_P D vwCl (mdw cI cL b (enc (sCo (sPass (i + 1) (co, gu, kn, fo, sp, ki, pl, ea, to, qu))) (sGu (sPass (i + 1) (co, gu, kn, fo, sp, ki, pl, ea, to, qu))) (sKn (sPass (i + 1) (co, gu, kn, fo, sp, ki, pl, ea, to, qu))) (sFo (sPass (i + 1) (co, gu, kn, fo, sp, ki, pl, ea, to, qu))) (sSp (sPass (i + 1) (co, gu, kn, fo, sp, ki, pl, ea, to, qu))) (sKi (sPass (i + 1) (co, gu, kn, fo, sp, ki, pl, ea, to, qu))) (sPl (sPass (i + 1) (co, gu, kn, fo, sp, ki, pl, ea, to, qu))) (sEa (sPass (i + 1) (co, gu, kn, fo, sp, ki, pl, ea, to, qu))) (sTo (sPass (i + 1) (co, gu, kn, fo, sp, ki, pl, ea, to, qu))) (sQu (sPass (i + 1) (co, gu, kn, fo, sp, ki, pl, ea, to, qu)))) fd mo_7 tr b1 tp tm so bg te wd va gd bo sz (flat4 num) le im bf ik) H := by exact hP
      exact ih (n - 1) (by omega) ((i + 1, (if (lg_cmp (num (ix x0) i) (((sEa (sPass i (co, gu, kn, fo, sp, ki, pl, ea, to, qu))) (ix x1)).toInt64)) = 0 then 1 else 0 : Int32), mo_7)) H locs ls ⟨by omega, so_step hi1 c_2, hP, hS, lv_sub hl [2, 3, 4, 1, 0] rfl⟩

set_option maxRecDepth 100000 in
set_option maxHeartbeats 4000000 in
theorem k_X6_read (l : Launch) (D : va_G) (cI cL cS : ClassId) (b : Nat → Nat) (co gu : Int32) (kn fo sp ki pl ea to qu : FI) (fd : FI) (mo : FI) (tr : FI) (b1 : FI) (tp : FI) (tm : Int32) (so : Int32) (bg : Int32) (te : Int32) (wd : Int64) (va : Int32) (gd : Int32) (bo : FI) (sz : FI) (le : FJ) (im : FI) (bf : FI) (ik : Int32) (num : Nat → FJ) (x0 : Int32) (x1 : Int32) (dj : va_D (fun _ => True) (dj0 b 13)) (ok : okT gu kn fo sp (whC gu pl) ki pl) (oe : okE ea to qu) (oh : okH bo sz) : Met l yX6_read wsX6_read { frames := 7, cells := 0, slots := 0, locals := 162 } (PcR D vwCl (tyG cI cL cS) [.ref (b 0), .int x0, .int x1] (mdw cI cL b (enc co gu kn fo sp ki pl ea to qu) fd mo tr b1 tp tm so bg te wd va gd bo sz (flat4 num) le im bf ik)) (va_Qi (fun (r : Int32) (u : FI × FI × FI) => (r, u.2.2) = sRead bo sz num (co, gu, kn, fo, sp, ki, pl, ea, to, qu) fd x0 x1) (fun u t => va_P D vwCl (mdw cI cL b (enc co gu kn fo sp ki pl ea to qu) u.2.2 u.1 tr u.2.1 tp tm so bg te wd va gd bo sz (flat4 num) le im bf ik) t.heap) (Aof (mdw cI cL b (enc co gu kn fo sp ki pl ea to qu) fd mo tr b1 tp tm so bg te wd va gd bo sz (flat4 num) le im bf ik))) 0 0 (Aof (mdw cI cL b (enc co gu kn fo sp ki pl ea to qu) fd mo tr b1 tp tm so bg te wd va gd bo sz (flat4 num) le im bf ik)) := by
  refine Met.ofW (cc := cX6_read) (maxL := 6) (ret := (some .int)) (by decide) rfl ?_
  intro p e s m args below meth c s₁ B hml hv
  obtain ⟨rfl, hP, hK⟩ := hv
  have hx := B.exec
  have hb := B.bytes
  have hr := B.returns
  have hts := atoms_spec (ws := wsX6_read) B.pre
  have hown : s.vm.findClass RX6 = some m.cls := findClass_of_methodNamed B.named
  have hlocks := B.notSynchronized
  obtain ⟨A, hAe⟩ : ∃ A, A = Aof (mdw cI cL b (enc co gu kn fo sp ki pl ea to qu) fd mo tr b1 tp tm so bg te wd va gd bo sz (flat4 num) le im bf ik) := ⟨_, rfl⟩
  rw [← hAe]
  have hD : ∀ ws' : va_W, ws'.map Prod.fst = (mdw cI cL b (enc co gu kn fo sp ki pl ea to qu) fd mo tr b1 tp tm so bg te wd va gd bo sz (flat4 num) le im bf ik).map Prod.fst → va_D A ws' := fun ws' e => by rw [hAe]; exact va_D_adr (va_D_self (va_D_adr dj rfl)) e
  have hS : va_S A s.heap s.heap [] := va_S.rf
  have hP : va_P D vwCl (mdw cI cL b (enc co gu kn fo sp ki pl ea to qu) fd mo tr b1 tp tm so bg te wd va gd bo sz (flat4 num) le im bf ik) s.heap := hP
  have hl := lv_entry ([.ref (b 0), .int x0, .int x1]) (n := 6) (Nat.le_of_ble_eq_true rfl)
  rw [lg_entry_eq]
  generalize (lg_sl ([.ref (b 0), .int x0, .int x1]) ++ List.replicate (6 - (lg_sl ([.ref (b 0), .int x0, .int x1])).length) Slot.unset).toArray = ls at hl ⊢
  have hl : lv_has ls 6 [(0, .ref (b 0)), (1, .int x0), (2, .int x1)] := hl
  have f22 := hts (.fieldLink RX6 22 "KnivesLaidModel" "before1" "[I") (List.mem_of_getElem? (i := 2) rfl)
  have inX6 : ∀ w ∈ u_ws RX6 TX6 20, w ∈ wsX6_read := in_at 107 _ _ rfl
  have f7 := hts (.fieldLink RX6 7 "KnivesLaidModel" "row" "[I") (List.mem_of_getElem? (i := 3) rfl)
  have k47 := hts (.constant RX6 47 (-1000000001)) (List.mem_of_getElem? (i := 1) rfl)
  skip
  refine lv_aload_n hx hb dX6_read_0 rfl (lv_at hl 0 rfl) ?_
  refine lv_iload_n hx hb dX6_read_1 rfl (lv_at hl 1 rfl) ?_
  refine callE (W.runV (As := [.int x0]) (rest := []) ⟨hx, hb, hml, hown, hts⟩ (k_X6_badSheet l D cI cL cS b co gu kn fo sp ki pl ea to qu fd mo tr b1 tp tm so bg te wd va gd bo sz (flat4 num) le im bf ik x0) (cwV 1 hts gX6_read_X6_badSheet rfl rfl rfl (by decide +kernel) ⟨Nat.le_of_ble_eq_true rfl, Nat.le_of_ble_eq_true rfl⟩) ⟨PcR_fb, va_recv hK hP (ci := 4) (q0 := 0) rfl rfl, PcR_pre hP hK⟩ rfl rfl hl.1 rfl (lv_room (Nat.le_of_ble_eq_true rfl)) dX6_read_2 ⟨Nat.zero_le _, Nat.zero_le _⟩) ?_
  refine lv_istore_n (lv' := [(3, .int (sBad bo x0)), (0, .ref (b 0)), (1, .int x0), (2, .int x1)]) hx hb dX6_read_5 rfl hl (by decide) rfl (fun ls hl => ?_)
  refine lv_iload_n hx hb dX6_read_6 rfl (lv_at hl 0 rfl) ?_
  refine lv_if_eq (tgt := 16) hx hb dX6_read_7 (by decide) (fun c_1 => ?_) (fun c_1 => ?_)
  · skip
    have hb0 := bad_0 c_1
    obtain ⟨hs, hbz⟩ := hb0
    have hb0 := bad_0 c_1
    refine lv_aload_n hx hb dX6_read_16 rfl (lv_at hl 1 rfl) ?_
    refine lv_iload_n hx hb dX6_read_17 rfl (lv_at hl 3 rfl) ?_
    refine callE (W.runV (As := [.int x1]) (rest := []) ⟨hx, hb, hml, hown, hts⟩ (k_X6_isOne l D cI cL cS b co gu kn fo sp ki pl ea to qu fd mo tr b1 tp tm so bg te wd va gd bo sz (flat4 num) le im bf ik x1 ok.gu) (cwV 1 hts gX6_read_X6_isOne rfl rfl rfl (by decide +kernel) ⟨Nat.le_of_ble_eq_true rfl, Nat.le_of_ble_eq_true rfl⟩) ⟨PcR_fb, va_recv hK hP (ci := 4) (q0 := 0) rfl rfl, PcR_pre hP hK⟩ rfl rfl hl.1 rfl (lv_room (Nat.le_of_ble_eq_true rfl)) dX6_read_18 ⟨Nat.zero_le _, Nat.zero_le _⟩) ?_
    refine lv_if_ne (tgt := 31) hx hb dX6_read_21 (by decide) (fun c_2 => ?_) (fun c_2 => ?_)
    · skip
      have c_2b := bI_n c_2
      have h1n := c_2b
      have h8 : vp_in x1 8 := in_8 ok.gu h1n
      have hpl := ok.pl h8
      refine lv_iconst (v := 0) hx hb dX6_read_31 (by decide) ?_
      refine lv_istore (lv' := [(4, .int 0), (3, .int (sBad bo x0)), (0, .ref (b 0)), (1, .int x0), (2, .int x1)]) hx hb dX6_read_32 hl (by decide) rfl (fun ls hl => ?_)
      refine lv_aload_n hx hb dX6_read_34 rfl (lv_at hl 2 rfl) ?_
      refine lv_iconst (v := 1) hx hb dX6_read_35 (by decide) ?_
      refine lv_aload_n hx hb dX6_read_36 rfl (lv_at hl 2 rfl) ?_
      refine va_get (ci := 4) (v := .ref (b 5)) (C := RX6) (T := TX6) (N := 20) hx hb hts inX6 hown hK hP 0 rfl rfl 4 (by decide) f22 (fun _ h9 => h9) rfl dX6_read_37 ?_
      refine callMv (va_runV (As := [.int 1, .ref (b 5)]) (rest := []) ⟨hx, hb, hml, hown, hts⟩ (k_X6_moveAll_b11 l D cI cL cS b co gu kn fo sp ki pl ea to qu fd mo tr b1 tp tm so bg te wd va gd bo sz (flat4 num) le im bf ik (va_DT (hD _ rfl) rfl)) (cwV 2 hts gX6_read_X6_moveAll rfl rfl rfl (by decide +kernel) ⟨Nat.le_of_ble_eq_true rfl, Nat.le_of_ble_eq_true rfl⟩) ⟨PcR_fb, va_recv hK hP (ci := 4) (q0 := 0) rfl rfl, PcR_pre hP hK⟩ rfl rfl hl.1 rfl (lv_room (Nat.le_of_ble_eq_true rfl)) dX6_read_40 ⟨Nat.zero_le _, Nat.zero_le _⟩) hP (hD _ rfl) hS 0 13 rfl (fun u_3 H locs hu_3 hP hS => ?_)
      have hP : va_P D vwCl (mdw cI cL b (enc co gu kn fo sp ki pl ea to qu) fd mo tr (enc co gu kn fo sp ki pl ea to qu) tp tm so bg te wd va gd bo sz (flat4 num) le im bf ik) H := hP
      refine lv_iconst (v := 0) hx hb dX6_read_43 (by decide) ?_
      refine lv_istore (lv' := [(5, .int 0), (4, .int 0), (3, .int (sBad bo x0)), (0, .ref (b 0)), (1, .int x0), (2, .int x1)]) hx hb dX6_read_44 hl (by decide) rfl (fun ls hl => ?_)
      refine lpW (fun n (u : Nat × Int32 × FI) H locs ls => (u.1 + n = 60) ∧ (u.2.1 = cntF (pRead num sz (co, gu, kn, fo, sp, ki, pl, ea, to, qu) x0 x1) u.1) ∧ va_P D vwCl (mdw cI cL b (enc co gu kn fo sp ki pl ea to qu) fd u.2.2 tr (enc co gu kn fo sp ki pl ea to qu) tp tm so bg te wd va gd bo sz (flat4 num) le im bf ik) H ∧ va_S A s.heap H locs ∧ lv_has ls 6 [(0, .ref (b 0)), (1, .int x0), (2, .int x1), (4, .int u.2.1), (5, .int (nI u.1))]) (60) ((0, 0, mo)) ⟨by omega, rfl, hP, hS, lv_sub hl [3, 4, 5, 1, 0] rfl⟩ (fun n ih u H locs ls hI => ?_)
      obtain ⟨cd, zz, mo1⟩ := u
      obtain ⟨hi0, hi1, hP, hS, hl⟩ := hI
      have hi0 : cd + n = 60 := hi0
      have hi1 : zz = cntF (pRead num sz (co, gu, kn, fo, sp, ki, pl, ea, to, qu) x0 x1) cd := hi1
      have hl : lv_has ls 6 [(0, .ref (b 0)), (1, .int x0), (2, .int x1), (4, .int zz), (5, .int (nI cd))] := hl
      have hP : va_P D vwCl (mdw cI cL b (enc co gu kn fo sp ki pl ea to qu) fd mo1 tr (enc co gu kn fo sp ki pl ea to qu) tp tm so bg te wd va gd bo sz (flat4 num) le im bf ik) H := hP
      refine lv_iload hx hb dX6_read_46 (lv_at hl 4 rfl) ?_
      refine lv_bipush (v := 60) hx hb dX6_read_48 (by decide) ?_
      refine lv_icmp_ge (tgt := 120) hx hb dX6_read_50 (by decide) (fun c_5 => ?_) (fun c_5 => ?_)
      · skip
        have c_5n := (cmp_le (a := 60) (b := cd) rfl rfl (by omega) (by omega)).mp c_5
        refine lv_iload hx hb dX6_read_120 (lv_at hl 3 rfl) ?_
        exact W.iret hx hb hr (fun t ht hW => ⟨⟨_, (mo1, enc co gu kn fo sp ki pl ea to qu, fd), rfl, (by exact ((iF_t ((fob_one hb0).1 h1n)).trans (by rw [hi1, show cd = 60 by omega])).symm), by dsimp only; rw [ht]; exact hP⟩, hS.F ht⟩) hS.2.2 dX6_read_122
      · skip
        have c_5n := mt (cmp_le (a := 60) (b := cd) rfl rfl (by omega) (by omega)).mpr c_5
        refine lv_aload_n hx hb dX6_read_53 rfl (lv_at hl 0 rfl) ?_
        refine lv_iload_n hx hb dX6_read_54 rfl (lv_at hl 2 rfl) ?_
        refine lv_iconst (v := 0) hx hb dX6_read_55 (by decide) ?_
        refine lv_iload hx hb dX6_read_56 (lv_at hl 4 rfl) ?_
        refine lv_bipush (v := 10) hx hb dX6_read_58 (by decide) ?_
        refine lv_idiv hx hb dX6_read_60 (by decide) ?_
        refine callMv (va_runV (As := [.int x1, .int 0, .int ((nI cd) / 10)]) (rest := []) ⟨hx, hb, hml, hown, hts⟩ (k_X6_puts0 l D cI cL cS b co gu kn fo sp ki pl ea to qu fd mo1 tr (enc co gu kn fo sp ki pl ea to qu) tp tm so bg te wd va gd bo sz (flat4 num) le im bf ik x1 ((nI cd) / 10) (va_DT (hD _ rfl) rfl) h8) (cwV 3 hts gX6_read_X6_puts rfl rfl rfl (by decide +kernel) ⟨Nat.le_of_ble_eq_true rfl, Nat.le_of_ble_eq_true rfl⟩) ⟨PcR_fb, va_recv hK hP (ci := 4) (q0 := 0) rfl rfl, PcR_pre hP hK⟩ rfl rfl hl.1 rfl (lv_room (Nat.le_of_ble_eq_true rfl)) dX6_read_61 ⟨Nat.zero_le _, Nat.zero_le _⟩) hP (hD _ rfl) hS 0 13 rfl (fun u_6 H locs hu_6 hP hS => ?_)
        have hP : va_P D vwCl (mdw cI cL b (enc co gu kn fo sp (upd ki (ix x1) ((nI cd) / 10)) pl ea to qu) fd mo1 tr (enc co gu kn fo sp ki pl ea to qu) tp tm so bg te wd va gd bo sz (flat4 num) le im bf ik) H := hP
        have hP : va_P D vwCl (mdw cI cL b (enc co gu kn fo sp (upd ki (ix x1) (nI (cd / 10))) pl ea to qu) fd mo1 tr (enc co gu kn fo sp ki pl ea to qu) tp tm so bg te wd va gd bo sz (flat4 num) le im bf ik) H := by rw [show nI cd / 10 = nI (cd / 10) from pk_div (by omega) (by decide) (by decide)] at hP; exact hP
        refine lv_aload_n hx hb dX6_read_64 rfl (lv_at hl 0 rfl) ?_
        refine va_get (ci := 4) (v := .ref (b 1)) (C := RX6) (T := TX6) (N := 20) hx hb hts inX6 hown hK hP 0 rfl rfl 0 (by decide) f7 (fun _ h9 => h9) rfl dX6_read_65 ?_
        refine lv_iconst (v := 2) hx hb dX6_read_68 (by decide) ?_
        refine lv_iconst (v := 3) hx hb dX6_read_69 (by decide) ?_
        refine lv_aload_n hx hb dX6_read_70 rfl (lv_at hl 0 rfl) ?_
        refine lv_iload_n hx hb dX6_read_71 rfl (lv_at hl 2 rfl) ?_
        refine lv_iconst (v := 1) hx hb dX6_read_72 (by decide) ?_
        refine callE (W.runV (As := [.int x1, .int 1]) (rest := [.int 3, .int 2, .ref (b 1)]) ⟨hx, hb, hml, hown, hts⟩ (k_X6_its1 l D cI cL cS b co gu kn fo sp (upd ki (ix x1) (nI (cd / 10))) pl ea to qu fd mo1 tr (enc co gu kn fo sp ki pl ea to qu) tp tm so bg te wd va gd bo sz (flat4 num) le im bf ik x1 (by assumption)) (cwV 2 hts gX6_read_X6_its rfl rfl rfl (by decide +kernel) ⟨Nat.le_of_ble_eq_true rfl, Nat.le_of_ble_eq_true rfl⟩) ⟨PcR_fb, va_recv hK hP (ci := 4) (q0 := 0) rfl rfl, PcR_pre hP hK⟩ rfl rfl hl.1 rfl (lv_room (Nat.le_of_ble_eq_true rfl)) dX6_read_73 ⟨Nat.zero_le _, Nat.zero_le _⟩) ?_
        refine lv_imul hx hb dX6_read_76 ?_
        refine lv_iadd hx hb dX6_read_77 ?_
        refine lv_iconst (v := 2) hx hb dX6_read_78 (by decide) ?_
        refine lv_iadd hx hb dX6_read_79 ?_
        refine lv_iload hx hb dX6_read_80 (lv_at hl 4 rfl) ?_
        refine lv_bipush (v := 10) hx hb dX6_read_82 (by decide) ?_
        refine lv_irem hx hb dX6_read_84 (by decide) ?_
        refine va_iast hx hb hK hP (hD _ rfl) hS 1 0 rfl rfl ((ixp hpl (vp_in_iff.mpr (by decide))).2) dX6_read_85 (fun H locs hP _ hS => ?_)
        have hP : va_P D vwCl (mdw cI cL b (enc co gu kn fo (upd sp (ix (pl (ix x1))) (nI (cd % 10))) (upd ki (ix x1) (nI (cd / 10))) pl ea to qu) fd mo1 tr (enc co gu kn fo sp ki pl ea to qu) tp tm so bg te wd va gd bo sz (flat4 num) le im bf ik) H := by rw [show nI cd - nI cd / 10 * 10 = nI (cd % 10) from pk_rem (by omega) (by decide) (by decide)] at hP; rw [← enc_q2 hpl]; exact hP
        refine lv_iload hx hb dX6_read_86 (lv_at hl 3 rfl) ?_
        refine lv_aload_n hx hb dX6_read_88 rfl (lv_at hl 0 rfl) ?_
        refine lv_iload_n hx hb dX6_read_89 rfl (lv_at hl 1 rfl) ?_
        refine lv_iload_n hx hb dX6_read_90 rfl (lv_at hl 2 rfl) ?_
        refine callMi (va_runV (As := [.int x0, .int x1]) (rest := [.int zz]) ⟨hx, hb, hml, hown, hts⟩ (k_X6_isSo l D cI cL cS b co gu kn fo (upd sp (ix (pl (ix x1))) (nI (cd % 10))) (upd ki (ix x1) (nI (cd / 10))) pl ea to qu fd mo1 tr (enc co gu kn fo sp ki pl ea to qu) tp tm so bg te wd va gd bo sz le im bf ik num x0 x1 (va_DT (hD _ rfl) rfl) ((ok_read (σ := (co, gu, kn, fo, sp, ki, pl, ea, to, qu)) (w := whC gu pl) ⟨ok, oe⟩ x1 (c := cd) (by omega)).1.cC) ((ok_read (σ := (co, gu, kn, fo, sp, ki, pl, ea, to, qu)) (w := whC gu pl) ⟨ok, oe⟩ x1 (c := cd) (by omega)).2) oh hs h8) (cwV 2 hts gX6_read_X6_isSo rfl rfl rfl (by decide +kernel) ⟨Nat.le_of_ble_eq_true rfl, Nat.le_of_ble_eq_true rfl⟩) ⟨PcR_fb, va_recv hK hP (ci := 4) (q0 := 0) rfl rfl, PcR_pre hP hK⟩ rfl rfl hl.1 rfl (lv_room (Nat.le_of_ble_eq_true rfl)) dX6_read_91 ⟨Nat.zero_le _, Nat.zero_le _⟩) hP (hD _ rfl) hS 0 13 rfl (fun r_9 u_8 H locs hu_8 hP hS => ?_)
        obtain ⟨S_10, mo_11⟩ := u_8
        have hu_8 : r_9 = bI (pGoes (num (ix x0)) (ix (sz (ix x0))) (co, gu, kn, fo, upd sp (ix (pl (ix x1))) (nI (cd % 10)), upd ki (ix x1) (nI (cd / 10)), pl, ea, to, qu) x1) := hu_8
        subst hu_8
        have hP : va_P D vwCl (mdw cI cL b (enc (sCo S_10) (sGu S_10) (sKn S_10) (sFo S_10) (sSp S_10) (sKi S_10) (sPl S_10) (sEa S_10) (sTo S_10) (sQu S_10)) fd mo_11 tr (enc co gu kn fo sp ki pl ea to qu) tp tm so bg te wd va gd bo sz (flat4 num) le im bf ik) H := hP
        refine jn (fun v_12 : Int32 => v_12 = (if (bI (pRead num sz (co, gu, kn, fo, sp, ki, pl, ea, to, qu) x0 x1 cd)) = 0 then 0 else 1 : Int32)) (fun v_12 => F0 m 102 ls [.int v_12, .int zz]) (fun Jv_12 => ?_) (fun v_12 ev_12 => ?_)
        · skip
          refine lv_if_eq (tgt := 101) hx hb dX6_read_94 (by decide) (fun c_13 => ?_) (fun c_13 => ?_)
          · skip
            have c_13b := bI_0 c_13
            refine lv_iconst (v := 0) hx hb dX6_read_101 (by decide) ?_
            exact Jv_12 _ (by rw [if_pos c_13])
          · skip
            have c_13b := bI_n c_13
            refine lv_iconst (v := 1) hx hb dX6_read_97 (by decide) ?_
            refine lv_goto (tgt := 102) hx hb dX6_read_98 (by decide) ?_
            exact Jv_12 _ (by rw [if_neg c_13])
        subst ev_12
        refine lv_iadd hx hb dX6_read_102 ?_
        refine lv_istore (lv' := [(4, .int (zz + (if (bI (pRead num sz (co, gu, kn, fo, sp, ki, pl, ea, to, qu) x0 x1 cd)) = 0 then 0 else 1 : Int32))), (0, .ref (b 0)), (1, .int x0), (2, .int x1), (5, .int (nI cd))]) hx hb dX6_read_103 hl (by decide) rfl (fun ls hl => ?_)
        refine lv_aload_n hx hb dX6_read_105 rfl (lv_at hl 1 rfl) ?_
        refine lv_iconst (v := 0) hx hb dX6_read_106 (by decide) ?_
        refine lv_aload_n hx hb dX6_read_107 rfl (lv_at hl 1 rfl) ?_
        refine va_get (ci := 4) (v := .ref (b 5)) (C := RX6) (T := TX6) (N := 20) hx hb hts inX6 hown hK hP 0 rfl rfl 4 (by decide) f22 (fun _ h9 => h9) rfl dX6_read_108 ?_
        refine callMv (va_runV (As := [.int 0, .ref (b 5)]) (rest := []) ⟨hx, hb, hml, hown, hts⟩ (k_X6_moveAll_b10 l D cI cL cS b (sCo S_10) (sGu S_10) (sKn S_10) (sFo S_10) (sSp S_10) (sKi S_10) (sPl S_10) (sEa S_10) (sTo S_10) (sQu S_10) fd mo_11 tr tp tm so bg te wd va gd bo sz (flat4 num) le im bf ik co gu kn fo sp ki pl ea to qu (va_DT (hD _ rfl) rfl)) (cwV 2 hts gX6_read_X6_moveAll rfl rfl rfl (by decide +kernel) ⟨Nat.le_of_ble_eq_true rfl, Nat.le_of_ble_eq_true rfl⟩) ⟨PcR_fb, va_recv hK hP (ci := 4) (q0 := 0) rfl rfl, PcR_pre hP hK⟩ rfl rfl hl.1 rfl (lv_room (Nat.le_of_ble_eq_true rfl)) dX6_read_111 ⟨Nat.zero_le _, Nat.zero_le _⟩) hP (hD _ rfl) hS 0 13 rfl (fun u_14 H locs hu_14 hP hS => ?_)
        have hP : va_P D vwCl (mdw cI cL b (enc co gu kn fo sp ki pl ea to qu) fd mo_11 tr (enc co gu kn fo sp ki pl ea to qu) tp tm so bg te wd va gd bo sz (flat4 num) le im bf ik) H := hP
        refine lv_iinc (v := nI (cd + 1)) (lv' := [(5, .int (nI (cd + 1))), (4, .int (zz + (if (bI (pRead num sz (co, gu, kn, fo, sp, ki, pl, ea, to, qu) x0 x1 cd)) = 0 then 0 else 1 : Int32))), (0, .ref (b 0)), (1, .int x0), (2, .int x1)]) hx hb dX6_read_114 hl (k := 4) rfl (nI_1 _) (by decide) rfl (fun ls hl => ?_)
        refine lv_goto (tgt := 46) hx hb dX6_read_117 (by decide) ?_
        exact ih (n - 1) (by omega) ((cd + 1, (zz + (if (bI (pRead num sz (co, gu, kn, fo, sp, ki, pl, ea, to, qu) x0 x1 cd)) = 0 then 0 else 1 : Int32)), mo_11)) H locs ls ⟨by omega, cnt_if hi1, hP, hS, lv_sub hl [2, 3, 4, 1, 0] rfl⟩
    · skip
      have c_2b := bI_0 c_2
      refine lv_aload_n hx hb dX6_read_24 rfl (lv_at hl 1 rfl) ?_
      refine lv_ldc hx hb hown k47 dX6_read_25 ?_
      refine callMi (va_runV (As := [.int (-1000000001)]) (rest := []) ⟨hx, hb, hml, hown, hts⟩ (k_X6_finds l D cI cL cS b co gu kn fo sp ki pl ea to qu fd mo tr b1 tp tm so bg te wd va gd bo sz (flat4 num) le im bf ik (-1000000001) (va_DT (hD _ rfl) rfl) (vp_in_iff.mpr (by decide))) (cwV 1 hts gX6_read_X6_finds rfl rfl rfl (by decide +kernel) ⟨Nat.le_of_ble_eq_true rfl, Nat.le_of_ble_eq_true rfl⟩) ⟨PcR_fb, va_recv hK hP (ci := 4) (q0 := 0) rfl rfl, PcR_pre hP hK⟩ rfl rfl hl.1 rfl (lv_room (Nat.le_of_ble_eq_true rfl)) dX6_read_27 ⟨Nat.zero_le _, Nat.zero_le _⟩) hP (hD _ rfl) hS 0 13 rfl (fun r_17 u_16 H locs hu_16 hP hS => ?_)
      obtain ⟨hu_16r, hu_16⟩ := hu_16
      subst hu_16r
      have hP : va_P D vwCl (mdw cI cL b (enc co gu kn fo sp ki pl ea to qu) (bump fd (-1000000001)) mo tr b1 tp tm so bg te wd va gd bo sz (flat4 num) le im bf ik) H := hP
      exact W.iret hx hb hr (fun t ht hW => ⟨⟨_, (mo, b1, bump fd (-1000000001)), rfl, (by have q := (fob_one (σ := (co, gu, kn, fo, sp, ki, pl, ea, to, qu)) (g := x1) hb0).2 c_2b; exact ((iF_f (by rw [q]; decide)).trans (by rw [q])).symm), by dsimp only; rw [ht]; exact hP⟩, hS.F ht⟩) hS.2.2 dX6_read_30
  · skip
    refine lv_aload_n hx hb dX6_read_10 rfl (lv_at hl 1 rfl) ?_
    refine lv_iload_n hx hb dX6_read_11 rfl (lv_at hl 0 rfl) ?_
    refine callMi (va_runV (As := [.int (sBad bo x0)]) (rest := []) ⟨hx, hb, hml, hown, hts⟩ (k_X6_finds l D cI cL cS b co gu kn fo sp ki pl ea to qu fd mo tr b1 tp tm so bg te wd va gd bo sz (flat4 num) le im bf ik (sBad bo x0) (va_DT (hD _ rfl) rfl) (bad_in c_1)) (cwV 1 hts gX6_read_X6_finds rfl rfl rfl (by decide +kernel) ⟨Nat.le_of_ble_eq_true rfl, Nat.le_of_ble_eq_true rfl⟩) ⟨PcR_fb, va_recv hK hP (ci := 4) (q0 := 0) rfl rfl, PcR_pre hP hK⟩ rfl rfl hl.1 rfl (lv_room (Nat.le_of_ble_eq_true rfl)) dX6_read_12 ⟨Nat.zero_le _, Nat.zero_le _⟩) hP (hD _ rfl) hS 0 13 rfl (fun r_19 u_18 H locs hu_18 hP hS => ?_)
    obtain ⟨hu_18r, hu_18⟩ := hu_18
    subst hu_18r
    have hP : va_P D vwCl (mdw cI cL b (enc co gu kn fo sp ki pl ea to qu) (bump fd (sBad bo x0)) mo tr b1 tp tm so bg te wd va gd bo sz (flat4 num) le im bf ik) H := hP
    exact W.iret hx hb hr (fun t ht hW => ⟨⟨_, (mo, b1, bump fd (sBad bo x0)), rfl, (by have q := bad_fob (σ := (co, gu, kn, fo, sp, ki, pl, ea, to, qu)) (g := x1) c_1; exact ((iF_f q.2).trans (by rw [q.1])).symm), by dsimp only; rw [ht]; exact hP⟩, hS.F ht⟩) hS.2.2 dX6_read_15

set_option maxRecDepth 100000 in
set_option maxHeartbeats 4000000 in
theorem k_X6_copy (l : Launch) (D : va_G) (cI cL cS : ClassId) (b : Nat → Nat) (co gu : Int32) (kn fo sp ki pl ea to qu : FI) (fd : FI) (mo : FI) (tr : FI) (b1 : FI) (tp : FI) (tm : Int32) (so : Int32) (bg : Int32) (te : Int32) (wd : Int64) (va : Int32) (gd : Int32) (bo : FI) (sz : FI) (le : FJ) (im : FI) (bf : FI) (ik : Int32) (num : Nat → FJ) (x0 : Int32) (x1 : Int32) (x2 : Int32) (x3 : Int32) (x4 : Int32) (dj : va_D (fun _ => True) (dj0 b 13)) (oh : okH bo sz) : Met l yX6_copy wsX6_copy { frames := 2, cells := 0, slots := 0, locals := 42 } (PcR D vwCl (tyG cI cL cS) [.ref (b 0), .int x0, .int x1, .int x2, .int x3, .int x4] (mdw cI cL b (enc co gu kn fo sp ki pl ea to qu) fd mo tr b1 tp tm so bg te wd va gd bo sz (flat4 num) le im bf ik)) (va_Qi (fun (r : Int32) (u : FJ × (Nat → FJ) × FI) => (r, u.2.1, u.2.2) = sCopy bo sz num fd x0 x1 x2 x3 x4) (fun u t => va_P D vwCl (mdw cI cL b (enc co gu kn fo sp ki pl ea to qu) u.2.2 mo tr b1 tp tm so bg te wd va gd bo sz (flat4 u.2.1) u.1 im bf ik) t.heap) (Aof (mdw cI cL b (enc co gu kn fo sp ki pl ea to qu) fd mo tr b1 tp tm so bg te wd va gd bo sz (flat4 num) le im bf ik))) 0 0 (Aof (mdw cI cL b (enc co gu kn fo sp ki pl ea to qu) fd mo tr b1 tp tm so bg te wd va gd bo sz (flat4 num) le im bf ik)) := by
  refine Met.ofW (cc := cX6_copy) (maxL := 7) (ret := (some .int)) (by decide) rfl ?_
  intro p e s m args below meth c s₁ B hml hv
  obtain ⟨rfl, hP, hK⟩ := hv
  have hx := B.exec
  have hb := B.bytes
  have hr := B.returns
  have hts := atoms_spec (ws := wsX6_copy) B.pre
  have hown : s.vm.findClass RX6 = some m.cls := findClass_of_methodNamed B.named
  have hlocks := B.notSynchronized
  obtain ⟨A, hAe⟩ : ∃ A, A = Aof (mdw cI cL b (enc co gu kn fo sp ki pl ea to qu) fd mo tr b1 tp tm so bg te wd va gd bo sz (flat4 num) le im bf ik) := ⟨_, rfl⟩
  rw [← hAe]
  have hD : ∀ ws' : va_W, ws'.map Prod.fst = (mdw cI cL b (enc co gu kn fo sp ki pl ea to qu) fd mo tr b1 tp tm so bg te wd va gd bo sz (flat4 num) le im bf ik).map Prod.fst → va_D A ws' := fun ws' e => by rw [hAe]; exact va_D_adr (va_D_self (va_D_adr dj rfl)) e
  have hS : va_S A s.heap s.heap [] := va_S.rf
  have hP : va_P D vwCl (mdw cI cL b (enc co gu kn fo sp ki pl ea to qu) fd mo tr b1 tp tm so bg te wd va gd bo sz (flat4 num) le im bf ik) s.heap := hP
  have hl := lv_entry ([.ref (b 0), .int x0, .int x1, .int x2, .int x3, .int x4]) (n := 7) (Nat.le_of_ble_eq_true rfl)
  rw [lg_entry_eq]
  generalize (lg_sl ([.ref (b 0), .int x0, .int x1, .int x2, .int x3, .int x4]) ++ List.replicate (7 - (lg_sl ([.ref (b 0), .int x0, .int x1, .int x2, .int x3, .int x4])).length) Slot.unset).toArray = ls at hl ⊢
  have hl : lv_has ls 7 [(0, .ref (b 0)), (1, .int x0), (2, .int x1), (3, .int x2), (4, .int x3), (5, .int x4)] := hl
  have k47 := hts (.constant RX6 47 (-1000000001)) (List.mem_of_getElem? (i := 1) rfl)
  have f28 := hts (.fieldLink RX6 28 "KnivesLaidModel" "bitsOf" "[I") (List.mem_of_getElem? (i := 2) rfl)
  have inX6 : ∀ w ∈ u_ws RX6 TX6 20, w ∈ wsX6_copy := in_at 24 _ _ rfl
  have k257 := hts (.constant RX6 257 (-1000000006)) (List.mem_of_getElem? (i := 3) rfl)
  have f34 := hts (.fieldLink RX6 34 "KnivesLaidModel" "sheets" "[J") (List.mem_of_getElem? (i := 6) rfl)
  have f38 := hts (.fieldLink RX6 38 "KnivesLaidModel" "lent" "[J") (List.mem_of_getElem? (i := 5) rfl)
  have k133 := hts (.constant RX6 133 (-1000000003)) (List.mem_of_getElem? (i := 4) rfl)
  skip
  refine lv_iload_n hx hb dX6_copy_0 rfl (lv_at hl 1 rfl) ?_
  refine callE (W.runS (As := [.int x0]) (rest := []) ⟨hx, hb, hml, hown, hts⟩ (k_X6_isSheet l x0) (va_cwS 1 hts gX6_copy_X6_isSheet rfl rfl rfl (by decide +kernel) ⟨Nat.le_of_ble_eq_true rfl, Nat.le_of_ble_eq_true rfl⟩) ⟨PcP_fb, fun U _ _ => ⟨rfl, trivial⟩⟩ rfl rfl hl.1 rfl (lv_room (Nat.le_of_ble_eq_true rfl)) dX6_copy_1 ⟨Nat.zero_le _, Nat.zero_le _⟩) ?_
  refine lv_if_eq (tgt := 14) hx hb dX6_copy_4 (by decide) (fun c_1 => ?_) (fun c_1 => ?_)
  · skip
    have c_1b := bI_0 c_1
    refine lv_aload_n hx hb dX6_copy_14 rfl (lv_at hl 0 rfl) ?_
    refine lv_ldc hx hb hown k47 dX6_copy_15 ?_
    refine callMi (va_runV (As := [.int (-1000000001)]) (rest := []) ⟨hx, hb, hml, hown, hts⟩ (k_X6_finds l D cI cL cS b co gu kn fo sp ki pl ea to qu fd mo tr b1 tp tm so bg te wd va gd bo sz (flat4 num) le im bf ik (-1000000001) (va_DT (hD _ rfl) rfl) (vp_in_iff.mpr (by decide))) (cwV 1 hts gX6_copy_X6_finds rfl rfl rfl (by decide +kernel) ⟨Nat.le_of_ble_eq_true rfl, Nat.le_of_ble_eq_true rfl⟩) ⟨PcR_fb, va_recv hK hP (ci := 4) (q0 := 0) rfl rfl, PcR_pre hP hK⟩ rfl rfl hl.1 rfl (lv_room (Nat.le_of_ble_eq_true rfl)) dX6_copy_17 ⟨Nat.zero_le _, Nat.zero_le _⟩) hP (hD _ rfl) hS 0 13 rfl (fun r_3 u_2 H locs hu_2 hP hS => ?_)
    obtain ⟨hu_2r, hu_2⟩ := hu_2
    subst hu_2r
    have hP : va_P D vwCl (mdw cI cL b (enc co gu kn fo sp ki pl ea to qu) (bump fd (-1000000001)) mo tr b1 tp tm so bg te wd va gd bo sz (flat4 num) le im bf ik) H := hP
    exact W.iret hx hb hr (fun t ht hW => ⟨⟨_, (le, num, bump fd (-1000000001)), rfl, (by exact (iF_f (fun h => by first | exact absurd h.1 c_1b | exact absurd c_1b h.1 | exact absurd h.2 c_1b | exact absurd c_1b h.2)).symm), by dsimp only; rw [ht]; exact hP⟩, hS.F ht⟩) hS.2.2 dX6_copy_20
  · skip
    have c_1b := bI_n c_1
    have hs := c_1b
    refine lv_iload_n hx hb dX6_copy_7 rfl (lv_at hl 3 rfl) ?_
    refine callE (W.runS (As := [.int x2]) (rest := []) ⟨hx, hb, hml, hown, hts⟩ (k_X6_isSheet l x2) (va_cwS 1 hts gX6_copy_X6_isSheet rfl rfl rfl (by decide +kernel) ⟨Nat.le_of_ble_eq_true rfl, Nat.le_of_ble_eq_true rfl⟩) ⟨PcP_fb, fun U _ _ => ⟨rfl, trivial⟩⟩ rfl rfl hl.1 rfl (lv_room (Nat.le_of_ble_eq_true rfl)) dX6_copy_8 ⟨Nat.zero_le _, Nat.zero_le _⟩) ?_
    refine lv_if_ne (tgt := 21) hx hb dX6_copy_11 (by decide) (fun c_4 => ?_) (fun c_4 => ?_)
    · skip
      have c_4b := bI_n c_4
      have htt := c_4b
      refine lv_aload_n hx hb dX6_copy_21 rfl (lv_at hl 0 rfl) ?_
      refine va_get (ci := 4) (v := .ref (b 7)) (C := RX6) (T := TX6) (N := 20) hx hb hts inX6 hown hK hP 0 rfl rfl 13 (by decide) f28 (fun _ h9 => h9) rfl dX6_copy_22 ?_
      refine lv_iload_n hx hb dX6_copy_25 rfl (lv_at hl 1 rfl) ?_
      refine va_iald hx hb hK hP 7 0 rfl rfl hs dX6_copy_26 ?_
      refine lv_if_eq (tgt := 39) hx hb dX6_copy_27 (by decide) (fun c_5 => ?_) (fun c_5 => ?_)
      · skip
        refine lv_aload_n hx hb dX6_copy_39 rfl (lv_at hl 0 rfl) ?_
        refine lv_ldcw hx hb hown k257 dX6_copy_40 ?_
        refine callMi (va_runV (As := [.int (-1000000006)]) (rest := []) ⟨hx, hb, hml, hown, hts⟩ (k_X6_finds l D cI cL cS b co gu kn fo sp ki pl ea to qu fd mo tr b1 tp tm so bg te wd va gd bo sz (flat4 num) le im bf ik (-1000000006) (va_DT (hD _ rfl) rfl) (vp_in_iff.mpr (by decide))) (cwV 1 hts gX6_copy_X6_finds rfl rfl rfl (by decide +kernel) ⟨Nat.le_of_ble_eq_true rfl, Nat.le_of_ble_eq_true rfl⟩) ⟨PcR_fb, va_recv hK hP (ci := 4) (q0 := 0) rfl rfl, PcR_pre hP hK⟩ rfl rfl hl.1 rfl (lv_room (Nat.le_of_ble_eq_true rfl)) dX6_copy_43 ⟨Nat.zero_le _, Nat.zero_le _⟩) hP (hD _ rfl) hS 0 13 rfl (fun r_7 u_6 H locs hu_6 hP hS => ?_)
        obtain ⟨hu_6r, hu_6⟩ := hu_6
        subst hu_6r
        have hP : va_P D vwCl (mdw cI cL b (enc co gu kn fo sp ki pl ea to qu) (bump fd (-1000000006)) mo tr b1 tp tm so bg te wd va gd bo sz (flat4 num) le im bf ik) H := hP
        exact W.iret hx hb hr (fun t ht hW => ⟨⟨_, (le, num, bump fd (-1000000006)), rfl, (by exact ((iF_t ⟨hs, htt⟩).trans (iF_t (Or.inl c_5))).symm), by dsimp only; rw [ht]; exact hP⟩, hS.F ht⟩) hS.2.2 dX6_copy_46
      · skip
        refine lv_aload_n hx hb dX6_copy_30 rfl (lv_at hl 0 rfl) ?_
        refine va_get (ci := 4) (v := .ref (b 7)) (C := RX6) (T := TX6) (N := 20) hx hb hts inX6 hown hK hP 0 rfl rfl 13 (by decide) f28 (fun _ h9 => h9) rfl dX6_copy_31 ?_
        refine lv_iload_n hx hb dX6_copy_34 rfl (lv_at hl 3 rfl) ?_
        refine va_iald hx hb hK hP 7 0 rfl rfl htt dX6_copy_35 ?_
        refine lv_if_ne (tgt := 47) hx hb dX6_copy_36 (by decide) (fun c_8 => ?_) (fun c_8 => ?_)
        · skip
          refine lv_aload_n hx hb dX6_copy_47 rfl (lv_at hl 0 rfl) ?_
          refine va_get (ci := 4) (v := .ref (b 7)) (C := RX6) (T := TX6) (N := 20) hx hb hts inX6 hown hK hP 0 rfl rfl 13 (by decide) f28 (fun _ h9 => h9) rfl dX6_copy_48 ?_
          refine lv_iload_n hx hb dX6_copy_51 rfl (lv_at hl 1 rfl) ?_
          refine va_iald hx hb hK hP 7 0 rfl rfl hs dX6_copy_52 ?_
          refine lv_aload_n hx hb dX6_copy_53 rfl (lv_at hl 0 rfl) ?_
          refine va_get (ci := 4) (v := .ref (b 7)) (C := RX6) (T := TX6) (N := 20) hx hb hts inX6 hown hK hP 0 rfl rfl 13 (by decide) f28 (fun _ h9 => h9) rfl dX6_copy_54 ?_
          refine lv_iload_n hx hb dX6_copy_57 rfl (lv_at hl 3 rfl) ?_
          refine va_iald hx hb hK hP 7 0 rfl rfl htt dX6_copy_58 ?_
          refine lv_icmp_eq (tgt := 69) hx hb dX6_copy_59 (by decide) (fun c_9 => ?_) (fun c_9 => ?_)
          · skip
            refine lv_aload_n hx hb dX6_copy_69 rfl (lv_at hl 0 rfl) ?_
            refine lv_iload_n hx hb dX6_copy_70 rfl (lv_at hl 1 rfl) ?_
            refine lv_iload_n hx hb dX6_copy_71 rfl (lv_at hl 2 rfl) ?_
            refine lv_iload hx hb dX6_copy_72 (lv_at hl 5 rfl) ?_
            refine callE (W.runV (As := [.int x0, .int x1, .int x4]) (rest := []) ⟨hx, hb, hml, hown, hts⟩ (k_X6_isPart_ l D cI cL cS b co gu kn fo sp ki pl ea to qu fd mo tr b1 tp tm so bg te wd va gd bo sz (flat4 num) le im bf ik x0 x1 x4 (by assumption)) (cwV 3 hts gX6_copy_X6_isPart_ rfl rfl rfl (by decide +kernel) ⟨Nat.le_of_ble_eq_true rfl, Nat.le_of_ble_eq_true rfl⟩) ⟨PcR_fb, va_recv hK hP (ci := 4) (q0 := 0) rfl rfl, PcR_pre hP hK⟩ rfl rfl hl.1 rfl (lv_room (Nat.le_of_ble_eq_true rfl)) dX6_copy_74 ⟨Nat.zero_le _, Nat.zero_le _⟩) ?_
            refine lv_if_eq (tgt := 92) hx hb dX6_copy_77 (by decide) (fun c_10 => ?_) (fun c_10 => ?_)
            · skip
              have c_10b := bI_0 c_10
              refine lv_aload_n hx hb dX6_copy_92 rfl (lv_at hl 0 rfl) ?_
              refine lv_ldc hx hb hown k47 dX6_copy_93 ?_
              refine callMi (va_runV (As := [.int (-1000000001)]) (rest := []) ⟨hx, hb, hml, hown, hts⟩ (k_X6_finds l D cI cL cS b co gu kn fo sp ki pl ea to qu fd mo tr b1 tp tm so bg te wd va gd bo sz (flat4 num) le im bf ik (-1000000001) (va_DT (hD _ rfl) rfl) (vp_in_iff.mpr (by decide))) (cwV 1 hts gX6_copy_X6_finds rfl rfl rfl (by decide +kernel) ⟨Nat.le_of_ble_eq_true rfl, Nat.le_of_ble_eq_true rfl⟩) ⟨PcR_fb, va_recv hK hP (ci := 4) (q0 := 0) rfl rfl, PcR_pre hP hK⟩ rfl rfl hl.1 rfl (lv_room (Nat.le_of_ble_eq_true rfl)) dX6_copy_95 ⟨Nat.zero_le _, Nat.zero_le _⟩) hP (hD _ rfl) hS 0 13 rfl (fun r_12 u_11 H locs hu_11 hP hS => ?_)
              obtain ⟨hu_11r, hu_11⟩ := hu_11
              subst hu_11r
              have hP : va_P D vwCl (mdw cI cL b (enc co gu kn fo sp ki pl ea to qu) (bump fd (-1000000001)) mo tr b1 tp tm so bg te wd va gd bo sz (flat4 num) le im bf ik) H := hP
              exact W.iret hx hb hr (fun t ht hW => ⟨⟨_, (le, num, bump fd (-1000000001)), rfl, (by exact ((iF_t ⟨hs, htt⟩).trans ((iF_f (fun h => h.elim c_5 c_8)).trans ((iF_t c_9).trans (iF_f (fun h => by first | exact absurd h.1 c_10b | exact absurd c_10b h.1 | exact absurd h.2 c_10b | exact absurd c_10b h.2))))).symm), by dsimp only; rw [ht]; exact hP⟩, hS.F ht⟩) hS.2.2 dX6_copy_98
            · skip
              have c_10b := bI_n c_10
              have hr1 := c_10b
              refine lv_aload_n hx hb dX6_copy_80 rfl (lv_at hl 0 rfl) ?_
              refine lv_iload_n hx hb dX6_copy_81 rfl (lv_at hl 3 rfl) ?_
              refine lv_iload hx hb dX6_copy_82 (lv_at hl 4 rfl) ?_
              refine lv_iload hx hb dX6_copy_84 (lv_at hl 5 rfl) ?_
              refine callE (W.runV (As := [.int x2, .int x3, .int x4]) (rest := []) ⟨hx, hb, hml, hown, hts⟩ (k_X6_isPart_ l D cI cL cS b co gu kn fo sp ki pl ea to qu fd mo tr b1 tp tm so bg te wd va gd bo sz (flat4 num) le im bf ik x2 x3 x4 (by assumption)) (cwV 3 hts gX6_copy_X6_isPart_ rfl rfl rfl (by decide +kernel) ⟨Nat.le_of_ble_eq_true rfl, Nat.le_of_ble_eq_true rfl⟩) ⟨PcR_fb, va_recv hK hP (ci := 4) (q0 := 0) rfl rfl, PcR_pre hP hK⟩ rfl rfl hl.1 rfl (lv_room (Nat.le_of_ble_eq_true rfl)) dX6_copy_86 ⟨Nat.zero_le _, Nat.zero_le _⟩) ?_
              refine lv_if_ne (tgt := 99) hx hb dX6_copy_89 (by decide) (fun c_13 => ?_) (fun c_13 => ?_)
              · skip
                have c_13b := bI_n c_13
                have hr2 := c_13b
                have q1 := run_in (oh _ (ix_lt (by decide) hs)).1 hr1
                have q2 := run_in (oh _ (ix_lt (by decide) htt)).1 hr2
                have e4 : x4 = nI (ix x4) := (nI_ix (by decide) q1.2.2.1).symm
                have hP : va_P D vwCl (mdw cI cL b (enc co gu kn fo sp ki pl ea to qu) fd mo tr b1 tp tm so bg te wd va gd bo sz (flat4 num) (fa_fill (fun k => num (ix x0) (ix x1 + k)) le 0) im bf ik) s.heap := by rw [fa_fill_0]; exact hP
                refine lv_iconst (v := 0) hx hb dX6_copy_99 (by decide) ?_
                refine lv_istore (lv' := [(6, .int 0), (0, .ref (b 0)), (1, .int x0), (2, .int x1), (3, .int x2), (4, .int x3), (5, .int x4)]) hx hb dX6_copy_100 hl (by decide) rfl (fun ls hl => ?_)
                refine lpW (fun n (u : Nat) H locs ls => (u + n = ix x4) ∧ va_P D vwCl (mdw cI cL b (enc co gu kn fo sp ki pl ea to qu) fd mo tr b1 tp tm so bg te wd va gd bo sz (flat4 num) (fa_fill (fun k => num (ix x0) (ix x1 + k)) le u) im bf ik) H ∧ va_S A s.heap H locs ∧ lv_has ls 7 [(0, .ref (b 0)), (1, .int x0), (2, .int x1), (3, .int x2), (4, .int x3), (5, .int x4), (6, .int (nI u))]) (ix x4) (0) ⟨by omega, hP, hS, lv_sub hl [1, 2, 3, 4, 5, 6, 0] rfl⟩ (fun n ih u H locs ls hI => ?_)
                obtain ⟨i, rfl⟩ : ∃ z, z = u := ⟨_, rfl⟩
                obtain ⟨hi0, hP, hS, hl⟩ := hI
                have hi0 : i + n = ix x4 := hi0
                have hl : lv_has ls 7 [(0, .ref (b 0)), (1, .int x0), (2, .int x1), (3, .int x2), (4, .int x3), (5, .int x4), (6, .int (nI i))] := hl
                have hP : va_P D vwCl (mdw cI cL b (enc co gu kn fo sp ki pl ea to qu) fd mo tr b1 tp tm so bg te wd va gd bo sz (flat4 num) (fa_fill (fun k => num (ix x0) (ix x1 + k)) le i) im bf ik) H := hP
                have hix : ix (nI i) = i := ix_nI (by omega)
                refine lv_iload hx hb dX6_copy_102 (lv_at hl 6 rfl) ?_
                refine lv_iload hx hb dX6_copy_104 (lv_at hl 5 rfl) ?_
                refine lv_icmp_ge (tgt := 136) hx hb dX6_copy_106 (by decide) (fun c_14 => ?_) (fun c_14 => ?_)
                · skip
                  have c_14n := (cmp_le (a := ix x4) (b := i) e4 rfl (by omega) (by omega)).mp c_14
                  have hP : va_P D vwCl (mdw cI cL b (enc co gu kn fo sp ki pl ea to qu) fd mo tr b1 tp tm so bg te wd va gd bo sz (flat4 (va_up num (ix x2) (va_cpy (num (ix x0)) (num (ix x2)) (ix x1) (ix x3) 0))) (fa_fill (fun k => num (ix x0) (ix x1 + k)) le i) im bf ik) H := by rw [cpy_0, va_up_id]; exact hP
                  refine lv_iconst (v := 0) hx hb dX6_copy_136 (by decide) ?_
                  refine lv_istore (lv' := [(6, .int 0), (0, .ref (b 0)), (1, .int x0), (2, .int x1), (3, .int x2), (4, .int x3), (5, .int x4)]) hx hb dX6_copy_137 hl (by decide) rfl (fun ls hl => ?_)
                  refine lpW (fun n (u : Nat) H locs ls => (u + n = ix x4) ∧ va_P D vwCl (mdw cI cL b (enc co gu kn fo sp ki pl ea to qu) fd mo tr b1 tp tm so bg te wd va gd bo sz (flat4 (va_up num (ix x2) (va_cpy (num (ix x0)) (num (ix x2)) (ix x1) (ix x3) u))) (fa_fill (fun k => num (ix x0) (ix x1 + k)) le i) im bf ik) H ∧ va_S A s.heap H locs ∧ lv_has ls 7 [(0, .ref (b 0)), (1, .int x0), (2, .int x1), (3, .int x2), (4, .int x3), (5, .int x4), (6, .int (nI u))]) (ix x4) (0) ⟨by omega, hP, hS, lv_sub hl [1, 2, 3, 4, 5, 6, 0] rfl⟩ (fun n ih u H locs ls hI => ?_)
                  obtain ⟨j, rfl⟩ : ∃ z, z = u := ⟨_, rfl⟩
                  obtain ⟨hj0, hP, hS, hl⟩ := hI
                  have hj0 : j + n = ix x4 := hj0
                  have hl : lv_has ls 7 [(0, .ref (b 0)), (1, .int x0), (2, .int x1), (3, .int x2), (4, .int x3), (5, .int x4), (6, .int (nI j))] := hl
                  have hP : va_P D vwCl (mdw cI cL b (enc co gu kn fo sp ki pl ea to qu) fd mo tr b1 tp tm so bg te wd va gd bo sz (flat4 (va_up num (ix x2) (va_cpy (num (ix x0)) (num (ix x2)) (ix x1) (ix x3) j))) (fa_fill (fun k => num (ix x0) (ix x1 + k)) le i) im bf ik) H := hP
                  have hjx : ix (nI j) = j := ix_nI (by omega)
                  refine lv_iload hx hb dX6_copy_139 (lv_at hl 6 rfl) ?_
                  refine lv_iload hx hb dX6_copy_141 (lv_at hl 5 rfl) ?_
                  refine lv_icmp_ge (tgt := 174) hx hb dX6_copy_143 (by decide) (fun c_15 => ?_) (fun c_15 => ?_)
                  · skip
                    have c_15n := (cmp_le (a := ix x4) (b := j) e4 rfl (by omega) (by omega)).mp c_15
                    have hP : va_P D vwCl (mdw cI cL b (enc co gu kn fo sp ki pl ea to qu) fd mo tr b1 tp tm so bg te wd va gd bo sz (flat4 (va_up num (ix x2) (va_cpy (num (ix x0)) (num (ix x2)) (ix x1) (ix x3) (ix x4)))) (fa_fill (fun k => num (ix x0) (ix x1 + k)) le i) im bf ik) H := by rw [show j = ix x4 by omega] at hP; exact hP
                    refine lv_iload hx hb dX6_copy_174 (lv_at hl 5 rfl) ?_
                    exact W.iret hx hb hr (fun t ht hW => ⟨⟨_, ((fa_fill (fun k => num (ix x0) (ix x1 + k)) le i), (va_up num (ix x2) (va_cpy (num (ix x0)) (num (ix x2)) (ix x1) (ix x3) (ix x4))), fd), rfl, (by exact ((iF_t ⟨hs, htt⟩).trans ((iF_f (fun h => h.elim c_5 c_8)).trans ((iF_t c_9).trans (iF_t ⟨hr1, hr2⟩)))).symm), by dsimp only; rw [ht]; exact hP⟩, hS.F ht⟩) hS.2.2 dX6_copy_176
                  · skip
                    have c_15n := mt (cmp_le (a := ix x4) (b := j) e4 rfl (by omega) (by omega)).mpr c_15
                    refine lv_aload_n hx hb dX6_copy_146 rfl (lv_at hl 0 rfl) ?_
                    refine va_get (ci := 4) (v := .ref (b 9)) (C := RX6) (T := TX6) (N := 20) hx hb hts inX6 hown hK hP 0 rfl rfl 15 (by decide) f34 (fun _ h9 => h9) rfl dX6_copy_147 ?_
                    refine lv_bipush (v := 40) hx hb dX6_copy_150 (by decide) ?_
                    refine lv_iload_n hx hb dX6_copy_152 rfl (lv_at hl 3 rfl) ?_
                    refine lv_imul hx hb dX6_copy_153 ?_
                    refine lv_iload hx hb dX6_copy_154 (lv_at hl 4 rfl) ?_
                    refine lv_iadd hx hb dX6_copy_156 ?_
                    refine lv_iload hx hb dX6_copy_157 (lv_at hl 6 rfl) ?_
                    refine lv_iadd hx hb dX6_copy_159 ?_
                    refine lv_aload_n hx hb dX6_copy_160 rfl (lv_at hl 0 rfl) ?_
                    refine va_get (ci := 4) (v := .ref (b 10)) (C := RX6) (T := TX6) (N := 20) hx hb hts inX6 hown hK hP 0 rfl rfl 16 (by decide) f38 (fun _ h9 => h9) rfl dX6_copy_161 ?_
                    refine lv_iload hx hb dX6_copy_164 (lv_at hl 6 rfl) ?_
                    refine va_lald hx hb hK hP 10 1 rfl rfl (vp_in_nI (by omega) (by decide)) dX6_copy_166 ?_
                    refine lv_toL (y := num (ix x0) (ix x1 + j)) (by rw [show (nI j).toNatClampNeg = j from hjx]; exact fa_fill_in (by omega)) ?_
                    refine va_last hx hb hK hP (hD _ rfl) hS 9 1 rfl rfl ((ix43 htt q2.2.2.2 (vp_in_nI (by omega) (by decide)) (by rw [hjx]; omega)).2) dX6_copy_167 (fun H locs hP _ hS => ?_)
                    have hP : va_P D vwCl (mdw cI cL b (enc co gu kn fo sp ki pl ea to qu) fd mo tr b1 tp tm so bg te wd va gd bo sz (flat4 (va_up num (ix x2) (va_cpy (num (ix x0)) (num (ix x2)) (ix x1) (ix x3) (j + 1)))) (fa_fill (fun k => num (ix x0) (ix x1 + k)) le i) im bf ik) H := by have q := flat_wr3 (num := va_up num (ix x2) (va_cpy (num (ix x0)) (num (ix x2)) (ix x1) (ix x3) j)) (v := num (ix x0) (ix x1 + j)) htt q2.2.2.2 (vp_in_nI (n := j) (N := 41) (by omega) (by decide)) (by rw [hjx]; omega); rw [hjx, bx_uu, va_up_self, cpy_s] at q; rw [← q]; exact hP
                    refine lv_iinc (v := nI (j + 1)) (lv' := [(6, .int (nI (j + 1))), (0, .ref (b 0)), (1, .int x0), (2, .int x1), (3, .int x2), (4, .int x3), (5, .int x4)]) hx hb dX6_copy_168 hl (k := 6) rfl (nI_1 _) (by decide) rfl (fun ls hl => ?_)
                    refine lv_goto (tgt := 139) hx hb dX6_copy_171 (by decide) ?_
                    exact ih (n - 1) (by omega) (j + 1) H locs ls ⟨by omega, hP, hS, lv_sub hl [1, 2, 3, 4, 5, 6, 0] rfl⟩
                · skip
                  have c_14n := mt (cmp_le (a := ix x4) (b := i) e4 rfl (by omega) (by omega)).mpr c_14
                  refine lv_aload_n hx hb dX6_copy_109 rfl (lv_at hl 0 rfl) ?_
                  refine va_get (ci := 4) (v := .ref (b 10)) (C := RX6) (T := TX6) (N := 20) hx hb hts inX6 hown hK hP 0 rfl rfl 16 (by decide) f38 (fun _ h9 => h9) rfl dX6_copy_110 ?_
                  refine lv_iload hx hb dX6_copy_113 (lv_at hl 6 rfl) ?_
                  refine lv_aload_n hx hb dX6_copy_115 rfl (lv_at hl 0 rfl) ?_
                  refine va_get (ci := 4) (v := .ref (b 9)) (C := RX6) (T := TX6) (N := 20) hx hb hts inX6 hown hK hP 0 rfl rfl 15 (by decide) f34 (fun _ h9 => h9) rfl dX6_copy_116 ?_
                  refine lv_bipush (v := 40) hx hb dX6_copy_119 (by decide) ?_
                  refine lv_iload_n hx hb dX6_copy_121 rfl (lv_at hl 1 rfl) ?_
                  refine lv_imul hx hb dX6_copy_122 ?_
                  refine lv_iload_n hx hb dX6_copy_123 rfl (lv_at hl 2 rfl) ?_
                  refine lv_iadd hx hb dX6_copy_124 ?_
                  refine lv_iload hx hb dX6_copy_125 (lv_at hl 6 rfl) ?_
                  refine lv_iadd hx hb dX6_copy_127 ?_
                  refine va_lald hx hb hK hP 9 1 rfl rfl ((ix43 hs q1.2.2.2 (vp_in_nI (by omega) (by decide)) (by rw [hix]; omega)).2) dX6_copy_128 ?_
                  refine lv_toL (y := num (ix x0) (ix x1 + i)) ((flat_rd3 hs q1.2.2.2 (vp_in_nI (by omega) (by decide)) (by rw [hix]; omega)).trans (by rw [hix])) ?_
                  refine va_last hx hb hK hP (hD _ rfl) hS 10 1 rfl rfl (vp_in_nI (by omega) (by decide)) dX6_copy_129 (fun H locs hP _ hS => ?_)
                  have hP : va_P D vwCl (mdw cI cL b (enc co gu kn fo sp ki pl ea to qu) fd mo tr b1 tp tm so bg te wd va gd bo sz (flat4 num) (fa_fill (fun k => num (ix x0) (ix x1 + k)) le (i + 1)) im bf ik) H := by rw [← fillL_succ]; rw [show (nI i).toNatClampNeg = i from hix] at hP; exact hP
                  refine lv_iinc (v := nI (i + 1)) (lv' := [(6, .int (nI (i + 1))), (0, .ref (b 0)), (1, .int x0), (2, .int x1), (3, .int x2), (4, .int x3), (5, .int x4)]) hx hb dX6_copy_130 hl (k := 6) rfl (nI_1 _) (by decide) rfl (fun ls hl => ?_)
                  refine lv_goto (tgt := 102) hx hb dX6_copy_133 (by decide) ?_
                  exact ih (n - 1) (by omega) (i + 1) H locs ls ⟨by omega, hP, hS, lv_sub hl [1, 2, 3, 4, 5, 6, 0] rfl⟩
              · skip
                have c_13b := bI_0 c_13
                refine lv_aload_n hx hb dX6_copy_92 rfl (lv_at hl 0 rfl) ?_
                refine lv_ldc hx hb hown k47 dX6_copy_93 ?_
                refine callMi (va_runV (As := [.int (-1000000001)]) (rest := []) ⟨hx, hb, hml, hown, hts⟩ (k_X6_finds l D cI cL cS b co gu kn fo sp ki pl ea to qu fd mo tr b1 tp tm so bg te wd va gd bo sz (flat4 num) le im bf ik (-1000000001) (va_DT (hD _ rfl) rfl) (vp_in_iff.mpr (by decide))) (cwV 1 hts gX6_copy_X6_finds rfl rfl rfl (by decide +kernel) ⟨Nat.le_of_ble_eq_true rfl, Nat.le_of_ble_eq_true rfl⟩) ⟨PcR_fb, va_recv hK hP (ci := 4) (q0 := 0) rfl rfl, PcR_pre hP hK⟩ rfl rfl hl.1 rfl (lv_room (Nat.le_of_ble_eq_true rfl)) dX6_copy_95 ⟨Nat.zero_le _, Nat.zero_le _⟩) hP (hD _ rfl) hS 0 13 rfl (fun r_17 u_16 H locs hu_16 hP hS => ?_)
                obtain ⟨hu_16r, hu_16⟩ := hu_16
                subst hu_16r
                have hP : va_P D vwCl (mdw cI cL b (enc co gu kn fo sp ki pl ea to qu) (bump fd (-1000000001)) mo tr b1 tp tm so bg te wd va gd bo sz (flat4 num) le im bf ik) H := hP
                exact W.iret hx hb hr (fun t ht hW => ⟨⟨_, (le, num, bump fd (-1000000001)), rfl, (by exact ((iF_t ⟨hs, htt⟩).trans ((iF_f (fun h => h.elim c_5 c_8)).trans ((iF_t c_9).trans (iF_f (fun h => by first | exact absurd h.1 c_13b | exact absurd c_13b h.1 | exact absurd h.2 c_13b | exact absurd c_13b h.2))))).symm), by dsimp only; rw [ht]; exact hP⟩, hS.F ht⟩) hS.2.2 dX6_copy_98
          · skip
            refine lv_aload_n hx hb dX6_copy_62 rfl (lv_at hl 0 rfl) ?_
            refine lv_ldc hx hb hown k133 dX6_copy_63 ?_
            refine callMi (va_runV (As := [.int (-1000000003)]) (rest := []) ⟨hx, hb, hml, hown, hts⟩ (k_X6_finds l D cI cL cS b co gu kn fo sp ki pl ea to qu fd mo tr b1 tp tm so bg te wd va gd bo sz (flat4 num) le im bf ik (-1000000003) (va_DT (hD _ rfl) rfl) (vp_in_iff.mpr (by decide))) (cwV 1 hts gX6_copy_X6_finds rfl rfl rfl (by decide +kernel) ⟨Nat.le_of_ble_eq_true rfl, Nat.le_of_ble_eq_true rfl⟩) ⟨PcR_fb, va_recv hK hP (ci := 4) (q0 := 0) rfl rfl, PcR_pre hP hK⟩ rfl rfl hl.1 rfl (lv_room (Nat.le_of_ble_eq_true rfl)) dX6_copy_65 ⟨Nat.zero_le _, Nat.zero_le _⟩) hP (hD _ rfl) hS 0 13 rfl (fun r_19 u_18 H locs hu_18 hP hS => ?_)
            obtain ⟨hu_18r, hu_18⟩ := hu_18
            subst hu_18r
            have hP : va_P D vwCl (mdw cI cL b (enc co gu kn fo sp ki pl ea to qu) (bump fd (-1000000003)) mo tr b1 tp tm so bg te wd va gd bo sz (flat4 num) le im bf ik) H := hP
            exact W.iret hx hb hr (fun t ht hW => ⟨⟨_, (le, num, bump fd (-1000000003)), rfl, (by exact ((iF_t ⟨hs, htt⟩).trans ((iF_f (fun h => h.elim c_5 c_8)).trans (iF_f c_9))).symm), by dsimp only; rw [ht]; exact hP⟩, hS.F ht⟩) hS.2.2 dX6_copy_68
        · skip
          refine lv_aload_n hx hb dX6_copy_39 rfl (lv_at hl 0 rfl) ?_
          refine lv_ldcw hx hb hown k257 dX6_copy_40 ?_
          refine callMi (va_runV (As := [.int (-1000000006)]) (rest := []) ⟨hx, hb, hml, hown, hts⟩ (k_X6_finds l D cI cL cS b co gu kn fo sp ki pl ea to qu fd mo tr b1 tp tm so bg te wd va gd bo sz (flat4 num) le im bf ik (-1000000006) (va_DT (hD _ rfl) rfl) (vp_in_iff.mpr (by decide))) (cwV 1 hts gX6_copy_X6_finds rfl rfl rfl (by decide +kernel) ⟨Nat.le_of_ble_eq_true rfl, Nat.le_of_ble_eq_true rfl⟩) ⟨PcR_fb, va_recv hK hP (ci := 4) (q0 := 0) rfl rfl, PcR_pre hP hK⟩ rfl rfl hl.1 rfl (lv_room (Nat.le_of_ble_eq_true rfl)) dX6_copy_43 ⟨Nat.zero_le _, Nat.zero_le _⟩) hP (hD _ rfl) hS 0 13 rfl (fun r_21 u_20 H locs hu_20 hP hS => ?_)
          obtain ⟨hu_20r, hu_20⟩ := hu_20
          subst hu_20r
          have hP : va_P D vwCl (mdw cI cL b (enc co gu kn fo sp ki pl ea to qu) (bump fd (-1000000006)) mo tr b1 tp tm so bg te wd va gd bo sz (flat4 num) le im bf ik) H := hP
          exact W.iret hx hb hr (fun t ht hW => ⟨⟨_, (le, num, bump fd (-1000000006)), rfl, (by exact ((iF_t ⟨hs, htt⟩).trans (iF_t (Or.inr c_8))).symm), by dsimp only; rw [ht]; exact hP⟩, hS.F ht⟩) hS.2.2 dX6_copy_46
    · skip
      have c_4b := bI_0 c_4
      refine lv_aload_n hx hb dX6_copy_14 rfl (lv_at hl 0 rfl) ?_
      refine lv_ldc hx hb hown k47 dX6_copy_15 ?_
      refine callMi (va_runV (As := [.int (-1000000001)]) (rest := []) ⟨hx, hb, hml, hown, hts⟩ (k_X6_finds l D cI cL cS b co gu kn fo sp ki pl ea to qu fd mo tr b1 tp tm so bg te wd va gd bo sz (flat4 num) le im bf ik (-1000000001) (va_DT (hD _ rfl) rfl) (vp_in_iff.mpr (by decide))) (cwV 1 hts gX6_copy_X6_finds rfl rfl rfl (by decide +kernel) ⟨Nat.le_of_ble_eq_true rfl, Nat.le_of_ble_eq_true rfl⟩) ⟨PcR_fb, va_recv hK hP (ci := 4) (q0 := 0) rfl rfl, PcR_pre hP hK⟩ rfl rfl hl.1 rfl (lv_room (Nat.le_of_ble_eq_true rfl)) dX6_copy_17 ⟨Nat.zero_le _, Nat.zero_le _⟩) hP (hD _ rfl) hS 0 13 rfl (fun r_23 u_22 H locs hu_22 hP hS => ?_)
      obtain ⟨hu_22r, hu_22⟩ := hu_22
      subst hu_22r
      have hP : va_P D vwCl (mdw cI cL b (enc co gu kn fo sp ki pl ea to qu) (bump fd (-1000000001)) mo tr b1 tp tm so bg te wd va gd bo sz (flat4 num) le im bf ik) H := hP
      exact W.iret hx hb hr (fun t ht hW => ⟨⟨_, (le, num, bump fd (-1000000001)), rfl, (by exact (iF_f (fun h => by first | exact absurd h.1 c_4b | exact absurd c_4b h.1 | exact absurd h.2 c_4b | exact absurd c_4b h.2)).symm), by dsimp only; rw [ht]; exact hP⟩, hS.F ht⟩) hS.2.2 dX6_copy_20
