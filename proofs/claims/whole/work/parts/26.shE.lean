set_option maxRecDepth 100000 in
set_option maxHeartbeats 4000000 in
theorem k_X5_trialGoesAs_0 (l : Launch) (D : va_G) (cI cL cS : ClassId) (b : Nat → Nat → Nat) (s1 : Sg) (w1 m1 n1 : FI) (s2 : Sg) (w2 m2 n2 : FI) (s3 : Sg) (w3 m3 n3 : FI) (ik : Int32) (bt : FI) (ln tk sb en nm : Int32) (bits size : FI) (num : Nat → FJ) (fnd : FI) (x1 : Int32) (dj : va_D (fun _ => True) (djk b)) (o2 : okS s2 w2) (hz : size 0 = nI (ix (size 0)) ∧ ix (size 0) ≤ 40) (h8 : vp_in x1 8) : Met l yX5_trialGoesAs wsX5_trialGoesAs { frames := 4, cells := 0, slots := 0, locals := 89 } (PcR D vwCl (tyG cI cL cS) [.ref (b 0 0), .ref (b 7 0), .int x1] (kcw cI cL cS b s1 w1 m1 n1 s2 w2 m2 n2 s3 w3 m3 n3 ik bt ln tk sb en nm bits size num fnd)) (va_Qi (fun (r : Int32) (u : Sg × FI × FI) => r = bI (pGoes (num 0) (ix (size 0)) s2 x1)) (fun u t => va_P D vwCl (kcw cI cL cS b s1 w1 m1 n1 u.1 w2 u.2.1 u.2.2 s3 w3 m3 n3 ik bt ln tk sb en nm bits size num fnd) t.heap) (Aof (kcw cI cL cS b s1 w1 m1 n1 s2 w2 m2 n2 s3 w3 m3 n3 ik bt ln tk sb en nm bits size num fnd))) 0 0 (Aof (kcw cI cL cS b s1 w1 m1 n1 s2 w2 m2 n2 s3 w3 m3 n3 ik bt ln tk sb en nm bits size num fnd)) := by
  refine Met.ofW (cc := cX5_trialGoesAs) (maxL := 4) (ret := (some .boolean)) (by decide) rfl ?_
  intro p e s m args below meth c s₁ B hml hv
  obtain ⟨rfl, hP, hK⟩ := hv
  have hx := B.exec
  have hb := B.bytes
  have hr := B.returns
  have hts := atoms_spec (ws := wsX5_trialGoesAs) B.pre
  have hown : s.vm.findClass RX5 = some m.cls := findClass_of_methodNamed B.named
  have hlocks := B.notSynchronized
  obtain ⟨A, hAe⟩ : ∃ A, A = Aof (kcw cI cL cS b s1 w1 m1 n1 s2 w2 m2 n2 s3 w3 m3 n3 ik bt ln tk sb en nm bits size num fnd) := ⟨_, rfl⟩
  rw [← hAe]
  have hD : ∀ ws' : va_W, ws'.map Prod.fst = (kcw cI cL cS b s1 w1 m1 n1 s2 w2 m2 n2 s3 w3 m3 n3 ik bt ln tk sb en nm bits size num fnd).map Prod.fst → va_D A ws' := fun ws' e => by rw [hAe]; exact va_D_adr (va_D_self (va_D_adr dj rfl)) e
  have hS : va_S A s.heap s.heap [] := va_S.rf
  have hP : va_P D vwCl (kcw cI cL cS b s1 w1 m1 n1 s2 w2 m2 n2 s3 w3 m3 n3 ik bt ln tk sb en nm bits size num fnd) s.heap := hP
  have hl := lv_entry ([.ref (b 0 0), .ref (b 7 0), .int x1]) (n := 4) (Nat.le_of_ble_eq_true rfl)
  rw [lg_entry_eq]
  generalize (lg_sl ([.ref (b 0 0), .ref (b 7 0), .int x1]) ++ List.replicate (4 - (lg_sl ([.ref (b 0 0), .ref (b 7 0), .int x1])).length) Slot.unset).toArray = ls at hl ⊢
  have hl : lv_has ls 4 [(0, .ref (b 0 0)), (1, .ref (b 7 0)), (2, .int x1)] := hl
  have f16 := hts (.fieldLink RX5 16 "KnivesLaid" "trial" "LKnivesLaid$Table;") (List.mem_of_getElem? (i := 1) rfl)
  have inX5 : ∀ w ∈ u_ws RX5 TX5 7, w ∈ wsX5_trialGoesAs := in_at 91 _ _ rfl
  have f189 := hts (.fieldLink RX5 189 "KnivesLaid$Sheet" "size" "I") (List.mem_of_getElem? (i := 2) rfl)
  have inX2 : ∀ w ∈ u_ws RX2 TX2 3, w ∈ wsX5_trialGoesAs := in_at 98 _ _ rfl
  have f198 := hts (.fieldLink RX5 198 "KnivesLaid$Sheet" "numbers" "[J") (List.mem_of_getElem? (i := 3) rfl)
  have f107 := hts (.fieldLink RX5 107 "KnivesLaid$Table" "ease" "[I") (List.mem_of_getElem? (i := 4) rfl)
  have inX3 : ∀ w ∈ u_ws RX3 TX3 13, w ∈ wsX5_trialGoesAs := in_at 101 _ _ rfl
  skip
  refine lv_aload_n hx hb dX5_trialGoesAs_0 rfl (lv_at hl 0 rfl) ?_
  refine va_get (ci := 3) (v := .ref (b 2 0)) (C := RX5) (T := TX5) (N := 7) hx hb hts inX5 hown hK hP 0 rfl rfl 1 (by decide) f16 (fun _ h9 => h9) rfl dX5_trialGoesAs_1 ?_
  refine callMv (va_runV (As := []) (rest := []) ⟨hx, hb, hml, hown, hts⟩ (k_X3_findMore l D cI cL cS (b 2) (sCo s2) (sGu s2) (sKn s2) (sFo s2) (sSp s2) w2 (sKi s2) (sPl s2) (sEa s2) (sTo s2) (sQu s2) m2 n2 (va_DT (va_segD (hD _ rfl) 13 12 rfl) rfl) o2.1) (cwV 0 hts gX5_trialGoesAs_X3_findMore rfl rfl rfl (by decide +kernel) ⟨Nat.le_of_ble_eq_true rfl, Nat.le_of_ble_eq_true rfl⟩) ⟨PcR_fb, va_recv hK hP (ci := 1) (q0 := 13) rfl rfl, PcR_pre (va_seg hP 13 12 rfl) hK⟩ rfl rfl hl.1 rfl (lv_room (Nat.le_of_ble_eq_true rfl)) dX5_trialGoesAs_4 ⟨Nat.zero_le _, Nat.zero_le _⟩) hP (hD _ rfl) hS 13 12 rfl (fun u_1 H locs hu_1 hP hS => ?_)
  obtain ⟨mo_3, ne_4⟩ := u_1
  have hu_1 : (∀ g, g < ix (sGu s2) → mo_3 g = sMore (sGu s2) (sKn s2) (sFo s2) (sSp s2) (sKi s2) (sPl s2) g) ∧ (∀ g, g < ix (sGu s2) → ne_4 g = sNear (sGu s2) (sPl s2) g) := hu_1
  have hMN := hu_1
  have hP : va_P D vwCl (kcw cI cL cS b s1 w1 m1 n1 s2 w2 mo_3 ne_4 s3 w3 m3 n3 ik bt ln tk sb en nm bits size num fnd) H := hP
  have hP : va_P D vwCl (kcw cI cL cS b s1 w1 m1 n1 (sPass 0 s2) w2 mo_3 ne_4 s3 w3 m3 n3 ik bt ln tk sb en nm bits size num fnd) H := by exact hP
  refine lv_iconst (v := 0) hx hb dX5_trialGoesAs_7 (by decide) ?_
  refine lv_istore_n (lv' := [(3, .int 0), (0, .ref (b 0 0)), (1, .ref (b 7 0)), (2, .int x1)]) hx hb dX5_trialGoesAs_8 rfl hl (by decide) rfl (fun ls hl => ?_)
  refine lpW (fun n (u : Nat) H locs ls => (u + n = ix (size 0)) ∧ (∀ k, k < u → num 0 k = (sEa (sPass k s2) (ix x1)).toInt64) ∧ va_P D vwCl (kcw cI cL cS b s1 w1 m1 n1 (sPass u s2) w2 mo_3 ne_4 s3 w3 m3 n3 ik bt ln tk sb en nm bits size num fnd) H ∧ va_S A s.heap H locs ∧ lv_has ls 4 [(0, .ref (b 0 0)), (1, .ref (b 7 0)), (2, .int x1), (3, .int (nI u))]) (ix (size 0)) (0) ⟨by omega, fun k hk => absurd hk (Nat.not_lt_zero k), hP, hS, lv_sub hl [1, 2, 3, 0] rfl⟩ (fun n ih u H locs ls hI => ?_)
  obtain ⟨i, rfl⟩ : ∃ z, z = u := ⟨_, rfl⟩
  obtain ⟨hi0, hi1, hP, hS, hl⟩ := hI
  have hi0 : i + n = ix (size 0) := hi0
  have hi1 : ∀ k, k < i → num 0 k = (sEa (sPass k s2) (ix x1)).toInt64 := hi1
  have hl : lv_has ls 4 [(0, .ref (b 0 0)), (1, .ref (b 7 0)), (2, .int x1), (3, .int (nI i))] := hl
  have hP : va_P D vwCl (kcw cI cL cS b s1 w1 m1 n1 (sPass i s2) w2 mo_3 ne_4 s3 w3 m3 n3 ik bt ln tk sb en nm bits size num fnd) H := hP
  have hix : ix (nI i) = i := ix_nI (by omega)
  refine lv_iload_n hx hb dX5_trialGoesAs_9 rfl (lv_at hl 3 rfl) ?_
  refine lv_aload_n hx hb dX5_trialGoesAs_10 rfl (lv_at hl 1 rfl) ?_
  refine va_get (ci := 0) (v := .int (size 0)) (C := RX2) (T := TX2) (N := 3) hx hb hts inX2 hown hK hP 40 rfl rfl 1 (by decide) f189 (fun _ h9 => h9) rfl dX5_trialGoesAs_11 ?_
  refine lv_icmp_ge (tgt := 52) hx hb dX5_trialGoesAs_14 (by decide) (fun c_5 => ?_) (fun c_5 => ?_)
  · skip
    have c_5n := (cmp_le (a := ix (size 0)) (b := i) hz.1 rfl (by omega) (by omega)).mp c_5
    refine lv_iconst (v := 1) hx hb dX5_trialGoesAs_52 (by decide) ?_
    exact W.zret (ty := .boolean) hx hb hr rfl (fun t ht hW => ⟨⟨_, (sPass i s2, mo_3, ne_4), rfl, (by exact (bI_t (fun k hk => hi1 k (by omega))).symm), by dsimp only; rw [ht]; exact hP⟩, hS.F ht⟩) hS.2.2 dX5_trialGoesAs_53
  · skip
    have c_5n := mt (cmp_le (a := ix (size 0)) (b := i) hz.1 rfl (by omega) (by omega)).mpr c_5
    refine lv_aload_n hx hb dX5_trialGoesAs_17 rfl (lv_at hl 1 rfl) ?_
    refine va_get (ci := 0) (v := .ref (b 8 0)) (C := RX2) (T := TX2) (N := 3) hx hb hts inX2 hown hK hP 40 rfl rfl 2 (by decide) f198 (fun _ h9 => h9) rfl dX5_trialGoesAs_18 ?_
    refine lv_iload_n hx hb dX5_trialGoesAs_21 rfl (lv_at hl 3 rfl) ?_
    refine va_lald hx hb hK hP 41 1 rfl rfl (vp_in_nI (by omega) (by omega)) dX5_trialGoesAs_22 ?_
    refine lv_aload_n hx hb dX5_trialGoesAs_23 rfl (lv_at hl 0 rfl) ?_
    refine va_get (ci := 3) (v := .ref (b 2 0)) (C := RX5) (T := TX5) (N := 7) hx hb hts inX5 hown hK hP 0 rfl rfl 1 (by decide) f16 (fun _ h9 => h9) rfl dX5_trialGoesAs_24 ?_
    refine va_get (ci := 1) (v := .ref (b 2 7)) (C := RX3) (T := TX3) (N := 13) hx hb hts inX3 hown hK hP 13 rfl rfl 8 (by decide) f107 (fun _ h9 => h9) rfl dX5_trialGoesAs_27 ?_
    refine lv_iload_n hx hb dX5_trialGoesAs_30 rfl (lv_at hl 2 rfl) ?_
    refine va_iald hx hb hK hP 20 0 rfl rfl (by assumption) dX5_trialGoesAs_31 ?_
    refine lv_i2l (v := ((sEa (sPass i s2)) (ix x1)).toInt64) hx hb dX5_trialGoesAs_32 rfl ?_
    refine W.lcmp hx hb dX5_trialGoesAs_33 ?_
    refine lv_if_eq (tgt := 39) hx hb dX5_trialGoesAs_34 (by decide) (fun c_6 => ?_) (fun c_6 => ?_)
    · skip
      have he := (lg_cmp_eq _ _).mp c_6
      rw [show (nI i).toNatClampNeg = i from hix] at he
      refine lv_aload_n hx hb dX5_trialGoesAs_39 rfl (lv_at hl 0 rfl) ?_
      refine va_get (ci := 3) (v := .ref (b 2 0)) (C := RX5) (T := TX5) (N := 7) hx hb hts inX5 hown hK hP 0 rfl rfl 1 (by decide) f16 (fun _ h9 => h9) rfl dX5_trialGoesAs_40 ?_
      refine callMv (va_runV (As := []) (rest := []) ⟨hx, hb, hml, hown, hts⟩ (k_X3_serveOne l D cI cL cS (b 2) (sCo (sPass i s2)) (sGu (sPass i s2)) (sKn (sPass i s2)) (sFo (sPass i s2)) (sSp (sPass i s2)) w2 (sKi (sPass i s2)) (sPl (sPass i s2)) (sEa (sPass i s2)) (sTo (sPass i s2)) (sQu (sPass i s2)) mo_3 ne_4 (va_DT (va_segD (hD _ rfl) 13 12 rfl) rfl) ((okS_pass o2 i).1) ((okS_pass o2 i).2) (pass_more (σ := s2) hMN.1 i) (pass_near (σ := s2) hMN.2 i)) (cwV 0 hts gX5_trialGoesAs_X3_serveOne rfl rfl rfl (by decide +kernel) ⟨Nat.le_of_ble_eq_true rfl, Nat.le_of_ble_eq_true rfl⟩) ⟨PcR_fb, va_recv hK hP (ci := 1) (q0 := 13) rfl rfl, PcR_pre (va_seg hP 13 12 rfl) hK⟩ rfl rfl hl.1 rfl (lv_room (Nat.le_of_ble_eq_true rfl)) dX5_trialGoesAs_43 ⟨Nat.zero_le _, Nat.zero_le _⟩) hP (hD _ rfl) hS 13 12 rfl (fun u_7 H locs hu_7 hP hS => ?_)
      have hP : va_P D vwCl (kcw cI cL cS b s1 w1 m1 n1 (uQu (uTo (uEa (uCo (sPass i s2) ((sCo (sPass i s2)) + 1)) (cEa (sGu (sPass i s2)) (sKn (sPass i s2)) (sFo (sPass i s2)) (sSp (sPass i s2)) (sKi (sPass i s2)) (sPl (sPass i s2)) (sEa (sPass i s2)))) (cTo (sGu (sPass i s2)) (sSp (sPass i s2)) (sKi (sPass i s2)) (sPl (sPass i s2)) (sEa (sPass i s2)) (sTo (sPass i s2)))) (cQu (sGu (sPass i s2)) (sKi (sPass i s2)) (sPl (sPass i s2)) (cEa (sGu (sPass i s2)) (sKn (sPass i s2)) (sFo (sPass i s2)) (sSp (sPass i s2)) (sKi (sPass i s2)) (sPl (sPass i s2)) (sEa (sPass i s2))) (sQu (sPass i s2)))) w2 mo_3 ne_4 s3 w3 m3 n3 ik bt ln tk sb en nm bits size num fnd) H := hP
      refine lv_iinc (v := nI (i + 1)) (lv' := [(3, .int (nI (i + 1))), (0, .ref (b 0 0)), (1, .ref (b 7 0)), (2, .int x1)]) hx hb dX5_trialGoesAs_46 hl (k := 3) rfl (nI_1 _) (by decide) rfl (fun ls hl => ?_)
      refine lv_goto (tgt := 9) hx hb dX5_trialGoesAs_49 (by decide) ?_
      have hP : va_P D vwCl (kcw cI cL cS b s1 w1 m1 n1 (sPass (i + 1) s2) w2 mo_3 ne_4 s3 w3 m3 n3 ik bt ln tk sb en nm bits size num fnd) H := by exact hP
      exact ih (n - 1) (by omega) (i + 1) H locs ls ⟨by omega, lt_s hi1 he, hP, hS, lv_sub hl [1, 2, 3, 0] rfl⟩
    · skip
      have he := mt (lg_cmp_eq _ _).mpr c_6
      rw [show (nI i).toNatClampNeg = i from hix] at he
      refine lv_iconst (v := 0) hx hb dX5_trialGoesAs_37 (by decide) ?_
      exact W.zret (ty := .boolean) hx hb hr rfl (fun t ht hW => ⟨⟨_, (sPass i s2, mo_3, ne_4), rfl, (by exact (bI_f (fun h => he (h i (by omega)))).symm), by dsimp only; rw [ht]; exact hP⟩, hS.F ht⟩) hS.2.2 dX5_trialGoesAs_38

set_option maxRecDepth 100000 in
set_option maxHeartbeats 4000000 in
theorem k_X5_trialGoesAs_1 (l : Launch) (D : va_G) (cI cL cS : ClassId) (b : Nat → Nat → Nat) (s1 : Sg) (w1 m1 n1 : FI) (s2 : Sg) (w2 m2 n2 : FI) (s3 : Sg) (w3 m3 n3 : FI) (ik : Int32) (bt : FI) (ln tk sb en nm : Int32) (bits size : FI) (num : Nat → FJ) (fnd : FI) (x1 : Int32) (dj : va_D (fun _ => True) (djk b)) (o2 : okS s2 w2) (hz : size 1 = nI (ix (size 1)) ∧ ix (size 1) ≤ 40) (h8 : vp_in x1 8) : Met l yX5_trialGoesAs wsX5_trialGoesAs { frames := 4, cells := 0, slots := 0, locals := 89 } (PcR D vwCl (tyG cI cL cS) [.ref (b 0 0), .ref (b 7 1), .int x1] (kcw cI cL cS b s1 w1 m1 n1 s2 w2 m2 n2 s3 w3 m3 n3 ik bt ln tk sb en nm bits size num fnd)) (va_Qi (fun (r : Int32) (u : Sg × FI × FI) => r = bI (pGoes (num 1) (ix (size 1)) s2 x1)) (fun u t => va_P D vwCl (kcw cI cL cS b s1 w1 m1 n1 u.1 w2 u.2.1 u.2.2 s3 w3 m3 n3 ik bt ln tk sb en nm bits size num fnd) t.heap) (Aof (kcw cI cL cS b s1 w1 m1 n1 s2 w2 m2 n2 s3 w3 m3 n3 ik bt ln tk sb en nm bits size num fnd))) 0 0 (Aof (kcw cI cL cS b s1 w1 m1 n1 s2 w2 m2 n2 s3 w3 m3 n3 ik bt ln tk sb en nm bits size num fnd)) := by
  refine Met.ofW (cc := cX5_trialGoesAs) (maxL := 4) (ret := (some .boolean)) (by decide) rfl ?_
  intro p e s m args below meth c s₁ B hml hv
  obtain ⟨rfl, hP, hK⟩ := hv
  have hx := B.exec
  have hb := B.bytes
  have hr := B.returns
  have hts := atoms_spec (ws := wsX5_trialGoesAs) B.pre
  have hown : s.vm.findClass RX5 = some m.cls := findClass_of_methodNamed B.named
  have hlocks := B.notSynchronized
  obtain ⟨A, hAe⟩ : ∃ A, A = Aof (kcw cI cL cS b s1 w1 m1 n1 s2 w2 m2 n2 s3 w3 m3 n3 ik bt ln tk sb en nm bits size num fnd) := ⟨_, rfl⟩
  rw [← hAe]
  have hD : ∀ ws' : va_W, ws'.map Prod.fst = (kcw cI cL cS b s1 w1 m1 n1 s2 w2 m2 n2 s3 w3 m3 n3 ik bt ln tk sb en nm bits size num fnd).map Prod.fst → va_D A ws' := fun ws' e => by rw [hAe]; exact va_D_adr (va_D_self (va_D_adr dj rfl)) e
  have hS : va_S A s.heap s.heap [] := va_S.rf
  have hP : va_P D vwCl (kcw cI cL cS b s1 w1 m1 n1 s2 w2 m2 n2 s3 w3 m3 n3 ik bt ln tk sb en nm bits size num fnd) s.heap := hP
  have hl := lv_entry ([.ref (b 0 0), .ref (b 7 1), .int x1]) (n := 4) (Nat.le_of_ble_eq_true rfl)
  rw [lg_entry_eq]
  generalize (lg_sl ([.ref (b 0 0), .ref (b 7 1), .int x1]) ++ List.replicate (4 - (lg_sl ([.ref (b 0 0), .ref (b 7 1), .int x1])).length) Slot.unset).toArray = ls at hl ⊢
  have hl : lv_has ls 4 [(0, .ref (b 0 0)), (1, .ref (b 7 1)), (2, .int x1)] := hl
  have f16 := hts (.fieldLink RX5 16 "KnivesLaid" "trial" "LKnivesLaid$Table;") (List.mem_of_getElem? (i := 1) rfl)
  have inX5 : ∀ w ∈ u_ws RX5 TX5 7, w ∈ wsX5_trialGoesAs := in_at 91 _ _ rfl
  have f189 := hts (.fieldLink RX5 189 "KnivesLaid$Sheet" "size" "I") (List.mem_of_getElem? (i := 2) rfl)
  have inX2 : ∀ w ∈ u_ws RX2 TX2 3, w ∈ wsX5_trialGoesAs := in_at 98 _ _ rfl
  have f198 := hts (.fieldLink RX5 198 "KnivesLaid$Sheet" "numbers" "[J") (List.mem_of_getElem? (i := 3) rfl)
  have f107 := hts (.fieldLink RX5 107 "KnivesLaid$Table" "ease" "[I") (List.mem_of_getElem? (i := 4) rfl)
  have inX3 : ∀ w ∈ u_ws RX3 TX3 13, w ∈ wsX5_trialGoesAs := in_at 101 _ _ rfl
  skip
  refine lv_aload_n hx hb dX5_trialGoesAs_0 rfl (lv_at hl 0 rfl) ?_
  refine va_get (ci := 3) (v := .ref (b 2 0)) (C := RX5) (T := TX5) (N := 7) hx hb hts inX5 hown hK hP 0 rfl rfl 1 (by decide) f16 (fun _ h9 => h9) rfl dX5_trialGoesAs_1 ?_
  refine callMv (va_runV (As := []) (rest := []) ⟨hx, hb, hml, hown, hts⟩ (k_X3_findMore l D cI cL cS (b 2) (sCo s2) (sGu s2) (sKn s2) (sFo s2) (sSp s2) w2 (sKi s2) (sPl s2) (sEa s2) (sTo s2) (sQu s2) m2 n2 (va_DT (va_segD (hD _ rfl) 13 12 rfl) rfl) o2.1) (cwV 0 hts gX5_trialGoesAs_X3_findMore rfl rfl rfl (by decide +kernel) ⟨Nat.le_of_ble_eq_true rfl, Nat.le_of_ble_eq_true rfl⟩) ⟨PcR_fb, va_recv hK hP (ci := 1) (q0 := 13) rfl rfl, PcR_pre (va_seg hP 13 12 rfl) hK⟩ rfl rfl hl.1 rfl (lv_room (Nat.le_of_ble_eq_true rfl)) dX5_trialGoesAs_4 ⟨Nat.zero_le _, Nat.zero_le _⟩) hP (hD _ rfl) hS 13 12 rfl (fun u_1 H locs hu_1 hP hS => ?_)
  obtain ⟨mo_3, ne_4⟩ := u_1
  have hu_1 : (∀ g, g < ix (sGu s2) → mo_3 g = sMore (sGu s2) (sKn s2) (sFo s2) (sSp s2) (sKi s2) (sPl s2) g) ∧ (∀ g, g < ix (sGu s2) → ne_4 g = sNear (sGu s2) (sPl s2) g) := hu_1
  have hMN := hu_1
  have hP : va_P D vwCl (kcw cI cL cS b s1 w1 m1 n1 s2 w2 mo_3 ne_4 s3 w3 m3 n3 ik bt ln tk sb en nm bits size num fnd) H := hP
  have hP : va_P D vwCl (kcw cI cL cS b s1 w1 m1 n1 (sPass 0 s2) w2 mo_3 ne_4 s3 w3 m3 n3 ik bt ln tk sb en nm bits size num fnd) H := by exact hP
  refine lv_iconst (v := 0) hx hb dX5_trialGoesAs_7 (by decide) ?_
  refine lv_istore_n (lv' := [(3, .int 0), (0, .ref (b 0 0)), (1, .ref (b 7 1)), (2, .int x1)]) hx hb dX5_trialGoesAs_8 rfl hl (by decide) rfl (fun ls hl => ?_)
  refine lpW (fun n (u : Nat) H locs ls => (u + n = ix (size 1)) ∧ (∀ k, k < u → num 1 k = (sEa (sPass k s2) (ix x1)).toInt64) ∧ va_P D vwCl (kcw cI cL cS b s1 w1 m1 n1 (sPass u s2) w2 mo_3 ne_4 s3 w3 m3 n3 ik bt ln tk sb en nm bits size num fnd) H ∧ va_S A s.heap H locs ∧ lv_has ls 4 [(0, .ref (b 0 0)), (1, .ref (b 7 1)), (2, .int x1), (3, .int (nI u))]) (ix (size 1)) (0) ⟨by omega, fun k hk => absurd hk (Nat.not_lt_zero k), hP, hS, lv_sub hl [1, 2, 3, 0] rfl⟩ (fun n ih u H locs ls hI => ?_)
  obtain ⟨i, rfl⟩ : ∃ z, z = u := ⟨_, rfl⟩
  obtain ⟨hi0, hi1, hP, hS, hl⟩ := hI
  have hi0 : i + n = ix (size 1) := hi0
  have hi1 : ∀ k, k < i → num 1 k = (sEa (sPass k s2) (ix x1)).toInt64 := hi1
  have hl : lv_has ls 4 [(0, .ref (b 0 0)), (1, .ref (b 7 1)), (2, .int x1), (3, .int (nI i))] := hl
  have hP : va_P D vwCl (kcw cI cL cS b s1 w1 m1 n1 (sPass i s2) w2 mo_3 ne_4 s3 w3 m3 n3 ik bt ln tk sb en nm bits size num fnd) H := hP
  have hix : ix (nI i) = i := ix_nI (by omega)
  refine lv_iload_n hx hb dX5_trialGoesAs_9 rfl (lv_at hl 3 rfl) ?_
  refine lv_aload_n hx hb dX5_trialGoesAs_10 rfl (lv_at hl 1 rfl) ?_
  refine va_get (ci := 0) (v := .int (size 1)) (C := RX2) (T := TX2) (N := 3) hx hb hts inX2 hown hK hP 42 rfl rfl 1 (by decide) f189 (fun _ h9 => h9) rfl dX5_trialGoesAs_11 ?_
  refine lv_icmp_ge (tgt := 52) hx hb dX5_trialGoesAs_14 (by decide) (fun c_5 => ?_) (fun c_5 => ?_)
  · skip
    have c_5n := (cmp_le (a := ix (size 1)) (b := i) hz.1 rfl (by omega) (by omega)).mp c_5
    refine lv_iconst (v := 1) hx hb dX5_trialGoesAs_52 (by decide) ?_
    exact W.zret (ty := .boolean) hx hb hr rfl (fun t ht hW => ⟨⟨_, (sPass i s2, mo_3, ne_4), rfl, (by exact (bI_t (fun k hk => hi1 k (by omega))).symm), by dsimp only; rw [ht]; exact hP⟩, hS.F ht⟩) hS.2.2 dX5_trialGoesAs_53
  · skip
    have c_5n := mt (cmp_le (a := ix (size 1)) (b := i) hz.1 rfl (by omega) (by omega)).mpr c_5
    refine lv_aload_n hx hb dX5_trialGoesAs_17 rfl (lv_at hl 1 rfl) ?_
    refine va_get (ci := 0) (v := .ref (b 8 1)) (C := RX2) (T := TX2) (N := 3) hx hb hts inX2 hown hK hP 42 rfl rfl 2 (by decide) f198 (fun _ h9 => h9) rfl dX5_trialGoesAs_18 ?_
    refine lv_iload_n hx hb dX5_trialGoesAs_21 rfl (lv_at hl 3 rfl) ?_
    refine va_lald hx hb hK hP 43 1 rfl rfl (vp_in_nI (by omega) (by omega)) dX5_trialGoesAs_22 ?_
    refine lv_aload_n hx hb dX5_trialGoesAs_23 rfl (lv_at hl 0 rfl) ?_
    refine va_get (ci := 3) (v := .ref (b 2 0)) (C := RX5) (T := TX5) (N := 7) hx hb hts inX5 hown hK hP 0 rfl rfl 1 (by decide) f16 (fun _ h9 => h9) rfl dX5_trialGoesAs_24 ?_
    refine va_get (ci := 1) (v := .ref (b 2 7)) (C := RX3) (T := TX3) (N := 13) hx hb hts inX3 hown hK hP 13 rfl rfl 8 (by decide) f107 (fun _ h9 => h9) rfl dX5_trialGoesAs_27 ?_
    refine lv_iload_n hx hb dX5_trialGoesAs_30 rfl (lv_at hl 2 rfl) ?_
    refine va_iald hx hb hK hP 20 0 rfl rfl (by assumption) dX5_trialGoesAs_31 ?_
    refine lv_i2l (v := ((sEa (sPass i s2)) (ix x1)).toInt64) hx hb dX5_trialGoesAs_32 rfl ?_
    refine W.lcmp hx hb dX5_trialGoesAs_33 ?_
    refine lv_if_eq (tgt := 39) hx hb dX5_trialGoesAs_34 (by decide) (fun c_6 => ?_) (fun c_6 => ?_)
    · skip
      have he := (lg_cmp_eq _ _).mp c_6
      rw [show (nI i).toNatClampNeg = i from hix] at he
      refine lv_aload_n hx hb dX5_trialGoesAs_39 rfl (lv_at hl 0 rfl) ?_
      refine va_get (ci := 3) (v := .ref (b 2 0)) (C := RX5) (T := TX5) (N := 7) hx hb hts inX5 hown hK hP 0 rfl rfl 1 (by decide) f16 (fun _ h9 => h9) rfl dX5_trialGoesAs_40 ?_
      refine callMv (va_runV (As := []) (rest := []) ⟨hx, hb, hml, hown, hts⟩ (k_X3_serveOne l D cI cL cS (b 2) (sCo (sPass i s2)) (sGu (sPass i s2)) (sKn (sPass i s2)) (sFo (sPass i s2)) (sSp (sPass i s2)) w2 (sKi (sPass i s2)) (sPl (sPass i s2)) (sEa (sPass i s2)) (sTo (sPass i s2)) (sQu (sPass i s2)) mo_3 ne_4 (va_DT (va_segD (hD _ rfl) 13 12 rfl) rfl) ((okS_pass o2 i).1) ((okS_pass o2 i).2) (pass_more (σ := s2) hMN.1 i) (pass_near (σ := s2) hMN.2 i)) (cwV 0 hts gX5_trialGoesAs_X3_serveOne rfl rfl rfl (by decide +kernel) ⟨Nat.le_of_ble_eq_true rfl, Nat.le_of_ble_eq_true rfl⟩) ⟨PcR_fb, va_recv hK hP (ci := 1) (q0 := 13) rfl rfl, PcR_pre (va_seg hP 13 12 rfl) hK⟩ rfl rfl hl.1 rfl (lv_room (Nat.le_of_ble_eq_true rfl)) dX5_trialGoesAs_43 ⟨Nat.zero_le _, Nat.zero_le _⟩) hP (hD _ rfl) hS 13 12 rfl (fun u_7 H locs hu_7 hP hS => ?_)
      have hP : va_P D vwCl (kcw cI cL cS b s1 w1 m1 n1 (uQu (uTo (uEa (uCo (sPass i s2) ((sCo (sPass i s2)) + 1)) (cEa (sGu (sPass i s2)) (sKn (sPass i s2)) (sFo (sPass i s2)) (sSp (sPass i s2)) (sKi (sPass i s2)) (sPl (sPass i s2)) (sEa (sPass i s2)))) (cTo (sGu (sPass i s2)) (sSp (sPass i s2)) (sKi (sPass i s2)) (sPl (sPass i s2)) (sEa (sPass i s2)) (sTo (sPass i s2)))) (cQu (sGu (sPass i s2)) (sKi (sPass i s2)) (sPl (sPass i s2)) (cEa (sGu (sPass i s2)) (sKn (sPass i s2)) (sFo (sPass i s2)) (sSp (sPass i s2)) (sKi (sPass i s2)) (sPl (sPass i s2)) (sEa (sPass i s2))) (sQu (sPass i s2)))) w2 mo_3 ne_4 s3 w3 m3 n3 ik bt ln tk sb en nm bits size num fnd) H := hP
      refine lv_iinc (v := nI (i + 1)) (lv' := [(3, .int (nI (i + 1))), (0, .ref (b 0 0)), (1, .ref (b 7 1)), (2, .int x1)]) hx hb dX5_trialGoesAs_46 hl (k := 3) rfl (nI_1 _) (by decide) rfl (fun ls hl => ?_)
      refine lv_goto (tgt := 9) hx hb dX5_trialGoesAs_49 (by decide) ?_
      have hP : va_P D vwCl (kcw cI cL cS b s1 w1 m1 n1 (sPass (i + 1) s2) w2 mo_3 ne_4 s3 w3 m3 n3 ik bt ln tk sb en nm bits size num fnd) H := by exact hP
      exact ih (n - 1) (by omega) (i + 1) H locs ls ⟨by omega, lt_s hi1 he, hP, hS, lv_sub hl [1, 2, 3, 0] rfl⟩
    · skip
      have he := mt (lg_cmp_eq _ _).mpr c_6
      rw [show (nI i).toNatClampNeg = i from hix] at he
      refine lv_iconst (v := 0) hx hb dX5_trialGoesAs_37 (by decide) ?_
      exact W.zret (ty := .boolean) hx hb hr rfl (fun t ht hW => ⟨⟨_, (sPass i s2, mo_3, ne_4), rfl, (by exact (bI_f (fun h => he (h i (by omega)))).symm), by dsimp only; rw [ht]; exact hP⟩, hS.F ht⟩) hS.2.2 dX5_trialGoesAs_38

set_option maxRecDepth 100000 in
set_option maxHeartbeats 4000000 in
theorem k_X5_trialGoesAs_2 (l : Launch) (D : va_G) (cI cL cS : ClassId) (b : Nat → Nat → Nat) (s1 : Sg) (w1 m1 n1 : FI) (s2 : Sg) (w2 m2 n2 : FI) (s3 : Sg) (w3 m3 n3 : FI) (ik : Int32) (bt : FI) (ln tk sb en nm : Int32) (bits size : FI) (num : Nat → FJ) (fnd : FI) (x1 : Int32) (dj : va_D (fun _ => True) (djk b)) (o2 : okS s2 w2) (hz : size 2 = nI (ix (size 2)) ∧ ix (size 2) ≤ 40) (h8 : vp_in x1 8) : Met l yX5_trialGoesAs wsX5_trialGoesAs { frames := 4, cells := 0, slots := 0, locals := 89 } (PcR D vwCl (tyG cI cL cS) [.ref (b 0 0), .ref (b 7 2), .int x1] (kcw cI cL cS b s1 w1 m1 n1 s2 w2 m2 n2 s3 w3 m3 n3 ik bt ln tk sb en nm bits size num fnd)) (va_Qi (fun (r : Int32) (u : Sg × FI × FI) => r = bI (pGoes (num 2) (ix (size 2)) s2 x1)) (fun u t => va_P D vwCl (kcw cI cL cS b s1 w1 m1 n1 u.1 w2 u.2.1 u.2.2 s3 w3 m3 n3 ik bt ln tk sb en nm bits size num fnd) t.heap) (Aof (kcw cI cL cS b s1 w1 m1 n1 s2 w2 m2 n2 s3 w3 m3 n3 ik bt ln tk sb en nm bits size num fnd))) 0 0 (Aof (kcw cI cL cS b s1 w1 m1 n1 s2 w2 m2 n2 s3 w3 m3 n3 ik bt ln tk sb en nm bits size num fnd)) := by
  refine Met.ofW (cc := cX5_trialGoesAs) (maxL := 4) (ret := (some .boolean)) (by decide) rfl ?_
  intro p e s m args below meth c s₁ B hml hv
  obtain ⟨rfl, hP, hK⟩ := hv
  have hx := B.exec
  have hb := B.bytes
  have hr := B.returns
  have hts := atoms_spec (ws := wsX5_trialGoesAs) B.pre
  have hown : s.vm.findClass RX5 = some m.cls := findClass_of_methodNamed B.named
  have hlocks := B.notSynchronized
  obtain ⟨A, hAe⟩ : ∃ A, A = Aof (kcw cI cL cS b s1 w1 m1 n1 s2 w2 m2 n2 s3 w3 m3 n3 ik bt ln tk sb en nm bits size num fnd) := ⟨_, rfl⟩
  rw [← hAe]
  have hD : ∀ ws' : va_W, ws'.map Prod.fst = (kcw cI cL cS b s1 w1 m1 n1 s2 w2 m2 n2 s3 w3 m3 n3 ik bt ln tk sb en nm bits size num fnd).map Prod.fst → va_D A ws' := fun ws' e => by rw [hAe]; exact va_D_adr (va_D_self (va_D_adr dj rfl)) e
  have hS : va_S A s.heap s.heap [] := va_S.rf
  have hP : va_P D vwCl (kcw cI cL cS b s1 w1 m1 n1 s2 w2 m2 n2 s3 w3 m3 n3 ik bt ln tk sb en nm bits size num fnd) s.heap := hP
  have hl := lv_entry ([.ref (b 0 0), .ref (b 7 2), .int x1]) (n := 4) (Nat.le_of_ble_eq_true rfl)
  rw [lg_entry_eq]
  generalize (lg_sl ([.ref (b 0 0), .ref (b 7 2), .int x1]) ++ List.replicate (4 - (lg_sl ([.ref (b 0 0), .ref (b 7 2), .int x1])).length) Slot.unset).toArray = ls at hl ⊢
  have hl : lv_has ls 4 [(0, .ref (b 0 0)), (1, .ref (b 7 2)), (2, .int x1)] := hl
  have f16 := hts (.fieldLink RX5 16 "KnivesLaid" "trial" "LKnivesLaid$Table;") (List.mem_of_getElem? (i := 1) rfl)
  have inX5 : ∀ w ∈ u_ws RX5 TX5 7, w ∈ wsX5_trialGoesAs := in_at 91 _ _ rfl
  have f189 := hts (.fieldLink RX5 189 "KnivesLaid$Sheet" "size" "I") (List.mem_of_getElem? (i := 2) rfl)
  have inX2 : ∀ w ∈ u_ws RX2 TX2 3, w ∈ wsX5_trialGoesAs := in_at 98 _ _ rfl
  have f198 := hts (.fieldLink RX5 198 "KnivesLaid$Sheet" "numbers" "[J") (List.mem_of_getElem? (i := 3) rfl)
  have f107 := hts (.fieldLink RX5 107 "KnivesLaid$Table" "ease" "[I") (List.mem_of_getElem? (i := 4) rfl)
  have inX3 : ∀ w ∈ u_ws RX3 TX3 13, w ∈ wsX5_trialGoesAs := in_at 101 _ _ rfl
  skip
  refine lv_aload_n hx hb dX5_trialGoesAs_0 rfl (lv_at hl 0 rfl) ?_
  refine va_get (ci := 3) (v := .ref (b 2 0)) (C := RX5) (T := TX5) (N := 7) hx hb hts inX5 hown hK hP 0 rfl rfl 1 (by decide) f16 (fun _ h9 => h9) rfl dX5_trialGoesAs_1 ?_
  refine callMv (va_runV (As := []) (rest := []) ⟨hx, hb, hml, hown, hts⟩ (k_X3_findMore l D cI cL cS (b 2) (sCo s2) (sGu s2) (sKn s2) (sFo s2) (sSp s2) w2 (sKi s2) (sPl s2) (sEa s2) (sTo s2) (sQu s2) m2 n2 (va_DT (va_segD (hD _ rfl) 13 12 rfl) rfl) o2.1) (cwV 0 hts gX5_trialGoesAs_X3_findMore rfl rfl rfl (by decide +kernel) ⟨Nat.le_of_ble_eq_true rfl, Nat.le_of_ble_eq_true rfl⟩) ⟨PcR_fb, va_recv hK hP (ci := 1) (q0 := 13) rfl rfl, PcR_pre (va_seg hP 13 12 rfl) hK⟩ rfl rfl hl.1 rfl (lv_room (Nat.le_of_ble_eq_true rfl)) dX5_trialGoesAs_4 ⟨Nat.zero_le _, Nat.zero_le _⟩) hP (hD _ rfl) hS 13 12 rfl (fun u_1 H locs hu_1 hP hS => ?_)
  obtain ⟨mo_3, ne_4⟩ := u_1
  have hu_1 : (∀ g, g < ix (sGu s2) → mo_3 g = sMore (sGu s2) (sKn s2) (sFo s2) (sSp s2) (sKi s2) (sPl s2) g) ∧ (∀ g, g < ix (sGu s2) → ne_4 g = sNear (sGu s2) (sPl s2) g) := hu_1
  have hMN := hu_1
  have hP : va_P D vwCl (kcw cI cL cS b s1 w1 m1 n1 s2 w2 mo_3 ne_4 s3 w3 m3 n3 ik bt ln tk sb en nm bits size num fnd) H := hP
  have hP : va_P D vwCl (kcw cI cL cS b s1 w1 m1 n1 (sPass 0 s2) w2 mo_3 ne_4 s3 w3 m3 n3 ik bt ln tk sb en nm bits size num fnd) H := by exact hP
  refine lv_iconst (v := 0) hx hb dX5_trialGoesAs_7 (by decide) ?_
  refine lv_istore_n (lv' := [(3, .int 0), (0, .ref (b 0 0)), (1, .ref (b 7 2)), (2, .int x1)]) hx hb dX5_trialGoesAs_8 rfl hl (by decide) rfl (fun ls hl => ?_)
  refine lpW (fun n (u : Nat) H locs ls => (u + n = ix (size 2)) ∧ (∀ k, k < u → num 2 k = (sEa (sPass k s2) (ix x1)).toInt64) ∧ va_P D vwCl (kcw cI cL cS b s1 w1 m1 n1 (sPass u s2) w2 mo_3 ne_4 s3 w3 m3 n3 ik bt ln tk sb en nm bits size num fnd) H ∧ va_S A s.heap H locs ∧ lv_has ls 4 [(0, .ref (b 0 0)), (1, .ref (b 7 2)), (2, .int x1), (3, .int (nI u))]) (ix (size 2)) (0) ⟨by omega, fun k hk => absurd hk (Nat.not_lt_zero k), hP, hS, lv_sub hl [1, 2, 3, 0] rfl⟩ (fun n ih u H locs ls hI => ?_)
  obtain ⟨i, rfl⟩ : ∃ z, z = u := ⟨_, rfl⟩
  obtain ⟨hi0, hi1, hP, hS, hl⟩ := hI
  have hi0 : i + n = ix (size 2) := hi0
  have hi1 : ∀ k, k < i → num 2 k = (sEa (sPass k s2) (ix x1)).toInt64 := hi1
  have hl : lv_has ls 4 [(0, .ref (b 0 0)), (1, .ref (b 7 2)), (2, .int x1), (3, .int (nI i))] := hl
  have hP : va_P D vwCl (kcw cI cL cS b s1 w1 m1 n1 (sPass i s2) w2 mo_3 ne_4 s3 w3 m3 n3 ik bt ln tk sb en nm bits size num fnd) H := hP
  have hix : ix (nI i) = i := ix_nI (by omega)
  refine lv_iload_n hx hb dX5_trialGoesAs_9 rfl (lv_at hl 3 rfl) ?_
  refine lv_aload_n hx hb dX5_trialGoesAs_10 rfl (lv_at hl 1 rfl) ?_
  refine va_get (ci := 0) (v := .int (size 2)) (C := RX2) (T := TX2) (N := 3) hx hb hts inX2 hown hK hP 44 rfl rfl 1 (by decide) f189 (fun _ h9 => h9) rfl dX5_trialGoesAs_11 ?_
  refine lv_icmp_ge (tgt := 52) hx hb dX5_trialGoesAs_14 (by decide) (fun c_5 => ?_) (fun c_5 => ?_)
  · skip
    have c_5n := (cmp_le (a := ix (size 2)) (b := i) hz.1 rfl (by omega) (by omega)).mp c_5
    refine lv_iconst (v := 1) hx hb dX5_trialGoesAs_52 (by decide) ?_
    exact W.zret (ty := .boolean) hx hb hr rfl (fun t ht hW => ⟨⟨_, (sPass i s2, mo_3, ne_4), rfl, (by exact (bI_t (fun k hk => hi1 k (by omega))).symm), by dsimp only; rw [ht]; exact hP⟩, hS.F ht⟩) hS.2.2 dX5_trialGoesAs_53
  · skip
    have c_5n := mt (cmp_le (a := ix (size 2)) (b := i) hz.1 rfl (by omega) (by omega)).mpr c_5
    refine lv_aload_n hx hb dX5_trialGoesAs_17 rfl (lv_at hl 1 rfl) ?_
    refine va_get (ci := 0) (v := .ref (b 8 2)) (C := RX2) (T := TX2) (N := 3) hx hb hts inX2 hown hK hP 44 rfl rfl 2 (by decide) f198 (fun _ h9 => h9) rfl dX5_trialGoesAs_18 ?_
    refine lv_iload_n hx hb dX5_trialGoesAs_21 rfl (lv_at hl 3 rfl) ?_
    refine va_lald hx hb hK hP 45 1 rfl rfl (vp_in_nI (by omega) (by omega)) dX5_trialGoesAs_22 ?_
    refine lv_aload_n hx hb dX5_trialGoesAs_23 rfl (lv_at hl 0 rfl) ?_
    refine va_get (ci := 3) (v := .ref (b 2 0)) (C := RX5) (T := TX5) (N := 7) hx hb hts inX5 hown hK hP 0 rfl rfl 1 (by decide) f16 (fun _ h9 => h9) rfl dX5_trialGoesAs_24 ?_
    refine va_get (ci := 1) (v := .ref (b 2 7)) (C := RX3) (T := TX3) (N := 13) hx hb hts inX3 hown hK hP 13 rfl rfl 8 (by decide) f107 (fun _ h9 => h9) rfl dX5_trialGoesAs_27 ?_
    refine lv_iload_n hx hb dX5_trialGoesAs_30 rfl (lv_at hl 2 rfl) ?_
    refine va_iald hx hb hK hP 20 0 rfl rfl (by assumption) dX5_trialGoesAs_31 ?_
    refine lv_i2l (v := ((sEa (sPass i s2)) (ix x1)).toInt64) hx hb dX5_trialGoesAs_32 rfl ?_
    refine W.lcmp hx hb dX5_trialGoesAs_33 ?_
    refine lv_if_eq (tgt := 39) hx hb dX5_trialGoesAs_34 (by decide) (fun c_6 => ?_) (fun c_6 => ?_)
    · skip
      have he := (lg_cmp_eq _ _).mp c_6
      rw [show (nI i).toNatClampNeg = i from hix] at he
      refine lv_aload_n hx hb dX5_trialGoesAs_39 rfl (lv_at hl 0 rfl) ?_
      refine va_get (ci := 3) (v := .ref (b 2 0)) (C := RX5) (T := TX5) (N := 7) hx hb hts inX5 hown hK hP 0 rfl rfl 1 (by decide) f16 (fun _ h9 => h9) rfl dX5_trialGoesAs_40 ?_
      refine callMv (va_runV (As := []) (rest := []) ⟨hx, hb, hml, hown, hts⟩ (k_X3_serveOne l D cI cL cS (b 2) (sCo (sPass i s2)) (sGu (sPass i s2)) (sKn (sPass i s2)) (sFo (sPass i s2)) (sSp (sPass i s2)) w2 (sKi (sPass i s2)) (sPl (sPass i s2)) (sEa (sPass i s2)) (sTo (sPass i s2)) (sQu (sPass i s2)) mo_3 ne_4 (va_DT (va_segD (hD _ rfl) 13 12 rfl) rfl) ((okS_pass o2 i).1) ((okS_pass o2 i).2) (pass_more (σ := s2) hMN.1 i) (pass_near (σ := s2) hMN.2 i)) (cwV 0 hts gX5_trialGoesAs_X3_serveOne rfl rfl rfl (by decide +kernel) ⟨Nat.le_of_ble_eq_true rfl, Nat.le_of_ble_eq_true rfl⟩) ⟨PcR_fb, va_recv hK hP (ci := 1) (q0 := 13) rfl rfl, PcR_pre (va_seg hP 13 12 rfl) hK⟩ rfl rfl hl.1 rfl (lv_room (Nat.le_of_ble_eq_true rfl)) dX5_trialGoesAs_43 ⟨Nat.zero_le _, Nat.zero_le _⟩) hP (hD _ rfl) hS 13 12 rfl (fun u_7 H locs hu_7 hP hS => ?_)
      have hP : va_P D vwCl (kcw cI cL cS b s1 w1 m1 n1 (uQu (uTo (uEa (uCo (sPass i s2) ((sCo (sPass i s2)) + 1)) (cEa (sGu (sPass i s2)) (sKn (sPass i s2)) (sFo (sPass i s2)) (sSp (sPass i s2)) (sKi (sPass i s2)) (sPl (sPass i s2)) (sEa (sPass i s2)))) (cTo (sGu (sPass i s2)) (sSp (sPass i s2)) (sKi (sPass i s2)) (sPl (sPass i s2)) (sEa (sPass i s2)) (sTo (sPass i s2)))) (cQu (sGu (sPass i s2)) (sKi (sPass i s2)) (sPl (sPass i s2)) (cEa (sGu (sPass i s2)) (sKn (sPass i s2)) (sFo (sPass i s2)) (sSp (sPass i s2)) (sKi (sPass i s2)) (sPl (sPass i s2)) (sEa (sPass i s2))) (sQu (sPass i s2)))) w2 mo_3 ne_4 s3 w3 m3 n3 ik bt ln tk sb en nm bits size num fnd) H := hP
      refine lv_iinc (v := nI (i + 1)) (lv' := [(3, .int (nI (i + 1))), (0, .ref (b 0 0)), (1, .ref (b 7 2)), (2, .int x1)]) hx hb dX5_trialGoesAs_46 hl (k := 3) rfl (nI_1 _) (by decide) rfl (fun ls hl => ?_)
      refine lv_goto (tgt := 9) hx hb dX5_trialGoesAs_49 (by decide) ?_
      have hP : va_P D vwCl (kcw cI cL cS b s1 w1 m1 n1 (sPass (i + 1) s2) w2 mo_3 ne_4 s3 w3 m3 n3 ik bt ln tk sb en nm bits size num fnd) H := by exact hP
      exact ih (n - 1) (by omega) (i + 1) H locs ls ⟨by omega, lt_s hi1 he, hP, hS, lv_sub hl [1, 2, 3, 0] rfl⟩
    · skip
      have he := mt (lg_cmp_eq _ _).mpr c_6
      rw [show (nI i).toNatClampNeg = i from hix] at he
      refine lv_iconst (v := 0) hx hb dX5_trialGoesAs_37 (by decide) ?_
      exact W.zret (ty := .boolean) hx hb hr rfl (fun t ht hW => ⟨⟨_, (sPass i s2, mo_3, ne_4), rfl, (by exact (bI_f (fun h => he (h i (by omega)))).symm), by dsimp only; rw [ht]; exact hP⟩, hS.F ht⟩) hS.2.2 dX5_trialGoesAs_38

set_option maxRecDepth 100000 in
set_option maxHeartbeats 4000000 in
theorem k_X5_trialGoesAs_3 (l : Launch) (D : va_G) (cI cL cS : ClassId) (b : Nat → Nat → Nat) (s1 : Sg) (w1 m1 n1 : FI) (s2 : Sg) (w2 m2 n2 : FI) (s3 : Sg) (w3 m3 n3 : FI) (ik : Int32) (bt : FI) (ln tk sb en nm : Int32) (bits size : FI) (num : Nat → FJ) (fnd : FI) (x1 : Int32) (dj : va_D (fun _ => True) (djk b)) (o2 : okS s2 w2) (hz : size 3 = nI (ix (size 3)) ∧ ix (size 3) ≤ 40) (h8 : vp_in x1 8) : Met l yX5_trialGoesAs wsX5_trialGoesAs { frames := 4, cells := 0, slots := 0, locals := 89 } (PcR D vwCl (tyG cI cL cS) [.ref (b 0 0), .ref (b 7 3), .int x1] (kcw cI cL cS b s1 w1 m1 n1 s2 w2 m2 n2 s3 w3 m3 n3 ik bt ln tk sb en nm bits size num fnd)) (va_Qi (fun (r : Int32) (u : Sg × FI × FI) => r = bI (pGoes (num 3) (ix (size 3)) s2 x1)) (fun u t => va_P D vwCl (kcw cI cL cS b s1 w1 m1 n1 u.1 w2 u.2.1 u.2.2 s3 w3 m3 n3 ik bt ln tk sb en nm bits size num fnd) t.heap) (Aof (kcw cI cL cS b s1 w1 m1 n1 s2 w2 m2 n2 s3 w3 m3 n3 ik bt ln tk sb en nm bits size num fnd))) 0 0 (Aof (kcw cI cL cS b s1 w1 m1 n1 s2 w2 m2 n2 s3 w3 m3 n3 ik bt ln tk sb en nm bits size num fnd)) := by
  refine Met.ofW (cc := cX5_trialGoesAs) (maxL := 4) (ret := (some .boolean)) (by decide) rfl ?_
  intro p e s m args below meth c s₁ B hml hv
  obtain ⟨rfl, hP, hK⟩ := hv
  have hx := B.exec
  have hb := B.bytes
  have hr := B.returns
  have hts := atoms_spec (ws := wsX5_trialGoesAs) B.pre
  have hown : s.vm.findClass RX5 = some m.cls := findClass_of_methodNamed B.named
  have hlocks := B.notSynchronized
  obtain ⟨A, hAe⟩ : ∃ A, A = Aof (kcw cI cL cS b s1 w1 m1 n1 s2 w2 m2 n2 s3 w3 m3 n3 ik bt ln tk sb en nm bits size num fnd) := ⟨_, rfl⟩
  rw [← hAe]
  have hD : ∀ ws' : va_W, ws'.map Prod.fst = (kcw cI cL cS b s1 w1 m1 n1 s2 w2 m2 n2 s3 w3 m3 n3 ik bt ln tk sb en nm bits size num fnd).map Prod.fst → va_D A ws' := fun ws' e => by rw [hAe]; exact va_D_adr (va_D_self (va_D_adr dj rfl)) e
  have hS : va_S A s.heap s.heap [] := va_S.rf
  have hP : va_P D vwCl (kcw cI cL cS b s1 w1 m1 n1 s2 w2 m2 n2 s3 w3 m3 n3 ik bt ln tk sb en nm bits size num fnd) s.heap := hP
  have hl := lv_entry ([.ref (b 0 0), .ref (b 7 3), .int x1]) (n := 4) (Nat.le_of_ble_eq_true rfl)
  rw [lg_entry_eq]
  generalize (lg_sl ([.ref (b 0 0), .ref (b 7 3), .int x1]) ++ List.replicate (4 - (lg_sl ([.ref (b 0 0), .ref (b 7 3), .int x1])).length) Slot.unset).toArray = ls at hl ⊢
  have hl : lv_has ls 4 [(0, .ref (b 0 0)), (1, .ref (b 7 3)), (2, .int x1)] := hl
  have f16 := hts (.fieldLink RX5 16 "KnivesLaid" "trial" "LKnivesLaid$Table;") (List.mem_of_getElem? (i := 1) rfl)
  have inX5 : ∀ w ∈ u_ws RX5 TX5 7, w ∈ wsX5_trialGoesAs := in_at 91 _ _ rfl
  have f189 := hts (.fieldLink RX5 189 "KnivesLaid$Sheet" "size" "I") (List.mem_of_getElem? (i := 2) rfl)
  have inX2 : ∀ w ∈ u_ws RX2 TX2 3, w ∈ wsX5_trialGoesAs := in_at 98 _ _ rfl
  have f198 := hts (.fieldLink RX5 198 "KnivesLaid$Sheet" "numbers" "[J") (List.mem_of_getElem? (i := 3) rfl)
  have f107 := hts (.fieldLink RX5 107 "KnivesLaid$Table" "ease" "[I") (List.mem_of_getElem? (i := 4) rfl)
  have inX3 : ∀ w ∈ u_ws RX3 TX3 13, w ∈ wsX5_trialGoesAs := in_at 101 _ _ rfl
  skip
  refine lv_aload_n hx hb dX5_trialGoesAs_0 rfl (lv_at hl 0 rfl) ?_
  refine va_get (ci := 3) (v := .ref (b 2 0)) (C := RX5) (T := TX5) (N := 7) hx hb hts inX5 hown hK hP 0 rfl rfl 1 (by decide) f16 (fun _ h9 => h9) rfl dX5_trialGoesAs_1 ?_
  refine callMv (va_runV (As := []) (rest := []) ⟨hx, hb, hml, hown, hts⟩ (k_X3_findMore l D cI cL cS (b 2) (sCo s2) (sGu s2) (sKn s2) (sFo s2) (sSp s2) w2 (sKi s2) (sPl s2) (sEa s2) (sTo s2) (sQu s2) m2 n2 (va_DT (va_segD (hD _ rfl) 13 12 rfl) rfl) o2.1) (cwV 0 hts gX5_trialGoesAs_X3_findMore rfl rfl rfl (by decide +kernel) ⟨Nat.le_of_ble_eq_true rfl, Nat.le_of_ble_eq_true rfl⟩) ⟨PcR_fb, va_recv hK hP (ci := 1) (q0 := 13) rfl rfl, PcR_pre (va_seg hP 13 12 rfl) hK⟩ rfl rfl hl.1 rfl (lv_room (Nat.le_of_ble_eq_true rfl)) dX5_trialGoesAs_4 ⟨Nat.zero_le _, Nat.zero_le _⟩) hP (hD _ rfl) hS 13 12 rfl (fun u_1 H locs hu_1 hP hS => ?_)
  obtain ⟨mo_3, ne_4⟩ := u_1
  have hu_1 : (∀ g, g < ix (sGu s2) → mo_3 g = sMore (sGu s2) (sKn s2) (sFo s2) (sSp s2) (sKi s2) (sPl s2) g) ∧ (∀ g, g < ix (sGu s2) → ne_4 g = sNear (sGu s2) (sPl s2) g) := hu_1
  have hMN := hu_1
  have hP : va_P D vwCl (kcw cI cL cS b s1 w1 m1 n1 s2 w2 mo_3 ne_4 s3 w3 m3 n3 ik bt ln tk sb en nm bits size num fnd) H := hP
  have hP : va_P D vwCl (kcw cI cL cS b s1 w1 m1 n1 (sPass 0 s2) w2 mo_3 ne_4 s3 w3 m3 n3 ik bt ln tk sb en nm bits size num fnd) H := by exact hP
  refine lv_iconst (v := 0) hx hb dX5_trialGoesAs_7 (by decide) ?_
  refine lv_istore_n (lv' := [(3, .int 0), (0, .ref (b 0 0)), (1, .ref (b 7 3)), (2, .int x1)]) hx hb dX5_trialGoesAs_8 rfl hl (by decide) rfl (fun ls hl => ?_)
  refine lpW (fun n (u : Nat) H locs ls => (u + n = ix (size 3)) ∧ (∀ k, k < u → num 3 k = (sEa (sPass k s2) (ix x1)).toInt64) ∧ va_P D vwCl (kcw cI cL cS b s1 w1 m1 n1 (sPass u s2) w2 mo_3 ne_4 s3 w3 m3 n3 ik bt ln tk sb en nm bits size num fnd) H ∧ va_S A s.heap H locs ∧ lv_has ls 4 [(0, .ref (b 0 0)), (1, .ref (b 7 3)), (2, .int x1), (3, .int (nI u))]) (ix (size 3)) (0) ⟨by omega, fun k hk => absurd hk (Nat.not_lt_zero k), hP, hS, lv_sub hl [1, 2, 3, 0] rfl⟩ (fun n ih u H locs ls hI => ?_)
  obtain ⟨i, rfl⟩ : ∃ z, z = u := ⟨_, rfl⟩
  obtain ⟨hi0, hi1, hP, hS, hl⟩ := hI
  have hi0 : i + n = ix (size 3) := hi0
  have hi1 : ∀ k, k < i → num 3 k = (sEa (sPass k s2) (ix x1)).toInt64 := hi1
  have hl : lv_has ls 4 [(0, .ref (b 0 0)), (1, .ref (b 7 3)), (2, .int x1), (3, .int (nI i))] := hl
  have hP : va_P D vwCl (kcw cI cL cS b s1 w1 m1 n1 (sPass i s2) w2 mo_3 ne_4 s3 w3 m3 n3 ik bt ln tk sb en nm bits size num fnd) H := hP
  have hix : ix (nI i) = i := ix_nI (by omega)
  refine lv_iload_n hx hb dX5_trialGoesAs_9 rfl (lv_at hl 3 rfl) ?_
  refine lv_aload_n hx hb dX5_trialGoesAs_10 rfl (lv_at hl 1 rfl) ?_
  refine va_get (ci := 0) (v := .int (size 3)) (C := RX2) (T := TX2) (N := 3) hx hb hts inX2 hown hK hP 46 rfl rfl 1 (by decide) f189 (fun _ h9 => h9) rfl dX5_trialGoesAs_11 ?_
  refine lv_icmp_ge (tgt := 52) hx hb dX5_trialGoesAs_14 (by decide) (fun c_5 => ?_) (fun c_5 => ?_)
  · skip
    have c_5n := (cmp_le (a := ix (size 3)) (b := i) hz.1 rfl (by omega) (by omega)).mp c_5
    refine lv_iconst (v := 1) hx hb dX5_trialGoesAs_52 (by decide) ?_
    exact W.zret (ty := .boolean) hx hb hr rfl (fun t ht hW => ⟨⟨_, (sPass i s2, mo_3, ne_4), rfl, (by exact (bI_t (fun k hk => hi1 k (by omega))).symm), by dsimp only; rw [ht]; exact hP⟩, hS.F ht⟩) hS.2.2 dX5_trialGoesAs_53
  · skip
    have c_5n := mt (cmp_le (a := ix (size 3)) (b := i) hz.1 rfl (by omega) (by omega)).mpr c_5
    refine lv_aload_n hx hb dX5_trialGoesAs_17 rfl (lv_at hl 1 rfl) ?_
    refine va_get (ci := 0) (v := .ref (b 8 3)) (C := RX2) (T := TX2) (N := 3) hx hb hts inX2 hown hK hP 46 rfl rfl 2 (by decide) f198 (fun _ h9 => h9) rfl dX5_trialGoesAs_18 ?_
    refine lv_iload_n hx hb dX5_trialGoesAs_21 rfl (lv_at hl 3 rfl) ?_
    refine va_lald hx hb hK hP 47 1 rfl rfl (vp_in_nI (by omega) (by omega)) dX5_trialGoesAs_22 ?_
    refine lv_aload_n hx hb dX5_trialGoesAs_23 rfl (lv_at hl 0 rfl) ?_
    refine va_get (ci := 3) (v := .ref (b 2 0)) (C := RX5) (T := TX5) (N := 7) hx hb hts inX5 hown hK hP 0 rfl rfl 1 (by decide) f16 (fun _ h9 => h9) rfl dX5_trialGoesAs_24 ?_
    refine va_get (ci := 1) (v := .ref (b 2 7)) (C := RX3) (T := TX3) (N := 13) hx hb hts inX3 hown hK hP 13 rfl rfl 8 (by decide) f107 (fun _ h9 => h9) rfl dX5_trialGoesAs_27 ?_
    refine lv_iload_n hx hb dX5_trialGoesAs_30 rfl (lv_at hl 2 rfl) ?_
    refine va_iald hx hb hK hP 20 0 rfl rfl (by assumption) dX5_trialGoesAs_31 ?_
    refine lv_i2l (v := ((sEa (sPass i s2)) (ix x1)).toInt64) hx hb dX5_trialGoesAs_32 rfl ?_
    refine W.lcmp hx hb dX5_trialGoesAs_33 ?_
    refine lv_if_eq (tgt := 39) hx hb dX5_trialGoesAs_34 (by decide) (fun c_6 => ?_) (fun c_6 => ?_)
    · skip
      have he := (lg_cmp_eq _ _).mp c_6
      rw [show (nI i).toNatClampNeg = i from hix] at he
      refine lv_aload_n hx hb dX5_trialGoesAs_39 rfl (lv_at hl 0 rfl) ?_
      refine va_get (ci := 3) (v := .ref (b 2 0)) (C := RX5) (T := TX5) (N := 7) hx hb hts inX5 hown hK hP 0 rfl rfl 1 (by decide) f16 (fun _ h9 => h9) rfl dX5_trialGoesAs_40 ?_
      refine callMv (va_runV (As := []) (rest := []) ⟨hx, hb, hml, hown, hts⟩ (k_X3_serveOne l D cI cL cS (b 2) (sCo (sPass i s2)) (sGu (sPass i s2)) (sKn (sPass i s2)) (sFo (sPass i s2)) (sSp (sPass i s2)) w2 (sKi (sPass i s2)) (sPl (sPass i s2)) (sEa (sPass i s2)) (sTo (sPass i s2)) (sQu (sPass i s2)) mo_3 ne_4 (va_DT (va_segD (hD _ rfl) 13 12 rfl) rfl) ((okS_pass o2 i).1) ((okS_pass o2 i).2) (pass_more (σ := s2) hMN.1 i) (pass_near (σ := s2) hMN.2 i)) (cwV 0 hts gX5_trialGoesAs_X3_serveOne rfl rfl rfl (by decide +kernel) ⟨Nat.le_of_ble_eq_true rfl, Nat.le_of_ble_eq_true rfl⟩) ⟨PcR_fb, va_recv hK hP (ci := 1) (q0 := 13) rfl rfl, PcR_pre (va_seg hP 13 12 rfl) hK⟩ rfl rfl hl.1 rfl (lv_room (Nat.le_of_ble_eq_true rfl)) dX5_trialGoesAs_43 ⟨Nat.zero_le _, Nat.zero_le _⟩) hP (hD _ rfl) hS 13 12 rfl (fun u_7 H locs hu_7 hP hS => ?_)
      have hP : va_P D vwCl (kcw cI cL cS b s1 w1 m1 n1 (uQu (uTo (uEa (uCo (sPass i s2) ((sCo (sPass i s2)) + 1)) (cEa (sGu (sPass i s2)) (sKn (sPass i s2)) (sFo (sPass i s2)) (sSp (sPass i s2)) (sKi (sPass i s2)) (sPl (sPass i s2)) (sEa (sPass i s2)))) (cTo (sGu (sPass i s2)) (sSp (sPass i s2)) (sKi (sPass i s2)) (sPl (sPass i s2)) (sEa (sPass i s2)) (sTo (sPass i s2)))) (cQu (sGu (sPass i s2)) (sKi (sPass i s2)) (sPl (sPass i s2)) (cEa (sGu (sPass i s2)) (sKn (sPass i s2)) (sFo (sPass i s2)) (sSp (sPass i s2)) (sKi (sPass i s2)) (sPl (sPass i s2)) (sEa (sPass i s2))) (sQu (sPass i s2)))) w2 mo_3 ne_4 s3 w3 m3 n3 ik bt ln tk sb en nm bits size num fnd) H := hP
      refine lv_iinc (v := nI (i + 1)) (lv' := [(3, .int (nI (i + 1))), (0, .ref (b 0 0)), (1, .ref (b 7 3)), (2, .int x1)]) hx hb dX5_trialGoesAs_46 hl (k := 3) rfl (nI_1 _) (by decide) rfl (fun ls hl => ?_)
      refine lv_goto (tgt := 9) hx hb dX5_trialGoesAs_49 (by decide) ?_
      have hP : va_P D vwCl (kcw cI cL cS b s1 w1 m1 n1 (sPass (i + 1) s2) w2 mo_3 ne_4 s3 w3 m3 n3 ik bt ln tk sb en nm bits size num fnd) H := by exact hP
      exact ih (n - 1) (by omega) (i + 1) H locs ls ⟨by omega, lt_s hi1 he, hP, hS, lv_sub hl [1, 2, 3, 0] rfl⟩
    · skip
      have he := mt (lg_cmp_eq _ _).mpr c_6
      rw [show (nI i).toNatClampNeg = i from hix] at he
      refine lv_iconst (v := 0) hx hb dX5_trialGoesAs_37 (by decide) ?_
      exact W.zret (ty := .boolean) hx hb hr rfl (fun t ht hW => ⟨⟨_, (sPass i s2, mo_3, ne_4), rfl, (by exact (bI_f (fun h => he (h i (by omega)))).symm), by dsimp only; rw [ht]; exact hP⟩, hS.F ht⟩) hS.2.2 dX5_trialGoesAs_38

set_option maxRecDepth 100000 in
set_option maxHeartbeats 4000000 in
theorem k_X5_read (l : Launch) (D : va_G) (cI cL cS : ClassId) (b : Nat → Nat → Nat) (s1 : Sg) (w1 m1 n1 : FI) (s2 : Sg) (w2 m2 n2 : FI) (s3 : Sg) (w3 m3 n3 : FI) (ik : Int32) (bt : FI) (ln tk sb en nm : Int32) (bits size : FI) (num : Nat → FJ) (fnd : FI) (x0 : Int32) (x1 : Int32) (dj : va_D (fun _ => True) (djk b)) (o1 : okS s1 w1) (oh : okH bits size) : Met l yX5_read wsX5_read { frames := 5, cells := 0, slots := 0, locals := 112 } (PcR D vwCl (tyG cI cL cS) [.ref (b 0 0), .int x0, .int x1] (kcw cI cL cS b s1 w1 m1 n1 s2 w2 m2 n2 s3 w3 m3 n3 ik bt ln tk sb en nm bits size num fnd)) (va_Qi (fun (r : Int32) (u : Sg × FI × FI × FI × FI) => (r, u.2.2.2.2) = sRead bits size num s1 fnd x0 x1) (fun u t => va_P D vwCl (kcw cI cL cS b s1 w1 m1 n1 u.1 u.2.1 u.2.2.1 u.2.2.2.1 s3 w3 m3 n3 ik bt ln tk sb en nm bits size num u.2.2.2.2) t.heap) (Aof (kcw cI cL cS b s1 w1 m1 n1 s2 w2 m2 n2 s3 w3 m3 n3 ik bt ln tk sb en nm bits size num fnd))) 0 0 (Aof (kcw cI cL cS b s1 w1 m1 n1 s2 w2 m2 n2 s3 w3 m3 n3 ik bt ln tk sb en nm bits size num fnd)) := by
  refine Met.ofW (cc := cX5_read) (maxL := 7) (ret := (some .int)) (by decide) rfl ?_
  intro p e s m args below meth c s₁ B hml hv
  obtain ⟨rfl, hP, hK⟩ := hv
  have hx := B.exec
  have hb := B.bytes
  have hr := B.returns
  have hts := atoms_spec (ws := wsX5_read) B.pre
  have hown : s.vm.findClass RX5 = some m.cls := findClass_of_methodNamed B.named
  have hlocks := B.notSynchronized
  obtain ⟨A, hAe⟩ : ∃ A, A = Aof (kcw cI cL cS b s1 w1 m1 n1 s2 w2 m2 n2 s3 w3 m3 n3 ik bt ln tk sb en nm bits size num fnd) := ⟨_, rfl⟩
  rw [← hAe]
  have hD : ∀ ws' : va_W, ws'.map Prod.fst = (kcw cI cL cS b s1 w1 m1 n1 s2 w2 m2 n2 s3 w3 m3 n3 ik bt ln tk sb en nm bits size num fnd).map Prod.fst → va_D A ws' := fun ws' e => by rw [hAe]; exact va_D_adr (va_D_self (va_D_adr dj rfl)) e
  have hS : va_S A s.heap s.heap [] := va_S.rf
  have hP : va_P D vwCl (kcw cI cL cS b s1 w1 m1 n1 s2 w2 m2 n2 s3 w3 m3 n3 ik bt ln tk sb en nm bits size num fnd) s.heap := hP
  have hl := lv_entry ([.ref (b 0 0), .int x0, .int x1]) (n := 7) (Nat.le_of_ble_eq_true rfl)
  rw [lg_entry_eq]
  generalize (lg_sl ([.ref (b 0 0), .int x0, .int x1]) ++ List.replicate (7 - (lg_sl ([.ref (b 0 0), .int x0, .int x1])).length) Slot.unset).toArray = ls at hl ⊢
  have hl : lv_has ls 7 [(0, .ref (b 0 0)), (1, .int x0), (2, .int x1)] := hl
  have f16 := hts (.fieldLink RX5 16 "KnivesLaid" "trial" "LKnivesLaid$Table;") (List.mem_of_getElem? (i := 1) rfl)
  have inX5 : ∀ w ∈ u_ws RX5 TX5 7, w ∈ wsX5_read := in_at 133 _ _ rfl
  have f10 := hts (.fieldLink RX5 10 "KnivesLaid" "table" "LKnivesLaid$Table;") (List.mem_of_getElem? (i := 2) rfl)
  have f101 := hts (.fieldLink RX5 101 "KnivesLaid$Table" "kinds" "[I") (List.mem_of_getElem? (i := 3) rfl)
  have inX3 : ∀ w ∈ u_ws RX3 TX3 13, w ∈ wsX5_read := in_at 140 _ _ rfl
  have f63 := hts (.fieldLink RX5 63 "KnivesLaid$Table" "spoons" "[I") (List.mem_of_getElem? (i := 4) rfl)
  have f104 := hts (.fieldLink RX5 104 "KnivesLaid$Table" "at" "[I") (List.mem_of_getElem? (i := 5) rfl)
  have f35 := hts (.fieldLink RX5 35 "KnivesLaid" "sheets" "[LKnivesLaid$Sheet;") (List.mem_of_getElem? (i := 6) rfl)
  skip
  refine lv_aload_n hx hb dX5_read_0 rfl (lv_at hl 0 rfl) ?_
  refine lv_iload_n hx hb dX5_read_1 rfl (lv_at hl 1 rfl) ?_
  refine lv_iload_n hx hb dX5_read_2 rfl (lv_at hl 2 rfl) ?_
  refine callE (W.runV (As := [.int x0, .int x1]) (rest := []) ⟨hx, hb, hml, hown, hts⟩ (k_X5_findingOfBook l D cI cL cS b s1 w1 m1 n1 s2 w2 m2 n2 s3 w3 m3 n3 ik bt ln tk sb en nm bits size num fnd x0 x1 o1) (cwV 2 hts gX5_read_X5_findingOfBook rfl rfl rfl (by decide +kernel) ⟨Nat.le_of_ble_eq_true rfl, Nat.le_of_ble_eq_true rfl⟩) ⟨PcR_fb, va_recv hK hP (ci := 3) (q0 := 0) rfl rfl, PcR_pre hP hK⟩ rfl rfl hl.1 rfl (lv_room (Nat.le_of_ble_eq_true rfl)) dX5_read_3 ⟨Nat.zero_le _, Nat.zero_le _⟩) ?_
  refine lv_istore_n (lv' := [(3, .int (sFob bits s1 x0 x1)), (0, .ref (b 0 0)), (1, .int x0), (2, .int x1)]) hx hb dX5_read_6 rfl hl (by decide) rfl (fun ls hl => ?_)
  refine lv_iload_n hx hb dX5_read_7 rfl (lv_at hl 0 rfl) ?_
  refine lv_if_eq (tgt := 17) hx hb dX5_read_8 (by decide) (fun c_1 => ?_) (fun c_1 => ?_)
  · skip
    have hf0 := c_1
    obtain ⟨hs, hbz, h1n⟩ := fob_0 hf0
    have h8 : vp_in x1 8 := in_8 o1.1.gu h1n
    have hpl := o1.1.pl h8
    rcases in4 hs with rfl | rfl | rfl | rfl
    · skip
      have hz := sz_of (oh 0 (by decide)).1
      refine lv_iconst (v := 0) hx hb dX5_read_17 (by decide) ?_
      refine lv_istore (lv' := [(4, .int 0), (3, .int (sFob bits s1 0 x1)), (0, .ref (b 0 0)), (1, .int 0), (2, .int x1)]) hx hb dX5_read_18 hl (by decide) rfl (fun ls hl => ?_)
      refine lv_iconst (v := 0) hx hb dX5_read_20 (by decide) ?_
      refine lv_istore (lv' := [(5, .int 0), (4, .int 0), (3, .int (sFob bits s1 0 x1)), (0, .ref (b 0 0)), (1, .int 0), (2, .int x1)]) hx hb dX5_read_21 hl (by decide) rfl (fun ls hl => ?_)
      refine lpW (fun n (u : Nat × Int32 × Sg × FI × FI × FI) H locs ls => (u.1 + n = 6) ∧ (u.2.1 = cntF (pRead num size s1 0 x1) (10 * u.1)) ∧ va_P D vwCl (kcw cI cL cS b s1 w1 m1 n1 u.2.2.1 u.2.2.2.1 u.2.2.2.2.1 u.2.2.2.2.2 s3 w3 m3 n3 ik bt ln tk sb en nm bits size num fnd) H ∧ va_S A s.heap H locs ∧ lv_has ls 7 [(0, .ref (b 0 0)), (1, .int 0), (2, .int x1), (4, .int u.2.1), (5, .int (nI u.1))]) (6) ((0, 0, s2, w2, m2, n2)) ⟨by omega, rfl, hP, hS, lv_sub hl [3, 4, 5, 1, 0] rfl⟩ (fun n ih u H locs ls hI => ?_)
      obtain ⟨kd, zz, sx, wx, mx, nx⟩ := u
      obtain ⟨hi0, hi1, hP, hS, hl⟩ := hI
      have hi0 : kd + n = 6 := hi0
      have hi1 : zz = cntF (pRead num size s1 0 x1) (10 * kd) := hi1
      have hl : lv_has ls 7 [(0, .ref (b 0 0)), (1, .int 0), (2, .int x1), (4, .int zz), (5, .int (nI kd))] := hl
      have hP : va_P D vwCl (kcw cI cL cS b s1 w1 m1 n1 sx wx mx nx s3 w3 m3 n3 ik bt ln tk sb en nm bits size num fnd) H := hP
      have ihk := ih
      refine lv_iload hx hb dX5_read_23 (lv_at hl 4 rfl) ?_
      refine lv_bipush (v := 6) hx hb dX5_read_25 (by decide) ?_
      refine lv_icmp_ge (tgt := 110) hx hb dX5_read_27 (by decide) (fun c_2 => ?_) (fun c_2 => ?_)
      · skip
        have c_2n := (cmp_le (a := 6) (b := kd) rfl rfl (by omega) (by omega)).mp c_2
        refine lv_iload hx hb dX5_read_110 (lv_at hl 3 rfl) ?_
        exact W.iret hx hb hr (fun t ht hW => ⟨⟨_, (sx, wx, mx, nx, fnd), rfl, (by refine Eq.symm ((iF_t hf0).trans ?_); rw [hi1, show 10 * kd = 60 by omega]), by dsimp only; rw [ht]; exact hP⟩, hS.F ht⟩) hS.2.2 dX5_read_112
      · skip
        have c_2n := mt (cmp_le (a := 6) (b := kd) rfl rfl (by omega) (by omega)).mpr c_2
        refine lv_iconst (v := 0) hx hb dX5_read_30 (by decide) ?_
        refine lv_istore (lv' := [(6, .int 0), (0, .ref (b 0 0)), (1, .int 0), (2, .int x1), (4, .int zz), (5, .int (nI kd))]) hx hb dX5_read_31 hl (by decide) rfl (fun ls hl => ?_)
        obtain ⟨n0, hn0⟩ : ∃ z, z = n := ⟨_, rfl⟩
        refine lpW (fun n (u : Nat × Int32 × Sg × FI × FI × FI) H locs ls => (u.1 + n = 10) ∧ (u.2.1 = cntF (pRead num size s1 0 x1) (10 * kd + u.1)) ∧ va_P D vwCl (kcw cI cL cS b s1 w1 m1 n1 u.2.2.1 u.2.2.2.1 u.2.2.2.2.1 u.2.2.2.2.2 s3 w3 m3 n3 ik bt ln tk sb en nm bits size num fnd) H ∧ va_S A s.heap H locs ∧ lv_has ls 7 [(0, .ref (b 0 0)), (1, .int 0), (2, .int x1), (4, .int u.2.1), (5, .int (nI kd)), (6, .int (nI u.1))]) (10) ((0, zz, sx, wx, mx, nx)) ⟨by omega, hi1, hP, hS, lv_sub hl [1, 2, 3, 4, 5, 0] rfl⟩ (fun n ih u H locs ls hI => ?_)
        obtain ⟨hh, z2, sy, wy, my, ny⟩ := u
        obtain ⟨hj0, hj1, hP, hS, hl⟩ := hI
        have hj0 : hh + n = 10 := hj0
        have hj1 : z2 = cntF (pRead num size s1 0 x1) (10 * kd + hh) := hj1
        have hl : lv_has ls 7 [(0, .ref (b 0 0)), (1, .int 0), (2, .int x1), (4, .int z2), (5, .int (nI kd)), (6, .int (nI hh))] := hl
        have hP : va_P D vwCl (kcw cI cL cS b s1 w1 m1 n1 sy wy my ny s3 w3 m3 n3 ik bt ln tk sb en nm bits size num fnd) H := hP
        refine lv_iload hx hb dX5_read_33 (lv_at hl 5 rfl) ?_
        refine lv_bipush (v := 9) hx hb dX5_read_35 (by decide) ?_
        refine lv_icmp_gt (tgt := 104) hx hb dX5_read_37 (by decide) (fun c_3 => ?_) (fun c_3 => ?_)
        · skip
          have c_3n := (cmp_lt (a := 9) (b := hh) rfl rfl (by omega) (by omega)).mp c_3
          refine lv_iinc (v := nI (kd + 1)) (lv' := [(5, .int (nI (kd + 1))), (0, .ref (b 0 0)), (1, .int 0), (2, .int x1), (4, .int z2), (6, .int (nI hh))]) hx hb dX5_read_104 hl (k := 4) rfl (nI_1 _) (by decide) rfl (fun ls hl => ?_)
          refine lv_goto (tgt := 23) hx hb dX5_read_107 (by decide) ?_
          exact ihk (n0 - 1) (by omega) ((kd + 1, z2, sy, wy, my, ny)) H locs ls ⟨by omega, by rw [hj1, show 10 * kd + hh = 10 * (kd + 1) by omega], hP, hS, lv_sub hl [1, 2, 3, 4, 0] rfl⟩
        · skip
          have c_3n := mt (cmp_lt (a := 9) (b := hh) rfl rfl (by omega) (by omega)).mpr c_3
          refine lv_aload_n hx hb dX5_read_40 rfl (lv_at hl 0 rfl) ?_
          refine va_get (ci := 3) (v := .ref (b 2 0)) (C := RX5) (T := TX5) (N := 7) hx hb hts inX5 hown hK hP 0 rfl rfl 1 (by decide) f16 (fun _ h9 => h9) rfl dX5_read_41 ?_
          refine lv_aload_n hx hb dX5_read_44 rfl (lv_at hl 0 rfl) ?_
          refine va_get (ci := 3) (v := .ref (b 1 0)) (C := RX5) (T := TX5) (N := 7) hx hb hts inX5 hown hK hP 0 rfl rfl 0 (by decide) f10 (fun _ h9 => h9) rfl dX5_read_45 ?_
          refine callBec (wt := tbw cI (b 2) (sCo sy) (sGu sy) (sKn sy) (sFo sy) (sSp sy) wy (sKi sy) (sPl sy) (sEa sy) (sTo sy) (sQu sy) my ny) (wo := tbw cI (b 1) (sCo s1) (sGu s1) (sKn s1) (sFo s1) (sSp s1) w1 (sKi s1) (sPl s1) (sEa s1) (sTo s1) (sQu s1) m1 n1) (w1 := tbw cI (b 2) (sCo s1) (sGu s1) (sKn s1) (sFo s1) (sSp s1) w1 (sKi s1) (sPl s1) (sEa s1) (sTo s1) (sQu s1) my ny) (va_runV (As := [.ref (b 1 0)]) (rest := []) ⟨hx, hb, hml, hown, hts⟩ (k_X3_become l D cI cL cS (b 2) (sCo sy) (sGu sy) (sKn sy) (sFo sy) (sSp sy) wy (sKi sy) (sPl sy) (sEa sy) (sTo sy) (sQu sy) my ny (b 1) (sCo s1) (sGu s1) (sKn s1) (sFo s1) (sSp s1) w1 (sKi s1) (sPl s1) (sEa s1) (sTo s1) (sQu s1) m1 n1 (va_DT (va_D.sub (ws' := tbw2 cI (b 2) (b 1) (sCo sy) (sGu sy) (sKn sy) (sFo sy) (sSp sy) wy (sKi sy) (sPl sy) (sEa sy) (sTo sy) (sQu sy) my ny (sCo s1) (sGu s1) (sKn s1) (sFo s1) (sSp s1) w1 (sKi s1) (sPl s1) (sEa s1) (sTo s1) (sQu s1) m1 n1) (hD (kcw cI cL cS b s1 w1 m1 n1 sy wy my ny s3 w3 m3 n3 ik bt ln tk sb en nm bits size num fnd) rfl) [13, 14, 15, 16, 17, 18, 19, 20, 21, 22, 23, 24, 1, 2, 3, 4, 5, 6, 7, 8, 9, 10, 11, 12] (by decide) rfl) rfl)) (cwV 1 hts gX5_read_X3_become rfl rfl rfl (by decide +kernel) ⟨Nat.le_of_ble_eq_true rfl, Nat.le_of_ble_eq_true rfl⟩) ⟨PcR_fb, va_recv hK hP (ci := 1) (q0 := 13) rfl rfl, PcR_pre (va_P.sub hP [13, 14, 15, 16, 17, 18, 19, 20, 21, 22, 23, 24, 1, 2, 3, 4, 5, 6, 7, 8, 9, 10, 11, 12] rfl) hK⟩ rfl rfl hl.1 rfl (lv_room (Nat.le_of_ble_eq_true rfl)) dX5_read_48 ⟨Nat.zero_le _, Nat.zero_le _⟩) hP (hD _ rfl) hS 13 12 1 12 rfl rfl rfl (fun H locs hP hS => ?_)
          have hP : va_P D vwCl (kcw cI cL cS b s1 w1 m1 n1 s1 w1 my ny s3 w3 m3 n3 ik bt ln tk sb en nm bits size num fnd) H := hP
          refine lv_aload_n hx hb dX5_read_51 rfl (lv_at hl 0 rfl) ?_
          refine va_get (ci := 3) (v := .ref (b 2 0)) (C := RX5) (T := TX5) (N := 7) hx hb hts inX5 hown hK hP 0 rfl rfl 1 (by decide) f16 (fun _ h9 => h9) rfl dX5_read_52 ?_
          refine va_get (ci := 1) (v := .ref (b 2 5)) (C := RX3) (T := TX3) (N := 13) hx hb hts inX3 hown hK hP 13 rfl rfl 6 (by decide) f101 (fun _ h9 => h9) rfl dX5_read_55 ?_
          refine lv_iload_n hx hb dX5_read_58 rfl (lv_at hl 2 rfl) ?_
          refine lv_iload hx hb dX5_read_59 (lv_at hl 4 rfl) ?_
          refine va_iast hx hb hK hP (hD _ rfl) hS 18 0 rfl rfl (by assumption) dX5_read_61 (fun H locs hP _ hS => ?_)
          have hP : va_P D vwCl (kcw cI cL cS b s1 w1 m1 n1 (uKi s1 (upd (sKi s1) (ix x1) (nI kd))) w1 my ny s3 w3 m3 n3 ik bt ln tk sb en nm bits size num fnd) H := hP
          refine lv_aload_n hx hb dX5_read_62 rfl (lv_at hl 0 rfl) ?_
          refine va_get (ci := 3) (v := .ref (b 2 0)) (C := RX5) (T := TX5) (N := 7) hx hb hts inX5 hown hK hP 0 rfl rfl 1 (by decide) f16 (fun _ h9 => h9) rfl dX5_read_63 ?_
          refine va_get (ci := 1) (v := .ref (b 2 3)) (C := RX3) (T := TX3) (N := 13) hx hb hts inX3 hown hK hP 13 rfl rfl 3 (by decide) f63 (fun _ h9 => h9) rfl dX5_read_66 ?_
          refine lv_aload_n hx hb dX5_read_69 rfl (lv_at hl 0 rfl) ?_
          refine va_get (ci := 3) (v := .ref (b 1 0)) (C := RX5) (T := TX5) (N := 7) hx hb hts inX5 hown hK hP 0 rfl rfl 0 (by decide) f10 (fun _ h9 => h9) rfl dX5_read_70 ?_
          refine va_get (ci := 1) (v := .ref (b 1 6)) (C := RX3) (T := TX3) (N := 13) hx hb hts inX3 hown hK hP 1 rfl rfl 7 (by decide) f104 (fun _ h9 => h9) rfl dX5_read_73 ?_
          refine lv_iload_n hx hb dX5_read_76 rfl (lv_at hl 2 rfl) ?_
          refine va_iald hx hb hK hP 7 0 rfl rfl (by assumption) dX5_read_77 ?_
          refine lv_iload hx hb dX5_read_78 (lv_at hl 5 rfl) ?_
          refine va_iast hx hb hK hP (hD _ rfl) hS 16 0 rfl rfl (by assumption) dX5_read_80 (fun H locs hP _ hS => ?_)
          have hP : va_P D vwCl (kcw cI cL cS b s1 w1 m1 n1 (uSp (uKi s1 (upd (sKi s1) (ix x1) (nI kd))) (upd (sSp (uKi s1 (upd (sKi s1) (ix x1) (nI kd)))) (ix ((sPl s1) (ix x1))) (nI hh))) w1 my ny s3 w3 m3 n3 ik bt ln tk sb en nm bits size num fnd) H := hP
          have hP : va_P D vwCl (kcw cI cL cS b s1 w1 m1 n1 (tRead s1 x1 (10 * kd + hh)) w1 my ny s3 w3 m3 n3 ik bt ln tk sb en nm bits size num fnd) H := by unfold tRead; rw [show (10 * kd + hh) / 10 = kd by omega, show (10 * kd + hh) % 10 = hh by omega]; exact hP
          refine lv_aload_n hx hb dX5_read_81 rfl (lv_at hl 0 rfl) ?_
          refine lv_aload_n hx hb dX5_read_82 rfl (lv_at hl 0 rfl) ?_
          refine va_get (ci := 3) (v := .ref (b 6 0)) (C := RX5) (T := TX5) (N := 7) hx hb hts inX5 hown hK hP 0 rfl rfl 5 (by decide) f35 (fun _ h9 => h9) rfl dX5_read_83 ?_
          refine lv_iload_n hx hb dX5_read_86 rfl (lv_at hl 1 rfl) ?_
          refine va_aldq (f := fun s => some (b 7 s)) hx hb hK hP 39 2 rfl rfl (vp_in_iff.mpr (by decide)) dX5_read_87 ?_
          refine W.eq (g2 := F0 m 88 ls [.ref (b 7 0), .ref (b 0 0)]) rfl ?_
          refine lv_iload_n hx hb dX5_read_88 rfl (lv_at hl 2 rfl) ?_
          refine callMi (va_runV (As := [.ref (b 7 0), .int x1]) (rest := []) ⟨hx, hb, hml, hown, hts⟩ (k_X5_trialGoesAs_0 l D cI cL cS b s1 w1 m1 n1 (tRead s1 x1 (10 * kd + hh)) w1 my ny s3 w3 m3 n3 ik bt ln tk sb en nm bits size num fnd x1 (va_DT (hD _ rfl) rfl) (ok_read o1 x1 (by omega)) hz h8) (cwV 2 hts gX5_read_X5_trialGoesAs rfl rfl rfl (by decide +kernel) ⟨Nat.le_of_ble_eq_true rfl, Nat.le_of_ble_eq_true rfl⟩) ⟨PcR_fb, va_recv hK hP (ci := 3) (q0 := 0) rfl rfl, PcR_pre hP hK⟩ rfl rfl hl.1 rfl (lv_room (Nat.le_of_ble_eq_true rfl)) dX5_read_89 ⟨Nat.zero_le _, Nat.zero_le _⟩) hP (hD _ rfl) hS 0 49 rfl (fun r_5 u_4 H locs hu_4 hP hS => ?_)
          obtain ⟨s2_6, m2_7, n2_8⟩ := u_4
          have hu_4 : r_5 = bI (pGoes (num 0) (ix (size 0)) (tRead s1 x1 (10 * kd + hh)) x1) := hu_4
          subst hu_4
          have hP : va_P D vwCl (kcw cI cL cS b s1 w1 m1 n1 s2_6 w1 m2_7 n2_8 s3 w3 m3 n3 ik bt ln tk sb en nm bits size num fnd) H := hP
          refine lv_if_eq (tgt := 98) hx hb dX5_read_92 (by decide) (fun c_9 => ?_) (fun c_9 => ?_)
          · skip
            have c_9b := bI_0 c_9
            refine lv_iinc (v := nI (hh + 1)) (lv' := [(6, .int (nI (hh + 1))), (0, .ref (b 0 0)), (1, .int 0), (2, .int x1), (4, .int z2), (5, .int (nI kd))]) hx hb dX5_read_98 hl (k := 5) rfl (nI_1 _) (by decide) rfl (fun ls hl => ?_)
            refine lv_goto (tgt := 33) hx hb dX5_read_101 (by decide) ?_
            exact ih (n - 1) (by omega) ((hh + 1, z2, s2_6, w1, m2_7, n2_8)) H locs ls ⟨by omega, cnt_f hj1 (by exact c_9b), hP, hS, lv_sub hl [1, 2, 3, 4, 5, 0] rfl⟩
          · skip
            have c_9b := bI_n c_9
            refine lv_iinc (v := z2 + 1) (lv' := [(4, .int (z2 + 1)), (0, .ref (b 0 0)), (1, .int 0), (2, .int x1), (5, .int (nI kd)), (6, .int (nI hh))]) hx hb dX5_read_95 hl (k := 3) rfl rfl (by decide) rfl (fun ls hl => ?_)
            refine lv_iinc (v := nI (hh + 1)) (lv' := [(6, .int (nI (hh + 1))), (4, .int (z2 + 1)), (0, .ref (b 0 0)), (1, .int 0), (2, .int x1), (5, .int (nI kd))]) hx hb dX5_read_98 hl (k := 5) rfl (nI_1 _) (by decide) rfl (fun ls hl => ?_)
            refine lv_goto (tgt := 33) hx hb dX5_read_101 (by decide) ?_
            exact ih (n - 1) (by omega) ((hh + 1, z2 + 1, s2_6, w1, m2_7, n2_8)) H locs ls ⟨by omega, cnt_t hj1 (by exact c_9b), hP, hS, lv_sub hl [2, 3, 4, 1, 5, 0] rfl⟩
    · skip
      have hz := sz_of (oh 1 (by decide)).1
      refine lv_iconst (v := 0) hx hb dX5_read_17 (by decide) ?_
      refine lv_istore (lv' := [(4, .int 0), (3, .int (sFob bits s1 1 x1)), (0, .ref (b 0 0)), (1, .int 1), (2, .int x1)]) hx hb dX5_read_18 hl (by decide) rfl (fun ls hl => ?_)
      refine lv_iconst (v := 0) hx hb dX5_read_20 (by decide) ?_
      refine lv_istore (lv' := [(5, .int 0), (4, .int 0), (3, .int (sFob bits s1 1 x1)), (0, .ref (b 0 0)), (1, .int 1), (2, .int x1)]) hx hb dX5_read_21 hl (by decide) rfl (fun ls hl => ?_)
      refine lpW (fun n (u : Nat × Int32 × Sg × FI × FI × FI) H locs ls => (u.1 + n = 6) ∧ (u.2.1 = cntF (pRead num size s1 1 x1) (10 * u.1)) ∧ va_P D vwCl (kcw cI cL cS b s1 w1 m1 n1 u.2.2.1 u.2.2.2.1 u.2.2.2.2.1 u.2.2.2.2.2 s3 w3 m3 n3 ik bt ln tk sb en nm bits size num fnd) H ∧ va_S A s.heap H locs ∧ lv_has ls 7 [(0, .ref (b 0 0)), (1, .int 1), (2, .int x1), (4, .int u.2.1), (5, .int (nI u.1))]) (6) ((0, 0, s2, w2, m2, n2)) ⟨by omega, rfl, hP, hS, lv_sub hl [3, 4, 5, 1, 0] rfl⟩ (fun n ih u H locs ls hI => ?_)
      obtain ⟨kd, zz, sx, wx, mx, nx⟩ := u
      obtain ⟨hi0, hi1, hP, hS, hl⟩ := hI
      have hi0 : kd + n = 6 := hi0
      have hi1 : zz = cntF (pRead num size s1 1 x1) (10 * kd) := hi1
      have hl : lv_has ls 7 [(0, .ref (b 0 0)), (1, .int 1), (2, .int x1), (4, .int zz), (5, .int (nI kd))] := hl
      have hP : va_P D vwCl (kcw cI cL cS b s1 w1 m1 n1 sx wx mx nx s3 w3 m3 n3 ik bt ln tk sb en nm bits size num fnd) H := hP
      have ihk := ih
      refine lv_iload hx hb dX5_read_23 (lv_at hl 4 rfl) ?_
      refine lv_bipush (v := 6) hx hb dX5_read_25 (by decide) ?_
      refine lv_icmp_ge (tgt := 110) hx hb dX5_read_27 (by decide) (fun c_10 => ?_) (fun c_10 => ?_)
      · skip
        have c_10n := (cmp_le (a := 6) (b := kd) rfl rfl (by omega) (by omega)).mp c_10
        refine lv_iload hx hb dX5_read_110 (lv_at hl 3 rfl) ?_
        exact W.iret hx hb hr (fun t ht hW => ⟨⟨_, (sx, wx, mx, nx, fnd), rfl, (by refine Eq.symm ((iF_t hf0).trans ?_); rw [hi1, show 10 * kd = 60 by omega]), by dsimp only; rw [ht]; exact hP⟩, hS.F ht⟩) hS.2.2 dX5_read_112
      · skip
        have c_10n := mt (cmp_le (a := 6) (b := kd) rfl rfl (by omega) (by omega)).mpr c_10
        refine lv_iconst (v := 0) hx hb dX5_read_30 (by decide) ?_
        refine lv_istore (lv' := [(6, .int 0), (0, .ref (b 0 0)), (1, .int 1), (2, .int x1), (4, .int zz), (5, .int (nI kd))]) hx hb dX5_read_31 hl (by decide) rfl (fun ls hl => ?_)
        obtain ⟨n0, hn0⟩ : ∃ z, z = n := ⟨_, rfl⟩
        refine lpW (fun n (u : Nat × Int32 × Sg × FI × FI × FI) H locs ls => (u.1 + n = 10) ∧ (u.2.1 = cntF (pRead num size s1 1 x1) (10 * kd + u.1)) ∧ va_P D vwCl (kcw cI cL cS b s1 w1 m1 n1 u.2.2.1 u.2.2.2.1 u.2.2.2.2.1 u.2.2.2.2.2 s3 w3 m3 n3 ik bt ln tk sb en nm bits size num fnd) H ∧ va_S A s.heap H locs ∧ lv_has ls 7 [(0, .ref (b 0 0)), (1, .int 1), (2, .int x1), (4, .int u.2.1), (5, .int (nI kd)), (6, .int (nI u.1))]) (10) ((0, zz, sx, wx, mx, nx)) ⟨by omega, hi1, hP, hS, lv_sub hl [1, 2, 3, 4, 5, 0] rfl⟩ (fun n ih u H locs ls hI => ?_)
        obtain ⟨hh, z2, sy, wy, my, ny⟩ := u
        obtain ⟨hj0, hj1, hP, hS, hl⟩ := hI
        have hj0 : hh + n = 10 := hj0
        have hj1 : z2 = cntF (pRead num size s1 1 x1) (10 * kd + hh) := hj1
        have hl : lv_has ls 7 [(0, .ref (b 0 0)), (1, .int 1), (2, .int x1), (4, .int z2), (5, .int (nI kd)), (6, .int (nI hh))] := hl
        have hP : va_P D vwCl (kcw cI cL cS b s1 w1 m1 n1 sy wy my ny s3 w3 m3 n3 ik bt ln tk sb en nm bits size num fnd) H := hP
        refine lv_iload hx hb dX5_read_33 (lv_at hl 5 rfl) ?_
        refine lv_bipush (v := 9) hx hb dX5_read_35 (by decide) ?_
        refine lv_icmp_gt (tgt := 104) hx hb dX5_read_37 (by decide) (fun c_11 => ?_) (fun c_11 => ?_)
        · skip
          have c_11n := (cmp_lt (a := 9) (b := hh) rfl rfl (by omega) (by omega)).mp c_11
          refine lv_iinc (v := nI (kd + 1)) (lv' := [(5, .int (nI (kd + 1))), (0, .ref (b 0 0)), (1, .int 1), (2, .int x1), (4, .int z2), (6, .int (nI hh))]) hx hb dX5_read_104 hl (k := 4) rfl (nI_1 _) (by decide) rfl (fun ls hl => ?_)
          refine lv_goto (tgt := 23) hx hb dX5_read_107 (by decide) ?_
          exact ihk (n0 - 1) (by omega) ((kd + 1, z2, sy, wy, my, ny)) H locs ls ⟨by omega, by rw [hj1, show 10 * kd + hh = 10 * (kd + 1) by omega], hP, hS, lv_sub hl [1, 2, 3, 4, 0] rfl⟩
        · skip
          have c_11n := mt (cmp_lt (a := 9) (b := hh) rfl rfl (by omega) (by omega)).mpr c_11
          refine lv_aload_n hx hb dX5_read_40 rfl (lv_at hl 0 rfl) ?_
          refine va_get (ci := 3) (v := .ref (b 2 0)) (C := RX5) (T := TX5) (N := 7) hx hb hts inX5 hown hK hP 0 rfl rfl 1 (by decide) f16 (fun _ h9 => h9) rfl dX5_read_41 ?_
          refine lv_aload_n hx hb dX5_read_44 rfl (lv_at hl 0 rfl) ?_
          refine va_get (ci := 3) (v := .ref (b 1 0)) (C := RX5) (T := TX5) (N := 7) hx hb hts inX5 hown hK hP 0 rfl rfl 0 (by decide) f10 (fun _ h9 => h9) rfl dX5_read_45 ?_
          refine callBec (wt := tbw cI (b 2) (sCo sy) (sGu sy) (sKn sy) (sFo sy) (sSp sy) wy (sKi sy) (sPl sy) (sEa sy) (sTo sy) (sQu sy) my ny) (wo := tbw cI (b 1) (sCo s1) (sGu s1) (sKn s1) (sFo s1) (sSp s1) w1 (sKi s1) (sPl s1) (sEa s1) (sTo s1) (sQu s1) m1 n1) (w1 := tbw cI (b 2) (sCo s1) (sGu s1) (sKn s1) (sFo s1) (sSp s1) w1 (sKi s1) (sPl s1) (sEa s1) (sTo s1) (sQu s1) my ny) (va_runV (As := [.ref (b 1 0)]) (rest := []) ⟨hx, hb, hml, hown, hts⟩ (k_X3_become l D cI cL cS (b 2) (sCo sy) (sGu sy) (sKn sy) (sFo sy) (sSp sy) wy (sKi sy) (sPl sy) (sEa sy) (sTo sy) (sQu sy) my ny (b 1) (sCo s1) (sGu s1) (sKn s1) (sFo s1) (sSp s1) w1 (sKi s1) (sPl s1) (sEa s1) (sTo s1) (sQu s1) m1 n1 (va_DT (va_D.sub (ws' := tbw2 cI (b 2) (b 1) (sCo sy) (sGu sy) (sKn sy) (sFo sy) (sSp sy) wy (sKi sy) (sPl sy) (sEa sy) (sTo sy) (sQu sy) my ny (sCo s1) (sGu s1) (sKn s1) (sFo s1) (sSp s1) w1 (sKi s1) (sPl s1) (sEa s1) (sTo s1) (sQu s1) m1 n1) (hD (kcw cI cL cS b s1 w1 m1 n1 sy wy my ny s3 w3 m3 n3 ik bt ln tk sb en nm bits size num fnd) rfl) [13, 14, 15, 16, 17, 18, 19, 20, 21, 22, 23, 24, 1, 2, 3, 4, 5, 6, 7, 8, 9, 10, 11, 12] (by decide) rfl) rfl)) (cwV 1 hts gX5_read_X3_become rfl rfl rfl (by decide +kernel) ⟨Nat.le_of_ble_eq_true rfl, Nat.le_of_ble_eq_true rfl⟩) ⟨PcR_fb, va_recv hK hP (ci := 1) (q0 := 13) rfl rfl, PcR_pre (va_P.sub hP [13, 14, 15, 16, 17, 18, 19, 20, 21, 22, 23, 24, 1, 2, 3, 4, 5, 6, 7, 8, 9, 10, 11, 12] rfl) hK⟩ rfl rfl hl.1 rfl (lv_room (Nat.le_of_ble_eq_true rfl)) dX5_read_48 ⟨Nat.zero_le _, Nat.zero_le _⟩) hP (hD _ rfl) hS 13 12 1 12 rfl rfl rfl (fun H locs hP hS => ?_)
          have hP : va_P D vwCl (kcw cI cL cS b s1 w1 m1 n1 s1 w1 my ny s3 w3 m3 n3 ik bt ln tk sb en nm bits size num fnd) H := hP
          refine lv_aload_n hx hb dX5_read_51 rfl (lv_at hl 0 rfl) ?_
          refine va_get (ci := 3) (v := .ref (b 2 0)) (C := RX5) (T := TX5) (N := 7) hx hb hts inX5 hown hK hP 0 rfl rfl 1 (by decide) f16 (fun _ h9 => h9) rfl dX5_read_52 ?_
          refine va_get (ci := 1) (v := .ref (b 2 5)) (C := RX3) (T := TX3) (N := 13) hx hb hts inX3 hown hK hP 13 rfl rfl 6 (by decide) f101 (fun _ h9 => h9) rfl dX5_read_55 ?_
          refine lv_iload_n hx hb dX5_read_58 rfl (lv_at hl 2 rfl) ?_
          refine lv_iload hx hb dX5_read_59 (lv_at hl 4 rfl) ?_
          refine va_iast hx hb hK hP (hD _ rfl) hS 18 0 rfl rfl (by assumption) dX5_read_61 (fun H locs hP _ hS => ?_)
          have hP : va_P D vwCl (kcw cI cL cS b s1 w1 m1 n1 (uKi s1 (upd (sKi s1) (ix x1) (nI kd))) w1 my ny s3 w3 m3 n3 ik bt ln tk sb en nm bits size num fnd) H := hP
          refine lv_aload_n hx hb dX5_read_62 rfl (lv_at hl 0 rfl) ?_
          refine va_get (ci := 3) (v := .ref (b 2 0)) (C := RX5) (T := TX5) (N := 7) hx hb hts inX5 hown hK hP 0 rfl rfl 1 (by decide) f16 (fun _ h9 => h9) rfl dX5_read_63 ?_
          refine va_get (ci := 1) (v := .ref (b 2 3)) (C := RX3) (T := TX3) (N := 13) hx hb hts inX3 hown hK hP 13 rfl rfl 3 (by decide) f63 (fun _ h9 => h9) rfl dX5_read_66 ?_
          refine lv_aload_n hx hb dX5_read_69 rfl (lv_at hl 0 rfl) ?_
          refine va_get (ci := 3) (v := .ref (b 1 0)) (C := RX5) (T := TX5) (N := 7) hx hb hts inX5 hown hK hP 0 rfl rfl 0 (by decide) f10 (fun _ h9 => h9) rfl dX5_read_70 ?_
          refine va_get (ci := 1) (v := .ref (b 1 6)) (C := RX3) (T := TX3) (N := 13) hx hb hts inX3 hown hK hP 1 rfl rfl 7 (by decide) f104 (fun _ h9 => h9) rfl dX5_read_73 ?_
          refine lv_iload_n hx hb dX5_read_76 rfl (lv_at hl 2 rfl) ?_
          refine va_iald hx hb hK hP 7 0 rfl rfl (by assumption) dX5_read_77 ?_
          refine lv_iload hx hb dX5_read_78 (lv_at hl 5 rfl) ?_
          refine va_iast hx hb hK hP (hD _ rfl) hS 16 0 rfl rfl (by assumption) dX5_read_80 (fun H locs hP _ hS => ?_)
          have hP : va_P D vwCl (kcw cI cL cS b s1 w1 m1 n1 (uSp (uKi s1 (upd (sKi s1) (ix x1) (nI kd))) (upd (sSp (uKi s1 (upd (sKi s1) (ix x1) (nI kd)))) (ix ((sPl s1) (ix x1))) (nI hh))) w1 my ny s3 w3 m3 n3 ik bt ln tk sb en nm bits size num fnd) H := hP
          have hP : va_P D vwCl (kcw cI cL cS b s1 w1 m1 n1 (tRead s1 x1 (10 * kd + hh)) w1 my ny s3 w3 m3 n3 ik bt ln tk sb en nm bits size num fnd) H := by unfold tRead; rw [show (10 * kd + hh) / 10 = kd by omega, show (10 * kd + hh) % 10 = hh by omega]; exact hP
          refine lv_aload_n hx hb dX5_read_81 rfl (lv_at hl 0 rfl) ?_
          refine lv_aload_n hx hb dX5_read_82 rfl (lv_at hl 0 rfl) ?_
          refine va_get (ci := 3) (v := .ref (b 6 0)) (C := RX5) (T := TX5) (N := 7) hx hb hts inX5 hown hK hP 0 rfl rfl 5 (by decide) f35 (fun _ h9 => h9) rfl dX5_read_83 ?_
          refine lv_iload_n hx hb dX5_read_86 rfl (lv_at hl 1 rfl) ?_
          refine va_aldq (f := fun s => some (b 7 s)) hx hb hK hP 39 2 rfl rfl (vp_in_iff.mpr (by decide)) dX5_read_87 ?_
          refine W.eq (g2 := F0 m 88 ls [.ref (b 7 1), .ref (b 0 0)]) rfl ?_
          refine lv_iload_n hx hb dX5_read_88 rfl (lv_at hl 2 rfl) ?_
          refine callMi (va_runV (As := [.ref (b 7 1), .int x1]) (rest := []) ⟨hx, hb, hml, hown, hts⟩ (k_X5_trialGoesAs_1 l D cI cL cS b s1 w1 m1 n1 (tRead s1 x1 (10 * kd + hh)) w1 my ny s3 w3 m3 n3 ik bt ln tk sb en nm bits size num fnd x1 (va_DT (hD _ rfl) rfl) (ok_read o1 x1 (by omega)) hz h8) (cwV 2 hts gX5_read_X5_trialGoesAs rfl rfl rfl (by decide +kernel) ⟨Nat.le_of_ble_eq_true rfl, Nat.le_of_ble_eq_true rfl⟩) ⟨PcR_fb, va_recv hK hP (ci := 3) (q0 := 0) rfl rfl, PcR_pre hP hK⟩ rfl rfl hl.1 rfl (lv_room (Nat.le_of_ble_eq_true rfl)) dX5_read_89 ⟨Nat.zero_le _, Nat.zero_le _⟩) hP (hD _ rfl) hS 0 49 rfl (fun r_13 u_12 H locs hu_12 hP hS => ?_)
          obtain ⟨s2_14, m2_15, n2_16⟩ := u_12
          have hu_12 : r_13 = bI (pGoes (num 1) (ix (size 1)) (tRead s1 x1 (10 * kd + hh)) x1) := hu_12
          subst hu_12
          have hP : va_P D vwCl (kcw cI cL cS b s1 w1 m1 n1 s2_14 w1 m2_15 n2_16 s3 w3 m3 n3 ik bt ln tk sb en nm bits size num fnd) H := hP
          refine lv_if_eq (tgt := 98) hx hb dX5_read_92 (by decide) (fun c_17 => ?_) (fun c_17 => ?_)
          · skip
            have c_17b := bI_0 c_17
            refine lv_iinc (v := nI (hh + 1)) (lv' := [(6, .int (nI (hh + 1))), (0, .ref (b 0 0)), (1, .int 1), (2, .int x1), (4, .int z2), (5, .int (nI kd))]) hx hb dX5_read_98 hl (k := 5) rfl (nI_1 _) (by decide) rfl (fun ls hl => ?_)
            refine lv_goto (tgt := 33) hx hb dX5_read_101 (by decide) ?_
            exact ih (n - 1) (by omega) ((hh + 1, z2, s2_14, w1, m2_15, n2_16)) H locs ls ⟨by omega, cnt_f hj1 (by exact c_17b), hP, hS, lv_sub hl [1, 2, 3, 4, 5, 0] rfl⟩
          · skip
            have c_17b := bI_n c_17
            refine lv_iinc (v := z2 + 1) (lv' := [(4, .int (z2 + 1)), (0, .ref (b 0 0)), (1, .int 1), (2, .int x1), (5, .int (nI kd)), (6, .int (nI hh))]) hx hb dX5_read_95 hl (k := 3) rfl rfl (by decide) rfl (fun ls hl => ?_)
            refine lv_iinc (v := nI (hh + 1)) (lv' := [(6, .int (nI (hh + 1))), (4, .int (z2 + 1)), (0, .ref (b 0 0)), (1, .int 1), (2, .int x1), (5, .int (nI kd))]) hx hb dX5_read_98 hl (k := 5) rfl (nI_1 _) (by decide) rfl (fun ls hl => ?_)
            refine lv_goto (tgt := 33) hx hb dX5_read_101 (by decide) ?_
            exact ih (n - 1) (by omega) ((hh + 1, z2 + 1, s2_14, w1, m2_15, n2_16)) H locs ls ⟨by omega, cnt_t hj1 (by exact c_17b), hP, hS, lv_sub hl [2, 3, 4, 1, 5, 0] rfl⟩
    · skip
      have hz := sz_of (oh 2 (by decide)).1
      refine lv_iconst (v := 0) hx hb dX5_read_17 (by decide) ?_
      refine lv_istore (lv' := [(4, .int 0), (3, .int (sFob bits s1 2 x1)), (0, .ref (b 0 0)), (1, .int 2), (2, .int x1)]) hx hb dX5_read_18 hl (by decide) rfl (fun ls hl => ?_)
      refine lv_iconst (v := 0) hx hb dX5_read_20 (by decide) ?_
      refine lv_istore (lv' := [(5, .int 0), (4, .int 0), (3, .int (sFob bits s1 2 x1)), (0, .ref (b 0 0)), (1, .int 2), (2, .int x1)]) hx hb dX5_read_21 hl (by decide) rfl (fun ls hl => ?_)
      refine lpW (fun n (u : Nat × Int32 × Sg × FI × FI × FI) H locs ls => (u.1 + n = 6) ∧ (u.2.1 = cntF (pRead num size s1 2 x1) (10 * u.1)) ∧ va_P D vwCl (kcw cI cL cS b s1 w1 m1 n1 u.2.2.1 u.2.2.2.1 u.2.2.2.2.1 u.2.2.2.2.2 s3 w3 m3 n3 ik bt ln tk sb en nm bits size num fnd) H ∧ va_S A s.heap H locs ∧ lv_has ls 7 [(0, .ref (b 0 0)), (1, .int 2), (2, .int x1), (4, .int u.2.1), (5, .int (nI u.1))]) (6) ((0, 0, s2, w2, m2, n2)) ⟨by omega, rfl, hP, hS, lv_sub hl [3, 4, 5, 1, 0] rfl⟩ (fun n ih u H locs ls hI => ?_)
      obtain ⟨kd, zz, sx, wx, mx, nx⟩ := u
      obtain ⟨hi0, hi1, hP, hS, hl⟩ := hI
      have hi0 : kd + n = 6 := hi0
      have hi1 : zz = cntF (pRead num size s1 2 x1) (10 * kd) := hi1
      have hl : lv_has ls 7 [(0, .ref (b 0 0)), (1, .int 2), (2, .int x1), (4, .int zz), (5, .int (nI kd))] := hl
      have hP : va_P D vwCl (kcw cI cL cS b s1 w1 m1 n1 sx wx mx nx s3 w3 m3 n3 ik bt ln tk sb en nm bits size num fnd) H := hP
      have ihk := ih
      refine lv_iload hx hb dX5_read_23 (lv_at hl 4 rfl) ?_
      refine lv_bipush (v := 6) hx hb dX5_read_25 (by decide) ?_
      refine lv_icmp_ge (tgt := 110) hx hb dX5_read_27 (by decide) (fun c_18 => ?_) (fun c_18 => ?_)
      · skip
        have c_18n := (cmp_le (a := 6) (b := kd) rfl rfl (by omega) (by omega)).mp c_18
        refine lv_iload hx hb dX5_read_110 (lv_at hl 3 rfl) ?_
        exact W.iret hx hb hr (fun t ht hW => ⟨⟨_, (sx, wx, mx, nx, fnd), rfl, (by refine Eq.symm ((iF_t hf0).trans ?_); rw [hi1, show 10 * kd = 60 by omega]), by dsimp only; rw [ht]; exact hP⟩, hS.F ht⟩) hS.2.2 dX5_read_112
      · skip
        have c_18n := mt (cmp_le (a := 6) (b := kd) rfl rfl (by omega) (by omega)).mpr c_18
        refine lv_iconst (v := 0) hx hb dX5_read_30 (by decide) ?_
        refine lv_istore (lv' := [(6, .int 0), (0, .ref (b 0 0)), (1, .int 2), (2, .int x1), (4, .int zz), (5, .int (nI kd))]) hx hb dX5_read_31 hl (by decide) rfl (fun ls hl => ?_)
        obtain ⟨n0, hn0⟩ : ∃ z, z = n := ⟨_, rfl⟩
        refine lpW (fun n (u : Nat × Int32 × Sg × FI × FI × FI) H locs ls => (u.1 + n = 10) ∧ (u.2.1 = cntF (pRead num size s1 2 x1) (10 * kd + u.1)) ∧ va_P D vwCl (kcw cI cL cS b s1 w1 m1 n1 u.2.2.1 u.2.2.2.1 u.2.2.2.2.1 u.2.2.2.2.2 s3 w3 m3 n3 ik bt ln tk sb en nm bits size num fnd) H ∧ va_S A s.heap H locs ∧ lv_has ls 7 [(0, .ref (b 0 0)), (1, .int 2), (2, .int x1), (4, .int u.2.1), (5, .int (nI kd)), (6, .int (nI u.1))]) (10) ((0, zz, sx, wx, mx, nx)) ⟨by omega, hi1, hP, hS, lv_sub hl [1, 2, 3, 4, 5, 0] rfl⟩ (fun n ih u H locs ls hI => ?_)
        obtain ⟨hh, z2, sy, wy, my, ny⟩ := u
        obtain ⟨hj0, hj1, hP, hS, hl⟩ := hI
        have hj0 : hh + n = 10 := hj0
        have hj1 : z2 = cntF (pRead num size s1 2 x1) (10 * kd + hh) := hj1
        have hl : lv_has ls 7 [(0, .ref (b 0 0)), (1, .int 2), (2, .int x1), (4, .int z2), (5, .int (nI kd)), (6, .int (nI hh))] := hl
        have hP : va_P D vwCl (kcw cI cL cS b s1 w1 m1 n1 sy wy my ny s3 w3 m3 n3 ik bt ln tk sb en nm bits size num fnd) H := hP
        refine lv_iload hx hb dX5_read_33 (lv_at hl 5 rfl) ?_
        refine lv_bipush (v := 9) hx hb dX5_read_35 (by decide) ?_
        refine lv_icmp_gt (tgt := 104) hx hb dX5_read_37 (by decide) (fun c_19 => ?_) (fun c_19 => ?_)
        · skip
          have c_19n := (cmp_lt (a := 9) (b := hh) rfl rfl (by omega) (by omega)).mp c_19
          refine lv_iinc (v := nI (kd + 1)) (lv' := [(5, .int (nI (kd + 1))), (0, .ref (b 0 0)), (1, .int 2), (2, .int x1), (4, .int z2), (6, .int (nI hh))]) hx hb dX5_read_104 hl (k := 4) rfl (nI_1 _) (by decide) rfl (fun ls hl => ?_)
          refine lv_goto (tgt := 23) hx hb dX5_read_107 (by decide) ?_
          exact ihk (n0 - 1) (by omega) ((kd + 1, z2, sy, wy, my, ny)) H locs ls ⟨by omega, by rw [hj1, show 10 * kd + hh = 10 * (kd + 1) by omega], hP, hS, lv_sub hl [1, 2, 3, 4, 0] rfl⟩
        · skip
          have c_19n := mt (cmp_lt (a := 9) (b := hh) rfl rfl (by omega) (by omega)).mpr c_19
          refine lv_aload_n hx hb dX5_read_40 rfl (lv_at hl 0 rfl) ?_
          refine va_get (ci := 3) (v := .ref (b 2 0)) (C := RX5) (T := TX5) (N := 7) hx hb hts inX5 hown hK hP 0 rfl rfl 1 (by decide) f16 (fun _ h9 => h9) rfl dX5_read_41 ?_
          refine lv_aload_n hx hb dX5_read_44 rfl (lv_at hl 0 rfl) ?_
          refine va_get (ci := 3) (v := .ref (b 1 0)) (C := RX5) (T := TX5) (N := 7) hx hb hts inX5 hown hK hP 0 rfl rfl 0 (by decide) f10 (fun _ h9 => h9) rfl dX5_read_45 ?_
          refine callBec (wt := tbw cI (b 2) (sCo sy) (sGu sy) (sKn sy) (sFo sy) (sSp sy) wy (sKi sy) (sPl sy) (sEa sy) (sTo sy) (sQu sy) my ny) (wo := tbw cI (b 1) (sCo s1) (sGu s1) (sKn s1) (sFo s1) (sSp s1) w1 (sKi s1) (sPl s1) (sEa s1) (sTo s1) (sQu s1) m1 n1) (w1 := tbw cI (b 2) (sCo s1) (sGu s1) (sKn s1) (sFo s1) (sSp s1) w1 (sKi s1) (sPl s1) (sEa s1) (sTo s1) (sQu s1) my ny) (va_runV (As := [.ref (b 1 0)]) (rest := []) ⟨hx, hb, hml, hown, hts⟩ (k_X3_become l D cI cL cS (b 2) (sCo sy) (sGu sy) (sKn sy) (sFo sy) (sSp sy) wy (sKi sy) (sPl sy) (sEa sy) (sTo sy) (sQu sy) my ny (b 1) (sCo s1) (sGu s1) (sKn s1) (sFo s1) (sSp s1) w1 (sKi s1) (sPl s1) (sEa s1) (sTo s1) (sQu s1) m1 n1 (va_DT (va_D.sub (ws' := tbw2 cI (b 2) (b 1) (sCo sy) (sGu sy) (sKn sy) (sFo sy) (sSp sy) wy (sKi sy) (sPl sy) (sEa sy) (sTo sy) (sQu sy) my ny (sCo s1) (sGu s1) (sKn s1) (sFo s1) (sSp s1) w1 (sKi s1) (sPl s1) (sEa s1) (sTo s1) (sQu s1) m1 n1) (hD (kcw cI cL cS b s1 w1 m1 n1 sy wy my ny s3 w3 m3 n3 ik bt ln tk sb en nm bits size num fnd) rfl) [13, 14, 15, 16, 17, 18, 19, 20, 21, 22, 23, 24, 1, 2, 3, 4, 5, 6, 7, 8, 9, 10, 11, 12] (by decide) rfl) rfl)) (cwV 1 hts gX5_read_X3_become rfl rfl rfl (by decide +kernel) ⟨Nat.le_of_ble_eq_true rfl, Nat.le_of_ble_eq_true rfl⟩) ⟨PcR_fb, va_recv hK hP (ci := 1) (q0 := 13) rfl rfl, PcR_pre (va_P.sub hP [13, 14, 15, 16, 17, 18, 19, 20, 21, 22, 23, 24, 1, 2, 3, 4, 5, 6, 7, 8, 9, 10, 11, 12] rfl) hK⟩ rfl rfl hl.1 rfl (lv_room (Nat.le_of_ble_eq_true rfl)) dX5_read_48 ⟨Nat.zero_le _, Nat.zero_le _⟩) hP (hD _ rfl) hS 13 12 1 12 rfl rfl rfl (fun H locs hP hS => ?_)
          have hP : va_P D vwCl (kcw cI cL cS b s1 w1 m1 n1 s1 w1 my ny s3 w3 m3 n3 ik bt ln tk sb en nm bits size num fnd) H := hP
          refine lv_aload_n hx hb dX5_read_51 rfl (lv_at hl 0 rfl) ?_
          refine va_get (ci := 3) (v := .ref (b 2 0)) (C := RX5) (T := TX5) (N := 7) hx hb hts inX5 hown hK hP 0 rfl rfl 1 (by decide) f16 (fun _ h9 => h9) rfl dX5_read_52 ?_
          refine va_get (ci := 1) (v := .ref (b 2 5)) (C := RX3) (T := TX3) (N := 13) hx hb hts inX3 hown hK hP 13 rfl rfl 6 (by decide) f101 (fun _ h9 => h9) rfl dX5_read_55 ?_
          refine lv_iload_n hx hb dX5_read_58 rfl (lv_at hl 2 rfl) ?_
          refine lv_iload hx hb dX5_read_59 (lv_at hl 4 rfl) ?_
          refine va_iast hx hb hK hP (hD _ rfl) hS 18 0 rfl rfl (by assumption) dX5_read_61 (fun H locs hP _ hS => ?_)
          have hP : va_P D vwCl (kcw cI cL cS b s1 w1 m1 n1 (uKi s1 (upd (sKi s1) (ix x1) (nI kd))) w1 my ny s3 w3 m3 n3 ik bt ln tk sb en nm bits size num fnd) H := hP
          refine lv_aload_n hx hb dX5_read_62 rfl (lv_at hl 0 rfl) ?_
          refine va_get (ci := 3) (v := .ref (b 2 0)) (C := RX5) (T := TX5) (N := 7) hx hb hts inX5 hown hK hP 0 rfl rfl 1 (by decide) f16 (fun _ h9 => h9) rfl dX5_read_63 ?_
          refine va_get (ci := 1) (v := .ref (b 2 3)) (C := RX3) (T := TX3) (N := 13) hx hb hts inX3 hown hK hP 13 rfl rfl 3 (by decide) f63 (fun _ h9 => h9) rfl dX5_read_66 ?_
          refine lv_aload_n hx hb dX5_read_69 rfl (lv_at hl 0 rfl) ?_
          refine va_get (ci := 3) (v := .ref (b 1 0)) (C := RX5) (T := TX5) (N := 7) hx hb hts inX5 hown hK hP 0 rfl rfl 0 (by decide) f10 (fun _ h9 => h9) rfl dX5_read_70 ?_
          refine va_get (ci := 1) (v := .ref (b 1 6)) (C := RX3) (T := TX3) (N := 13) hx hb hts inX3 hown hK hP 1 rfl rfl 7 (by decide) f104 (fun _ h9 => h9) rfl dX5_read_73 ?_
          refine lv_iload_n hx hb dX5_read_76 rfl (lv_at hl 2 rfl) ?_
          refine va_iald hx hb hK hP 7 0 rfl rfl (by assumption) dX5_read_77 ?_
          refine lv_iload hx hb dX5_read_78 (lv_at hl 5 rfl) ?_
          refine va_iast hx hb hK hP (hD _ rfl) hS 16 0 rfl rfl (by assumption) dX5_read_80 (fun H locs hP _ hS => ?_)
          have hP : va_P D vwCl (kcw cI cL cS b s1 w1 m1 n1 (uSp (uKi s1 (upd (sKi s1) (ix x1) (nI kd))) (upd (sSp (uKi s1 (upd (sKi s1) (ix x1) (nI kd)))) (ix ((sPl s1) (ix x1))) (nI hh))) w1 my ny s3 w3 m3 n3 ik bt ln tk sb en nm bits size num fnd) H := hP
          have hP : va_P D vwCl (kcw cI cL cS b s1 w1 m1 n1 (tRead s1 x1 (10 * kd + hh)) w1 my ny s3 w3 m3 n3 ik bt ln tk sb en nm bits size num fnd) H := by unfold tRead; rw [show (10 * kd + hh) / 10 = kd by omega, show (10 * kd + hh) % 10 = hh by omega]; exact hP
          refine lv_aload_n hx hb dX5_read_81 rfl (lv_at hl 0 rfl) ?_
          refine lv_aload_n hx hb dX5_read_82 rfl (lv_at hl 0 rfl) ?_
          refine va_get (ci := 3) (v := .ref (b 6 0)) (C := RX5) (T := TX5) (N := 7) hx hb hts inX5 hown hK hP 0 rfl rfl 5 (by decide) f35 (fun _ h9 => h9) rfl dX5_read_83 ?_
          refine lv_iload_n hx hb dX5_read_86 rfl (lv_at hl 1 rfl) ?_
          refine va_aldq (f := fun s => some (b 7 s)) hx hb hK hP 39 2 rfl rfl (vp_in_iff.mpr (by decide)) dX5_read_87 ?_
          refine W.eq (g2 := F0 m 88 ls [.ref (b 7 2), .ref (b 0 0)]) rfl ?_
          refine lv_iload_n hx hb dX5_read_88 rfl (lv_at hl 2 rfl) ?_
          refine callMi (va_runV (As := [.ref (b 7 2), .int x1]) (rest := []) ⟨hx, hb, hml, hown, hts⟩ (k_X5_trialGoesAs_2 l D cI cL cS b s1 w1 m1 n1 (tRead s1 x1 (10 * kd + hh)) w1 my ny s3 w3 m3 n3 ik bt ln tk sb en nm bits size num fnd x1 (va_DT (hD _ rfl) rfl) (ok_read o1 x1 (by omega)) hz h8) (cwV 2 hts gX5_read_X5_trialGoesAs rfl rfl rfl (by decide +kernel) ⟨Nat.le_of_ble_eq_true rfl, Nat.le_of_ble_eq_true rfl⟩) ⟨PcR_fb, va_recv hK hP (ci := 3) (q0 := 0) rfl rfl, PcR_pre hP hK⟩ rfl rfl hl.1 rfl (lv_room (Nat.le_of_ble_eq_true rfl)) dX5_read_89 ⟨Nat.zero_le _, Nat.zero_le _⟩) hP (hD _ rfl) hS 0 49 rfl (fun r_21 u_20 H locs hu_20 hP hS => ?_)
          obtain ⟨s2_22, m2_23, n2_24⟩ := u_20
          have hu_20 : r_21 = bI (pGoes (num 2) (ix (size 2)) (tRead s1 x1 (10 * kd + hh)) x1) := hu_20
          subst hu_20
          have hP : va_P D vwCl (kcw cI cL cS b s1 w1 m1 n1 s2_22 w1 m2_23 n2_24 s3 w3 m3 n3 ik bt ln tk sb en nm bits size num fnd) H := hP
          refine lv_if_eq (tgt := 98) hx hb dX5_read_92 (by decide) (fun c_25 => ?_) (fun c_25 => ?_)
          · skip
            have c_25b := bI_0 c_25
            refine lv_iinc (v := nI (hh + 1)) (lv' := [(6, .int (nI (hh + 1))), (0, .ref (b 0 0)), (1, .int 2), (2, .int x1), (4, .int z2), (5, .int (nI kd))]) hx hb dX5_read_98 hl (k := 5) rfl (nI_1 _) (by decide) rfl (fun ls hl => ?_)
            refine lv_goto (tgt := 33) hx hb dX5_read_101 (by decide) ?_
            exact ih (n - 1) (by omega) ((hh + 1, z2, s2_22, w1, m2_23, n2_24)) H locs ls ⟨by omega, cnt_f hj1 (by exact c_25b), hP, hS, lv_sub hl [1, 2, 3, 4, 5, 0] rfl⟩
          · skip
            have c_25b := bI_n c_25
            refine lv_iinc (v := z2 + 1) (lv' := [(4, .int (z2 + 1)), (0, .ref (b 0 0)), (1, .int 2), (2, .int x1), (5, .int (nI kd)), (6, .int (nI hh))]) hx hb dX5_read_95 hl (k := 3) rfl rfl (by decide) rfl (fun ls hl => ?_)
            refine lv_iinc (v := nI (hh + 1)) (lv' := [(6, .int (nI (hh + 1))), (4, .int (z2 + 1)), (0, .ref (b 0 0)), (1, .int 2), (2, .int x1), (5, .int (nI kd))]) hx hb dX5_read_98 hl (k := 5) rfl (nI_1 _) (by decide) rfl (fun ls hl => ?_)
            refine lv_goto (tgt := 33) hx hb dX5_read_101 (by decide) ?_
            exact ih (n - 1) (by omega) ((hh + 1, z2 + 1, s2_22, w1, m2_23, n2_24)) H locs ls ⟨by omega, cnt_t hj1 (by exact c_25b), hP, hS, lv_sub hl [2, 3, 4, 1, 5, 0] rfl⟩
    · skip
      have hz := sz_of (oh 3 (by decide)).1
      refine lv_iconst (v := 0) hx hb dX5_read_17 (by decide) ?_
      refine lv_istore (lv' := [(4, .int 0), (3, .int (sFob bits s1 3 x1)), (0, .ref (b 0 0)), (1, .int 3), (2, .int x1)]) hx hb dX5_read_18 hl (by decide) rfl (fun ls hl => ?_)
      refine lv_iconst (v := 0) hx hb dX5_read_20 (by decide) ?_
      refine lv_istore (lv' := [(5, .int 0), (4, .int 0), (3, .int (sFob bits s1 3 x1)), (0, .ref (b 0 0)), (1, .int 3), (2, .int x1)]) hx hb dX5_read_21 hl (by decide) rfl (fun ls hl => ?_)
      refine lpW (fun n (u : Nat × Int32 × Sg × FI × FI × FI) H locs ls => (u.1 + n = 6) ∧ (u.2.1 = cntF (pRead num size s1 3 x1) (10 * u.1)) ∧ va_P D vwCl (kcw cI cL cS b s1 w1 m1 n1 u.2.2.1 u.2.2.2.1 u.2.2.2.2.1 u.2.2.2.2.2 s3 w3 m3 n3 ik bt ln tk sb en nm bits size num fnd) H ∧ va_S A s.heap H locs ∧ lv_has ls 7 [(0, .ref (b 0 0)), (1, .int 3), (2, .int x1), (4, .int u.2.1), (5, .int (nI u.1))]) (6) ((0, 0, s2, w2, m2, n2)) ⟨by omega, rfl, hP, hS, lv_sub hl [3, 4, 5, 1, 0] rfl⟩ (fun n ih u H locs ls hI => ?_)
      obtain ⟨kd, zz, sx, wx, mx, nx⟩ := u
      obtain ⟨hi0, hi1, hP, hS, hl⟩ := hI
      have hi0 : kd + n = 6 := hi0
      have hi1 : zz = cntF (pRead num size s1 3 x1) (10 * kd) := hi1
      have hl : lv_has ls 7 [(0, .ref (b 0 0)), (1, .int 3), (2, .int x1), (4, .int zz), (5, .int (nI kd))] := hl
      have hP : va_P D vwCl (kcw cI cL cS b s1 w1 m1 n1 sx wx mx nx s3 w3 m3 n3 ik bt ln tk sb en nm bits size num fnd) H := hP
      have ihk := ih
      refine lv_iload hx hb dX5_read_23 (lv_at hl 4 rfl) ?_
      refine lv_bipush (v := 6) hx hb dX5_read_25 (by decide) ?_
      refine lv_icmp_ge (tgt := 110) hx hb dX5_read_27 (by decide) (fun c_26 => ?_) (fun c_26 => ?_)
      · skip
        have c_26n := (cmp_le (a := 6) (b := kd) rfl rfl (by omega) (by omega)).mp c_26
        refine lv_iload hx hb dX5_read_110 (lv_at hl 3 rfl) ?_
        exact W.iret hx hb hr (fun t ht hW => ⟨⟨_, (sx, wx, mx, nx, fnd), rfl, (by refine Eq.symm ((iF_t hf0).trans ?_); rw [hi1, show 10 * kd = 60 by omega]), by dsimp only; rw [ht]; exact hP⟩, hS.F ht⟩) hS.2.2 dX5_read_112
      · skip
        have c_26n := mt (cmp_le (a := 6) (b := kd) rfl rfl (by omega) (by omega)).mpr c_26
        refine lv_iconst (v := 0) hx hb dX5_read_30 (by decide) ?_
        refine lv_istore (lv' := [(6, .int 0), (0, .ref (b 0 0)), (1, .int 3), (2, .int x1), (4, .int zz), (5, .int (nI kd))]) hx hb dX5_read_31 hl (by decide) rfl (fun ls hl => ?_)
        obtain ⟨n0, hn0⟩ : ∃ z, z = n := ⟨_, rfl⟩
        refine lpW (fun n (u : Nat × Int32 × Sg × FI × FI × FI) H locs ls => (u.1 + n = 10) ∧ (u.2.1 = cntF (pRead num size s1 3 x1) (10 * kd + u.1)) ∧ va_P D vwCl (kcw cI cL cS b s1 w1 m1 n1 u.2.2.1 u.2.2.2.1 u.2.2.2.2.1 u.2.2.2.2.2 s3 w3 m3 n3 ik bt ln tk sb en nm bits size num fnd) H ∧ va_S A s.heap H locs ∧ lv_has ls 7 [(0, .ref (b 0 0)), (1, .int 3), (2, .int x1), (4, .int u.2.1), (5, .int (nI kd)), (6, .int (nI u.1))]) (10) ((0, zz, sx, wx, mx, nx)) ⟨by omega, hi1, hP, hS, lv_sub hl [1, 2, 3, 4, 5, 0] rfl⟩ (fun n ih u H locs ls hI => ?_)
        obtain ⟨hh, z2, sy, wy, my, ny⟩ := u
        obtain ⟨hj0, hj1, hP, hS, hl⟩ := hI
        have hj0 : hh + n = 10 := hj0
        have hj1 : z2 = cntF (pRead num size s1 3 x1) (10 * kd + hh) := hj1
        have hl : lv_has ls 7 [(0, .ref (b 0 0)), (1, .int 3), (2, .int x1), (4, .int z2), (5, .int (nI kd)), (6, .int (nI hh))] := hl
        have hP : va_P D vwCl (kcw cI cL cS b s1 w1 m1 n1 sy wy my ny s3 w3 m3 n3 ik bt ln tk sb en nm bits size num fnd) H := hP
        refine lv_iload hx hb dX5_read_33 (lv_at hl 5 rfl) ?_
        refine lv_bipush (v := 9) hx hb dX5_read_35 (by decide) ?_
        refine lv_icmp_gt (tgt := 104) hx hb dX5_read_37 (by decide) (fun c_27 => ?_) (fun c_27 => ?_)
        · skip
          have c_27n := (cmp_lt (a := 9) (b := hh) rfl rfl (by omega) (by omega)).mp c_27
          refine lv_iinc (v := nI (kd + 1)) (lv' := [(5, .int (nI (kd + 1))), (0, .ref (b 0 0)), (1, .int 3), (2, .int x1), (4, .int z2), (6, .int (nI hh))]) hx hb dX5_read_104 hl (k := 4) rfl (nI_1 _) (by decide) rfl (fun ls hl => ?_)
          refine lv_goto (tgt := 23) hx hb dX5_read_107 (by decide) ?_
          exact ihk (n0 - 1) (by omega) ((kd + 1, z2, sy, wy, my, ny)) H locs ls ⟨by omega, by rw [hj1, show 10 * kd + hh = 10 * (kd + 1) by omega], hP, hS, lv_sub hl [1, 2, 3, 4, 0] rfl⟩
        · skip
          have c_27n := mt (cmp_lt (a := 9) (b := hh) rfl rfl (by omega) (by omega)).mpr c_27
          refine lv_aload_n hx hb dX5_read_40 rfl (lv_at hl 0 rfl) ?_
          refine va_get (ci := 3) (v := .ref (b 2 0)) (C := RX5) (T := TX5) (N := 7) hx hb hts inX5 hown hK hP 0 rfl rfl 1 (by decide) f16 (fun _ h9 => h9) rfl dX5_read_41 ?_
          refine lv_aload_n hx hb dX5_read_44 rfl (lv_at hl 0 rfl) ?_
          refine va_get (ci := 3) (v := .ref (b 1 0)) (C := RX5) (T := TX5) (N := 7) hx hb hts inX5 hown hK hP 0 rfl rfl 0 (by decide) f10 (fun _ h9 => h9) rfl dX5_read_45 ?_
          refine callBec (wt := tbw cI (b 2) (sCo sy) (sGu sy) (sKn sy) (sFo sy) (sSp sy) wy (sKi sy) (sPl sy) (sEa sy) (sTo sy) (sQu sy) my ny) (wo := tbw cI (b 1) (sCo s1) (sGu s1) (sKn s1) (sFo s1) (sSp s1) w1 (sKi s1) (sPl s1) (sEa s1) (sTo s1) (sQu s1) m1 n1) (w1 := tbw cI (b 2) (sCo s1) (sGu s1) (sKn s1) (sFo s1) (sSp s1) w1 (sKi s1) (sPl s1) (sEa s1) (sTo s1) (sQu s1) my ny) (va_runV (As := [.ref (b 1 0)]) (rest := []) ⟨hx, hb, hml, hown, hts⟩ (k_X3_become l D cI cL cS (b 2) (sCo sy) (sGu sy) (sKn sy) (sFo sy) (sSp sy) wy (sKi sy) (sPl sy) (sEa sy) (sTo sy) (sQu sy) my ny (b 1) (sCo s1) (sGu s1) (sKn s1) (sFo s1) (sSp s1) w1 (sKi s1) (sPl s1) (sEa s1) (sTo s1) (sQu s1) m1 n1 (va_DT (va_D.sub (ws' := tbw2 cI (b 2) (b 1) (sCo sy) (sGu sy) (sKn sy) (sFo sy) (sSp sy) wy (sKi sy) (sPl sy) (sEa sy) (sTo sy) (sQu sy) my ny (sCo s1) (sGu s1) (sKn s1) (sFo s1) (sSp s1) w1 (sKi s1) (sPl s1) (sEa s1) (sTo s1) (sQu s1) m1 n1) (hD (kcw cI cL cS b s1 w1 m1 n1 sy wy my ny s3 w3 m3 n3 ik bt ln tk sb en nm bits size num fnd) rfl) [13, 14, 15, 16, 17, 18, 19, 20, 21, 22, 23, 24, 1, 2, 3, 4, 5, 6, 7, 8, 9, 10, 11, 12] (by decide) rfl) rfl)) (cwV 1 hts gX5_read_X3_become rfl rfl rfl (by decide +kernel) ⟨Nat.le_of_ble_eq_true rfl, Nat.le_of_ble_eq_true rfl⟩) ⟨PcR_fb, va_recv hK hP (ci := 1) (q0 := 13) rfl rfl, PcR_pre (va_P.sub hP [13, 14, 15, 16, 17, 18, 19, 20, 21, 22, 23, 24, 1, 2, 3, 4, 5, 6, 7, 8, 9, 10, 11, 12] rfl) hK⟩ rfl rfl hl.1 rfl (lv_room (Nat.le_of_ble_eq_true rfl)) dX5_read_48 ⟨Nat.zero_le _, Nat.zero_le _⟩) hP (hD _ rfl) hS 13 12 1 12 rfl rfl rfl (fun H locs hP hS => ?_)
          have hP : va_P D vwCl (kcw cI cL cS b s1 w1 m1 n1 s1 w1 my ny s3 w3 m3 n3 ik bt ln tk sb en nm bits size num fnd) H := hP
          refine lv_aload_n hx hb dX5_read_51 rfl (lv_at hl 0 rfl) ?_
          refine va_get (ci := 3) (v := .ref (b 2 0)) (C := RX5) (T := TX5) (N := 7) hx hb hts inX5 hown hK hP 0 rfl rfl 1 (by decide) f16 (fun _ h9 => h9) rfl dX5_read_52 ?_
          refine va_get (ci := 1) (v := .ref (b 2 5)) (C := RX3) (T := TX3) (N := 13) hx hb hts inX3 hown hK hP 13 rfl rfl 6 (by decide) f101 (fun _ h9 => h9) rfl dX5_read_55 ?_
          refine lv_iload_n hx hb dX5_read_58 rfl (lv_at hl 2 rfl) ?_
          refine lv_iload hx hb dX5_read_59 (lv_at hl 4 rfl) ?_
          refine va_iast hx hb hK hP (hD _ rfl) hS 18 0 rfl rfl (by assumption) dX5_read_61 (fun H locs hP _ hS => ?_)
          have hP : va_P D vwCl (kcw cI cL cS b s1 w1 m1 n1 (uKi s1 (upd (sKi s1) (ix x1) (nI kd))) w1 my ny s3 w3 m3 n3 ik bt ln tk sb en nm bits size num fnd) H := hP
          refine lv_aload_n hx hb dX5_read_62 rfl (lv_at hl 0 rfl) ?_
          refine va_get (ci := 3) (v := .ref (b 2 0)) (C := RX5) (T := TX5) (N := 7) hx hb hts inX5 hown hK hP 0 rfl rfl 1 (by decide) f16 (fun _ h9 => h9) rfl dX5_read_63 ?_
          refine va_get (ci := 1) (v := .ref (b 2 3)) (C := RX3) (T := TX3) (N := 13) hx hb hts inX3 hown hK hP 13 rfl rfl 3 (by decide) f63 (fun _ h9 => h9) rfl dX5_read_66 ?_
          refine lv_aload_n hx hb dX5_read_69 rfl (lv_at hl 0 rfl) ?_
          refine va_get (ci := 3) (v := .ref (b 1 0)) (C := RX5) (T := TX5) (N := 7) hx hb hts inX5 hown hK hP 0 rfl rfl 0 (by decide) f10 (fun _ h9 => h9) rfl dX5_read_70 ?_
          refine va_get (ci := 1) (v := .ref (b 1 6)) (C := RX3) (T := TX3) (N := 13) hx hb hts inX3 hown hK hP 1 rfl rfl 7 (by decide) f104 (fun _ h9 => h9) rfl dX5_read_73 ?_
          refine lv_iload_n hx hb dX5_read_76 rfl (lv_at hl 2 rfl) ?_
          refine va_iald hx hb hK hP 7 0 rfl rfl (by assumption) dX5_read_77 ?_
          refine lv_iload hx hb dX5_read_78 (lv_at hl 5 rfl) ?_
          refine va_iast hx hb hK hP (hD _ rfl) hS 16 0 rfl rfl (by assumption) dX5_read_80 (fun H locs hP _ hS => ?_)
          have hP : va_P D vwCl (kcw cI cL cS b s1 w1 m1 n1 (uSp (uKi s1 (upd (sKi s1) (ix x1) (nI kd))) (upd (sSp (uKi s1 (upd (sKi s1) (ix x1) (nI kd)))) (ix ((sPl s1) (ix x1))) (nI hh))) w1 my ny s3 w3 m3 n3 ik bt ln tk sb en nm bits size num fnd) H := hP
          have hP : va_P D vwCl (kcw cI cL cS b s1 w1 m1 n1 (tRead s1 x1 (10 * kd + hh)) w1 my ny s3 w3 m3 n3 ik bt ln tk sb en nm bits size num fnd) H := by unfold tRead; rw [show (10 * kd + hh) / 10 = kd by omega, show (10 * kd + hh) % 10 = hh by omega]; exact hP
          refine lv_aload_n hx hb dX5_read_81 rfl (lv_at hl 0 rfl) ?_
          refine lv_aload_n hx hb dX5_read_82 rfl (lv_at hl 0 rfl) ?_
          refine va_get (ci := 3) (v := .ref (b 6 0)) (C := RX5) (T := TX5) (N := 7) hx hb hts inX5 hown hK hP 0 rfl rfl 5 (by decide) f35 (fun _ h9 => h9) rfl dX5_read_83 ?_
          refine lv_iload_n hx hb dX5_read_86 rfl (lv_at hl 1 rfl) ?_
          refine va_aldq (f := fun s => some (b 7 s)) hx hb hK hP 39 2 rfl rfl (vp_in_iff.mpr (by decide)) dX5_read_87 ?_
          refine W.eq (g2 := F0 m 88 ls [.ref (b 7 3), .ref (b 0 0)]) rfl ?_
          refine lv_iload_n hx hb dX5_read_88 rfl (lv_at hl 2 rfl) ?_
          refine callMi (va_runV (As := [.ref (b 7 3), .int x1]) (rest := []) ⟨hx, hb, hml, hown, hts⟩ (k_X5_trialGoesAs_3 l D cI cL cS b s1 w1 m1 n1 (tRead s1 x1 (10 * kd + hh)) w1 my ny s3 w3 m3 n3 ik bt ln tk sb en nm bits size num fnd x1 (va_DT (hD _ rfl) rfl) (ok_read o1 x1 (by omega)) hz h8) (cwV 2 hts gX5_read_X5_trialGoesAs rfl rfl rfl (by decide +kernel) ⟨Nat.le_of_ble_eq_true rfl, Nat.le_of_ble_eq_true rfl⟩) ⟨PcR_fb, va_recv hK hP (ci := 3) (q0 := 0) rfl rfl, PcR_pre hP hK⟩ rfl rfl hl.1 rfl (lv_room (Nat.le_of_ble_eq_true rfl)) dX5_read_89 ⟨Nat.zero_le _, Nat.zero_le _⟩) hP (hD _ rfl) hS 0 49 rfl (fun r_29 u_28 H locs hu_28 hP hS => ?_)
          obtain ⟨s2_30, m2_31, n2_32⟩ := u_28
          have hu_28 : r_29 = bI (pGoes (num 3) (ix (size 3)) (tRead s1 x1 (10 * kd + hh)) x1) := hu_28
          subst hu_28
          have hP : va_P D vwCl (kcw cI cL cS b s1 w1 m1 n1 s2_30 w1 m2_31 n2_32 s3 w3 m3 n3 ik bt ln tk sb en nm bits size num fnd) H := hP
          refine lv_if_eq (tgt := 98) hx hb dX5_read_92 (by decide) (fun c_33 => ?_) (fun c_33 => ?_)
          · skip
            have c_33b := bI_0 c_33
            refine lv_iinc (v := nI (hh + 1)) (lv' := [(6, .int (nI (hh + 1))), (0, .ref (b 0 0)), (1, .int 3), (2, .int x1), (4, .int z2), (5, .int (nI kd))]) hx hb dX5_read_98 hl (k := 5) rfl (nI_1 _) (by decide) rfl (fun ls hl => ?_)
            refine lv_goto (tgt := 33) hx hb dX5_read_101 (by decide) ?_
            exact ih (n - 1) (by omega) ((hh + 1, z2, s2_30, w1, m2_31, n2_32)) H locs ls ⟨by omega, cnt_f hj1 (by exact c_33b), hP, hS, lv_sub hl [1, 2, 3, 4, 5, 0] rfl⟩
          · skip
            have c_33b := bI_n c_33
            refine lv_iinc (v := z2 + 1) (lv' := [(4, .int (z2 + 1)), (0, .ref (b 0 0)), (1, .int 3), (2, .int x1), (5, .int (nI kd)), (6, .int (nI hh))]) hx hb dX5_read_95 hl (k := 3) rfl rfl (by decide) rfl (fun ls hl => ?_)
            refine lv_iinc (v := nI (hh + 1)) (lv' := [(6, .int (nI (hh + 1))), (4, .int (z2 + 1)), (0, .ref (b 0 0)), (1, .int 3), (2, .int x1), (5, .int (nI kd))]) hx hb dX5_read_98 hl (k := 5) rfl (nI_1 _) (by decide) rfl (fun ls hl => ?_)
            refine lv_goto (tgt := 33) hx hb dX5_read_101 (by decide) ?_
            exact ih (n - 1) (by omega) ((hh + 1, z2 + 1, s2_30, w1, m2_31, n2_32)) H locs ls ⟨by omega, cnt_t hj1 (by exact c_33b), hP, hS, lv_sub hl [2, 3, 4, 1, 5, 0] rfl⟩
  · skip
    refine lv_aload_n hx hb dX5_read_11 rfl (lv_at hl 1 rfl) ?_
    refine lv_iload_n hx hb dX5_read_12 rfl (lv_at hl 0 rfl) ?_
    refine callMi (va_runV (As := [.int (sFob bits s1 x0 x1)]) (rest := []) ⟨hx, hb, hml, hown, hts⟩ (k_X5_found l D cI cL cS b s1 w1 m1 n1 s2 w2 m2 n2 s3 w3 m3 n3 ik bt ln tk sb en nm bits size num fnd (sFob bits s1 x0 x1) (va_DT (hD _ rfl) rfl) (fob_in c_1)) (cwV 1 hts gX5_read_X5_found rfl rfl rfl (by decide +kernel) ⟨Nat.le_of_ble_eq_true rfl, Nat.le_of_ble_eq_true rfl⟩) ⟨PcR_fb, va_recv hK hP (ci := 3) (q0 := 0) rfl rfl, PcR_pre hP hK⟩ rfl rfl hl.1 rfl (lv_room (Nat.le_of_ble_eq_true rfl)) dX5_read_13 ⟨Nat.zero_le _, Nat.zero_le _⟩) hP (hD _ rfl) hS 0 49 rfl (fun r_35 u_34 H locs hu_34 hP hS => ?_)
    obtain ⟨hu_34r, -⟩ := hu_34
    subst hu_34r
    have hP : va_P D vwCl (kcw cI cL cS b s1 w1 m1 n1 s2 w2 m2 n2 s3 w3 m3 n3 ik bt ln tk sb en nm bits size num (bump fnd (sFob bits s1 x0 x1))) H := hP
    exact W.iret hx hb hr (fun t ht hW => ⟨⟨_, (s2, w2, m2, n2, bump fnd (sFob bits s1 x0 x1)), rfl, (by exact (iF_f c_1).symm), by dsimp only; rw [ht]; exact hP⟩, hS.F ht⟩) hS.2.2 dX5_read_16
