set_option maxRecDepth 100000 in
set_option maxHeartbeats 4000000 in
theorem k_X5_spoon (l : Launch) (D : va_G) (cI cL cS : ClassId) (b : Nat → Nat → Nat) (s1 : Sg) (w1 m1 n1 : FI) (s2 : Sg) (w2 m2 n2 : FI) (s3 : Sg) (w3 m3 n3 : FI) (ik : Int32) (bt : FI) (ln tk sb en nm : Int32) (bits size : FI) (num : Nat → FJ) (fnd : FI) (x0 : Int32) (x1 : Int32) (x2 : Int32) (dj : va_D (fun _ => True) (djk b)) (o1 : okS s1 w1) : Met l yX5_spoon wsX5_spoon { frames := 5, cells := 0, slots := 0, locals := 111 } (PcR D vwCl (tyG cI cL cS) [.ref (b 0 0), .int x0, .int x1, .int x2] (kcw cI cL cS b s1 w1 m1 n1 s2 w2 m2 n2 s3 w3 m3 n3 ik bt ln tk sb en nm bits size num fnd)) (va_Qi (fun (r : Int32) (u : Sg × FI × FI × FI × FI) => (r, u.2.2.2.2) = sSpoon s1 fnd x0 x1 x2) (fun u t => va_P D vwCl (kcw cI cL cS b s1 w1 m1 n1 u.1 u.2.1 u.2.2.1 u.2.2.2.1 s3 w3 m3 n3 ik bt ln tk sb en nm bits size num u.2.2.2.2) t.heap) (Aof (kcw cI cL cS b s1 w1 m1 n1 s2 w2 m2 n2 s3 w3 m3 n3 ik bt ln tk sb en nm bits size num fnd))) 0 0 (Aof (kcw cI cL cS b s1 w1 m1 n1 s2 w2 m2 n2 s3 w3 m3 n3 ik bt ln tk sb en nm bits size num fnd)) := by
  refine Met.ofW (cc := cX5_spoon) (maxL := 5) (ret := (some .int)) (by decide) rfl ?_
  intro p e s m args below meth c s₁ B hml hv
  obtain ⟨rfl, hP, hK⟩ := hv
  have hx := B.exec
  have hb := B.bytes
  have hr := B.returns
  have hts := atoms_spec (ws := wsX5_spoon) B.pre
  have hown : s.vm.findClass RX5 = some m.cls := findClass_of_methodNamed B.named
  have hlocks := B.notSynchronized
  obtain ⟨A, hAe⟩ : ∃ A, A = Aof (kcw cI cL cS b s1 w1 m1 n1 s2 w2 m2 n2 s3 w3 m3 n3 ik bt ln tk sb en nm bits size num fnd) := ⟨_, rfl⟩
  rw [← hAe]
  have hD : ∀ ws' : va_W, ws'.map Prod.fst = (kcw cI cL cS b s1 w1 m1 n1 s2 w2 m2 n2 s3 w3 m3 n3 ik bt ln tk sb en nm bits size num fnd).map Prod.fst → va_D A ws' := fun ws' e => by rw [hAe]; exact va_D_adr (va_D_self (va_D_adr dj rfl)) e
  have hS : va_S A s.heap s.heap [] := va_S.rf
  have hP : va_P D vwCl (kcw cI cL cS b s1 w1 m1 n1 s2 w2 m2 n2 s3 w3 m3 n3 ik bt ln tk sb en nm bits size num fnd) s.heap := hP
  have hl := lv_entry ([.ref (b 0 0), .int x0, .int x1, .int x2]) (n := 5) (Nat.le_of_ble_eq_true rfl)
  rw [lg_entry_eq]
  generalize (lg_sl ([.ref (b 0 0), .int x0, .int x1, .int x2]) ++ List.replicate (5 - (lg_sl ([.ref (b 0 0), .int x0, .int x1, .int x2])).length) Slot.unset).toArray = ls at hl ⊢
  have hl : lv_has ls 5 [(0, .ref (b 0 0)), (1, .int x0), (2, .int x1), (3, .int x2)] := hl
  have k52 := hts (.constant RX5 52 (-1000000001)) (List.mem_of_getElem? (i := 1) rfl)
  have k160 := hts (.constant RX5 160 (-1000000004)) (List.mem_of_getElem? (i := 5) rfl)
  have f16 := hts (.fieldLink RX5 16 "KnivesLaid" "trial" "LKnivesLaid$Table;") (List.mem_of_getElem? (i := 2) rfl)
  have inX5 : ∀ w ∈ u_ws RX5 TX5 7, w ∈ wsX5_spoon := in_at 123 _ _ rfl
  have f10 := hts (.fieldLink RX5 10 "KnivesLaid" "table" "LKnivesLaid$Table;") (List.mem_of_getElem? (i := 3) rfl)
  have f63 := hts (.fieldLink RX5 63 "KnivesLaid$Table" "spoons" "[I") (List.mem_of_getElem? (i := 4) rfl)
  have inX3 : ∀ w ∈ u_ws RX3 TX3 13, w ∈ wsX5_spoon := in_at 130 _ _ rfl
  skip
  refine lv_iload_n hx hb dX5_spoon_0 rfl (lv_at hl 1 rfl) ?_
  refine callE (W.runS (As := [.int x0]) (rest := []) ⟨hx, hb, hml, hown, hts⟩ (k_X5_isPlace l x0) (va_cwS 1 hts gX5_spoon_X5_isPlace rfl rfl rfl (by decide +kernel) ⟨Nat.le_of_ble_eq_true rfl, Nat.le_of_ble_eq_true rfl⟩) ⟨PcP_fb, fun U _ _ => ⟨rfl, trivial⟩⟩ rfl rfl hl.1 rfl (lv_room (Nat.le_of_ble_eq_true rfl)) dX5_spoon_1 ⟨Nat.zero_le _, Nat.zero_le _⟩) ?_
  refine lv_if_eq (tgt := 30) hx hb dX5_spoon_4 (by decide) (fun c_1 => ?_) (fun c_1 => ?_)
  · skip
    have c_1b := bI_0 c_1
    refine lv_aload_n hx hb dX5_spoon_30 rfl (lv_at hl 0 rfl) ?_
    refine lv_ldc hx hb hown k52 dX5_spoon_31 ?_
    refine callMi (va_runV (As := [.int (-1000000001)]) (rest := []) ⟨hx, hb, hml, hown, hts⟩ (k_X5_found l D cI cL cS b s1 w1 m1 n1 s2 w2 m2 n2 s3 w3 m3 n3 ik bt ln tk sb en nm bits size num fnd (-1000000001) (va_DT (hD _ rfl) rfl) (vp_in_iff.mpr (by decide))) (cwV 1 hts gX5_spoon_X5_found rfl rfl rfl (by decide +kernel) ⟨Nat.le_of_ble_eq_true rfl, Nat.le_of_ble_eq_true rfl⟩) ⟨PcR_fb, va_recv hK hP (ci := 3) (q0 := 0) rfl rfl, PcR_pre hP hK⟩ rfl rfl hl.1 rfl (lv_room (Nat.le_of_ble_eq_true rfl)) dX5_spoon_33 ⟨Nat.zero_le _, Nat.zero_le _⟩) hP (hD _ rfl) hS 0 49 rfl (fun r_3 u_2 H locs hu_2 hP hS => ?_)
    obtain ⟨hu_2r, -⟩ := hu_2
    subst hu_2r
    have hP : va_P D vwCl (kcw cI cL cS b s1 w1 m1 n1 s2 w2 m2 n2 s3 w3 m3 n3 ik bt ln tk sb en nm bits size num (bump fnd (-1000000001))) H := hP
    exact W.iret hx hb hr (fun t ht hW => ⟨⟨_, (s2, w2, m2, n2, bump fnd (-1000000001)), rfl, (by exact (iF_f (fun h => by first | exact absurd h.1 c_1b | exact absurd c_1b h.1 | exact absurd h.2.1 c_1b | exact absurd c_1b h.2.1 | exact absurd h.2.2 c_1b | exact absurd c_1b h.2.2)).symm), by dsimp only; rw [ht]; exact hP⟩, hS.F ht⟩) hS.2.2 dX5_spoon_36
  · skip
    have c_1b := bI_n c_1
    have h1n := c_1b
    refine lv_iload_n hx hb dX5_spoon_7 rfl (lv_at hl 2 rfl) ?_
    refine lv_iconst (v := 1) hx hb dX5_spoon_8 (by decide) ?_
    refine lv_bipush (v := 40) hx hb dX5_spoon_9 (by decide) ?_
    refine callE (W.runS (As := [.int x1, .int 1, .int 40]) (rest := []) ⟨hx, hb, hml, hown, hts⟩ (k_X5_within l x1 1 40) (va_cwS 3 hts gX5_spoon_X5_within rfl rfl rfl (by decide +kernel) ⟨Nat.le_of_ble_eq_true rfl, Nat.le_of_ble_eq_true rfl⟩) ⟨PcP_fb, fun U _ _ => ⟨rfl, trivial⟩⟩ rfl rfl hl.1 rfl (lv_room (Nat.le_of_ble_eq_true rfl)) dX5_spoon_11 ⟨Nat.zero_le _, Nat.zero_le _⟩) ?_
    refine lv_if_eq (tgt := 30) hx hb dX5_spoon_14 (by decide) (fun c_4 => ?_) (fun c_4 => ?_)
    · skip
      have c_4b := bI_0 c_4
      refine lv_aload_n hx hb dX5_spoon_30 rfl (lv_at hl 0 rfl) ?_
      refine lv_ldc hx hb hown k52 dX5_spoon_31 ?_
      refine callMi (va_runV (As := [.int (-1000000001)]) (rest := []) ⟨hx, hb, hml, hown, hts⟩ (k_X5_found l D cI cL cS b s1 w1 m1 n1 s2 w2 m2 n2 s3 w3 m3 n3 ik bt ln tk sb en nm bits size num fnd (-1000000001) (va_DT (hD _ rfl) rfl) (vp_in_iff.mpr (by decide))) (cwV 1 hts gX5_spoon_X5_found rfl rfl rfl (by decide +kernel) ⟨Nat.le_of_ble_eq_true rfl, Nat.le_of_ble_eq_true rfl⟩) ⟨PcR_fb, va_recv hK hP (ci := 3) (q0 := 0) rfl rfl, PcR_pre hP hK⟩ rfl rfl hl.1 rfl (lv_room (Nat.le_of_ble_eq_true rfl)) dX5_spoon_33 ⟨Nat.zero_le _, Nat.zero_le _⟩) hP (hD _ rfl) hS 0 49 rfl (fun r_6 u_5 H locs hu_5 hP hS => ?_)
      obtain ⟨hu_5r, -⟩ := hu_5
      subst hu_5r
      have hP : va_P D vwCl (kcw cI cL cS b s1 w1 m1 n1 s2 w2 m2 n2 s3 w3 m3 n3 ik bt ln tk sb en nm bits size num (bump fnd (-1000000001))) H := hP
      exact W.iret hx hb hr (fun t ht hW => ⟨⟨_, (s2, w2, m2, n2, bump fnd (-1000000001)), rfl, (by exact (iF_f (fun h => by first | exact absurd h.1 c_4b | exact absurd c_4b h.1 | exact absurd h.2.1 c_4b | exact absurd c_4b h.2.1 | exact absurd h.2.2 c_4b | exact absurd c_4b h.2.2)).symm), by dsimp only; rw [ht]; exact hP⟩, hS.F ht⟩) hS.2.2 dX5_spoon_36
    · skip
      have c_4b := bI_n c_4
      have hn := c_4b
      refine lv_iload_n hx hb dX5_spoon_17 rfl (lv_at hl 3 rfl) ?_
      refine lv_sipush (v := (-999)) hx hb dX5_spoon_18 (by decide) ?_
      refine lv_sipush (v := 999) hx hb dX5_spoon_21 (by decide) ?_
      refine callE (W.runS (As := [.int x2, .int (-999), .int 999]) (rest := []) ⟨hx, hb, hml, hown, hts⟩ (k_X5_within l x2 (-999) 999) (va_cwS 3 hts gX5_spoon_X5_within rfl rfl rfl (by decide +kernel) ⟨Nat.le_of_ble_eq_true rfl, Nat.le_of_ble_eq_true rfl⟩) ⟨PcP_fb, fun U _ _ => ⟨rfl, trivial⟩⟩ rfl rfl hl.1 rfl (lv_room (Nat.le_of_ble_eq_true rfl)) dX5_spoon_24 ⟨Nat.zero_le _, Nat.zero_le _⟩) ?_
      refine lv_if_ne (tgt := 37) hx hb dX5_spoon_27 (by decide) (fun c_7 => ?_) (fun c_7 => ?_)
      · skip
        have c_7b := bI_n c_7
        have hcc : vp_in x0 10 ∧ c40 x1 ∧ (¬ x2 < -999 ∧ ¬ 999 < x2) := ⟨h1n, hn, c_7b⟩
        refine lv_bipush (v := 9) hx hb dX5_spoon_37 (by decide) ?_
        refine lv_istore (lv' := [(4, .int 9), (0, .ref (b 0 0)), (1, .int x0), (2, .int x1), (3, .int x2)]) hx hb dX5_spoon_39 hl (by decide) rfl (fun ls hl => ?_)
        refine lpW (fun n (u : Nat × Int32 × Sg × FI × FI × FI) H locs ls => (u.1 ≤ 10) ∧ (n = u.1) ∧ (u.2.1 + 1 = nI u.1) ∧ (sSeekD (pSpoon s1 x0 x1 x2) 10 = sSeekD (pSpoon s1 x0 x1 x2) u.1) ∧ va_P D vwCl (kcw cI cL cS b s1 w1 m1 n1 u.2.2.1 u.2.2.2.1 u.2.2.2.2.1 u.2.2.2.2.2 s3 w3 m3 n3 ik bt ln tk sb en nm bits size num fnd) H ∧ va_S A s.heap H locs ∧ lv_has ls 5 [(0, .ref (b 0 0)), (1, .int x0), (2, .int x1), (3, .int x2), (4, .int u.2.1)]) (10) ((10, 9, s2, w2, m2, n2)) ⟨by omega, rfl, by show (9 : Int32) + 1 = nI 10; decide, rfl, hP, hS, lv_sub hl [1, 2, 3, 4, 0] rfl⟩ (fun n ih u H locs ls hI => ?_)
        obtain ⟨i, yy, sx, wx, mx, nx⟩ := u
        obtain ⟨hi0, hi1, hi2, hi3, hP, hS, hl⟩ := hI
        have hi0 : i ≤ 10 := hi0
        have hi1 : n = i := hi1
        have hi2 : yy + 1 = nI i := hi2
        have hi3 : sSeekD (pSpoon s1 x0 x1 x2) 10 = sSeekD (pSpoon s1 x0 x1 x2) i := hi3
        have hl : lv_has ls 5 [(0, .ref (b 0 0)), (1, .int x0), (2, .int x1), (3, .int x2), (4, .int yy)] := hl
        have hP : va_P D vwCl (kcw cI cL cS b s1 w1 m1 n1 sx wx mx nx s3 w3 m3 n3 ik bt ln tk sb en nm bits size num fnd) H := hP
        refine lv_iload hx hb dX5_spoon_41 (lv_at hl 4 rfl) ?_
        refine lv_if_lt (tgt := 96) hx hb dX5_spoon_43 (by decide) (fun c_8 => ?_) (fun c_8 => ?_)
        · skip
          have hz := dn_0 hi2 hi0 c_8
          refine lv_aload_n hx hb dX5_spoon_96 rfl (lv_at hl 0 rfl) ?_
          refine lv_ldc hx hb hown k160 dX5_spoon_97 ?_
          refine callMi (va_runV (As := [.int (-1000000004)]) (rest := []) ⟨hx, hb, hml, hown, hts⟩ (k_X5_found l D cI cL cS b s1 w1 m1 n1 sx wx mx nx s3 w3 m3 n3 ik bt ln tk sb en nm bits size num fnd (-1000000004) (va_DT (hD _ rfl) rfl) (vp_in_iff.mpr (by decide))) (cwV 1 hts gX5_spoon_X5_found rfl rfl rfl (by decide +kernel) ⟨Nat.le_of_ble_eq_true rfl, Nat.le_of_ble_eq_true rfl⟩) ⟨PcR_fb, va_recv hK hP (ci := 3) (q0 := 0) rfl rfl, PcR_pre hP hK⟩ rfl rfl hl.1 rfl (lv_room (Nat.le_of_ble_eq_true rfl)) dX5_spoon_99 ⟨Nat.zero_le _, Nat.zero_le _⟩) hP (hD _ rfl) hS 0 49 rfl (fun r_10 u_9 H locs hu_9 hP hS => ?_)
          obtain ⟨hu_9r, -⟩ := hu_9
          subst hu_9r
          have hP : va_P D vwCl (kcw cI cL cS b s1 w1 m1 n1 sx wx mx nx s3 w3 m3 n3 ik bt ln tk sb en nm bits size num (bump fnd (-1000000004))) H := hP
          exact W.iret hx hb hr (fun t ht hW => ⟨⟨_, (sx, wx, mx, nx, bump fnd (-1000000004)), rfl, (by unfold sSpoon; rw [iF_t hcc, hi3, hz]; exact end_no _), by dsimp only; rw [ht]; exact hP⟩, hS.F ht⟩) hS.2.2 dX5_spoon_102
        · skip
          obtain ⟨k, hk, hh⟩ := dn_s hi2 hi0 c_8
          refine lv_aload_n hx hb dX5_spoon_46 rfl (lv_at hl 0 rfl) ?_
          refine va_get (ci := 3) (v := .ref (b 2 0)) (C := RX5) (T := TX5) (N := 7) hx hb hts inX5 hown hK hP 0 rfl rfl 1 (by decide) f16 (fun _ h9 => h9) rfl dX5_spoon_47 ?_
          refine lv_aload_n hx hb dX5_spoon_50 rfl (lv_at hl 0 rfl) ?_
          refine va_get (ci := 3) (v := .ref (b 1 0)) (C := RX5) (T := TX5) (N := 7) hx hb hts inX5 hown hK hP 0 rfl rfl 0 (by decide) f10 (fun _ h9 => h9) rfl dX5_spoon_51 ?_
          refine callBec (wt := tbw cI (b 2) (sCo sx) (sGu sx) (sKn sx) (sFo sx) (sSp sx) wx (sKi sx) (sPl sx) (sEa sx) (sTo sx) (sQu sx) mx nx) (wo := tbw cI (b 1) (sCo s1) (sGu s1) (sKn s1) (sFo s1) (sSp s1) w1 (sKi s1) (sPl s1) (sEa s1) (sTo s1) (sQu s1) m1 n1) (w1 := tbw cI (b 2) (sCo s1) (sGu s1) (sKn s1) (sFo s1) (sSp s1) w1 (sKi s1) (sPl s1) (sEa s1) (sTo s1) (sQu s1) mx nx) (va_runV (As := [.ref (b 1 0)]) (rest := []) ⟨hx, hb, hml, hown, hts⟩ (k_X3_become l D cI cL cS (b 2) (sCo sx) (sGu sx) (sKn sx) (sFo sx) (sSp sx) wx (sKi sx) (sPl sx) (sEa sx) (sTo sx) (sQu sx) mx nx (b 1) (sCo s1) (sGu s1) (sKn s1) (sFo s1) (sSp s1) w1 (sKi s1) (sPl s1) (sEa s1) (sTo s1) (sQu s1) m1 n1 (va_DT (va_D.sub (ws' := tbw2 cI (b 2) (b 1) (sCo sx) (sGu sx) (sKn sx) (sFo sx) (sSp sx) wx (sKi sx) (sPl sx) (sEa sx) (sTo sx) (sQu sx) mx nx (sCo s1) (sGu s1) (sKn s1) (sFo s1) (sSp s1) w1 (sKi s1) (sPl s1) (sEa s1) (sTo s1) (sQu s1) m1 n1) (hD (kcw cI cL cS b s1 w1 m1 n1 sx wx mx nx s3 w3 m3 n3 ik bt ln tk sb en nm bits size num fnd) rfl) [13, 14, 15, 16, 17, 18, 19, 20, 21, 22, 23, 24, 1, 2, 3, 4, 5, 6, 7, 8, 9, 10, 11, 12] (by decide) rfl) rfl)) (cwV 1 hts gX5_spoon_X3_become rfl rfl rfl (by decide +kernel) ⟨Nat.le_of_ble_eq_true rfl, Nat.le_of_ble_eq_true rfl⟩) ⟨PcR_fb, va_recv hK hP (ci := 1) (q0 := 13) rfl rfl, PcR_pre (va_P.sub hP [13, 14, 15, 16, 17, 18, 19, 20, 21, 22, 23, 24, 1, 2, 3, 4, 5, 6, 7, 8, 9, 10, 11, 12] rfl) hK⟩ rfl rfl hl.1 rfl (lv_room (Nat.le_of_ble_eq_true rfl)) dX5_spoon_54 ⟨Nat.zero_le _, Nat.zero_le _⟩) hP (hD _ rfl) hS 13 12 1 12 rfl rfl rfl (fun H locs hP hS => ?_)
          have hP : va_P D vwCl (kcw cI cL cS b s1 w1 m1 n1 s1 w1 mx nx s3 w3 m3 n3 ik bt ln tk sb en nm bits size num fnd) H := hP
          refine lv_aload_n hx hb dX5_spoon_57 rfl (lv_at hl 0 rfl) ?_
          refine va_get (ci := 3) (v := .ref (b 2 0)) (C := RX5) (T := TX5) (N := 7) hx hb hts inX5 hown hK hP 0 rfl rfl 1 (by decide) f16 (fun _ h9 => h9) rfl dX5_spoon_58 ?_
          refine va_get (ci := 1) (v := .ref (b 2 3)) (C := RX3) (T := TX3) (N := 13) hx hb hts inX3 hown hK hP 13 rfl rfl 3 (by decide) f63 (fun _ h9 => h9) rfl dX5_spoon_61 ?_
          refine lv_iload_n hx hb dX5_spoon_64 rfl (lv_at hl 1 rfl) ?_
          refine lv_iload hx hb dX5_spoon_65 (lv_at hl 4 rfl) ?_
          refine va_iast hx hb hK hP (hD _ rfl) hS 16 0 rfl rfl h1n dX5_spoon_67 (fun H locs hP _ hS => ?_)
          have hP : va_P D vwCl (kcw cI cL cS b s1 w1 m1 n1 (uSp s1 (upd (sSp s1) (ix x0) yy)) w1 mx nx s3 w3 m3 n3 ik bt ln tk sb en nm bits size num fnd) H := hP
          have hP : va_P D vwCl (kcw cI cL cS b s1 w1 m1 n1 (tSpoon s1 x0 k) w1 mx nx s3 w3 m3 n3 ik bt ln tk sb en nm bits size num fnd) H := by rw [hh] at hP; exact hP
          refine lv_aload_n hx hb dX5_spoon_68 rfl (lv_at hl 0 rfl) ?_
          refine va_get (ci := 3) (v := .ref (b 2 0)) (C := RX5) (T := TX5) (N := 7) hx hb hts inX5 hown hK hP 0 rfl rfl 1 (by decide) f16 (fun _ h9 => h9) rfl dX5_spoon_69 ?_
          refine lv_iload_n hx hb dX5_spoon_72 rfl (lv_at hl 2 rfl) ?_
          refine callMv (va_runV (As := [.int x1]) (rest := []) ⟨hx, hb, hml, hown, hts⟩ (k_X3_serve l D cI cL cS (b 2) (sCo (tSpoon s1 x0 k)) (sGu (tSpoon s1 x0 k)) (sKn (tSpoon s1 x0 k)) (sFo (tSpoon s1 x0 k)) (sSp (tSpoon s1 x0 k)) w1 (sKi (tSpoon s1 x0 k)) (sPl (tSpoon s1 x0 k)) (sEa (tSpoon s1 x0 k)) (sTo (tSpoon s1 x0 k)) (sQu (tSpoon s1 x0 k)) mx nx x1 (va_DT (va_segD (hD _ rfl) 13 12 rfl) rfl) ((ok_spoon o1 x0 (i := k) (by omega)).1) ((ok_spoon o1 x0 (i := k) (by omega)).2) (wi_in hn (by decide) (by decide))) (cwV 1 hts gX5_spoon_X3_serve rfl rfl rfl (by decide +kernel) ⟨Nat.le_of_ble_eq_true rfl, Nat.le_of_ble_eq_true rfl⟩) ⟨PcR_fb, va_recv hK hP (ci := 1) (q0 := 13) rfl rfl, PcR_pre (va_seg hP 13 12 rfl) hK⟩ rfl rfl hl.1 rfl (lv_room (Nat.le_of_ble_eq_true rfl)) dX5_spoon_73 ⟨Nat.zero_le _, Nat.zero_le _⟩) hP (hD _ rfl) hS 13 12 rfl (fun u_11 H locs hu_11 hP hS => ?_)
          obtain ⟨mo_13, ne_14⟩ := u_11
          have hP : va_P D vwCl (kcw cI cL cS b s1 w1 m1 n1 (sPass (ix x1) (tSpoon s1 x0 k)) w1 mo_13 ne_14 s3 w3 m3 n3 ik bt ln tk sb en nm bits size num fnd) H := hP
          refine lv_aload_n hx hb dX5_spoon_76 rfl (lv_at hl 0 rfl) ?_
          refine va_get (ci := 3) (v := .ref (b 2 0)) (C := RX5) (T := TX5) (N := 7) hx hb hts inX5 hown hK hP 0 rfl rfl 1 (by decide) f16 (fun _ h9 => h9) rfl dX5_spoon_77 ?_
          refine callE (W.runV (As := []) (rest := []) ⟨hx, hb, hml, hown, hts⟩ (k_X3_easeOfAll l D cI cL cS (b 2) (sCo (sPass (ix x1) (tSpoon s1 x0 k))) (sGu (sPass (ix x1) (tSpoon s1 x0 k))) (sKn (sPass (ix x1) (tSpoon s1 x0 k))) (sFo (sPass (ix x1) (tSpoon s1 x0 k))) (sSp (sPass (ix x1) (tSpoon s1 x0 k))) w1 (sKi (sPass (ix x1) (tSpoon s1 x0 k))) (sPl (sPass (ix x1) (tSpoon s1 x0 k))) (sEa (sPass (ix x1) (tSpoon s1 x0 k))) (sTo (sPass (ix x1) (tSpoon s1 x0 k))) (sQu (sPass (ix x1) (tSpoon s1 x0 k))) mo_13 ne_14 ((okS_pass (ok_spoon o1 x0 (i := k) (by omega)) (ix x1)).1.gu)) (cwV 0 hts gX5_spoon_X3_easeOfAll rfl rfl rfl (by decide +kernel) ⟨Nat.le_of_ble_eq_true rfl, Nat.le_of_ble_eq_true rfl⟩) ⟨PcR_fb, va_recv hK hP (ci := 1) (q0 := 13) rfl rfl, PcR_pre (va_seg hP 13 12 rfl) hK⟩ rfl rfl hl.1 rfl (lv_room (Nat.le_of_ble_eq_true rfl)) dX5_spoon_80 ⟨Nat.zero_le _, Nat.zero_le _⟩) ?_
          refine lv_to (y := sSum (sEa (sPass (ix x1) (tSpoon s1 x0 k))) (ix (sGu s1))) (by rw [(pass_st (tSpoon s1 x0 k) (ix x1)).1]) ?_
          refine lv_iload_n hx hb dX5_spoon_83 rfl (lv_at hl 3 rfl) ?_
          refine lv_icmp_lt (tgt := 90) hx hb dX5_spoon_84 (by decide) (fun c_15 => ?_) (fun c_15 => ?_)
          · skip
            refine lv_iinc (v := yy + (-1)) (lv' := [(4, .int (yy + (-1))), (0, .ref (b 0 0)), (1, .int x0), (2, .int x1), (3, .int x2)]) hx hb dX5_spoon_90 hl (k := 4) rfl rfl (by decide) rfl (fun ls hl => ?_)
            refine lv_goto (tgt := 41) hx hb dX5_spoon_93 (by decide) ?_
            exact ih (k) (by omega) ((k, yy + (-1), sPass (ix x1) (tSpoon s1 x0 k), w1, mo_13, ne_14)) H locs ls ⟨by omega, rfl, by rw [hh]; exact m1p1 _, by rw [hi3, hk]; exact iF_f (fun h => h c_15), hP, hS, lv_sub hl [1, 2, 3, 4, 0] rfl⟩
          · skip
            refine lv_iload hx hb dX5_spoon_87 (lv_at hl 4 rfl) ?_
            exact W.iret hx hb hr (fun t ht hW => ⟨⟨_, (sPass (ix x1) (tSpoon s1 x0 k), w1, mo_13, ne_14, fnd), rfl, (by unfold sSpoon; rw [iF_t hcc, hi3, hk, show sSeekD (pSpoon s1 x0 x1 x2) (k + 1) = nI k from iF_t c_15, hh]; exact end_ok (by omega) _), by dsimp only; rw [ht]; exact hP⟩, hS.F ht⟩) hS.2.2 dX5_spoon_89
      · skip
        have c_7b := bI_0 c_7
        refine lv_aload_n hx hb dX5_spoon_30 rfl (lv_at hl 0 rfl) ?_
        refine lv_ldc hx hb hown k52 dX5_spoon_31 ?_
        refine callMi (va_runV (As := [.int (-1000000001)]) (rest := []) ⟨hx, hb, hml, hown, hts⟩ (k_X5_found l D cI cL cS b s1 w1 m1 n1 s2 w2 m2 n2 s3 w3 m3 n3 ik bt ln tk sb en nm bits size num fnd (-1000000001) (va_DT (hD _ rfl) rfl) (vp_in_iff.mpr (by decide))) (cwV 1 hts gX5_spoon_X5_found rfl rfl rfl (by decide +kernel) ⟨Nat.le_of_ble_eq_true rfl, Nat.le_of_ble_eq_true rfl⟩) ⟨PcR_fb, va_recv hK hP (ci := 3) (q0 := 0) rfl rfl, PcR_pre hP hK⟩ rfl rfl hl.1 rfl (lv_room (Nat.le_of_ble_eq_true rfl)) dX5_spoon_33 ⟨Nat.zero_le _, Nat.zero_le _⟩) hP (hD _ rfl) hS 0 49 rfl (fun r_17 u_16 H locs hu_16 hP hS => ?_)
        obtain ⟨hu_16r, -⟩ := hu_16
        subst hu_16r
        have hP : va_P D vwCl (kcw cI cL cS b s1 w1 m1 n1 s2 w2 m2 n2 s3 w3 m3 n3 ik bt ln tk sb en nm bits size num (bump fnd (-1000000001))) H := hP
        exact W.iret hx hb hr (fun t ht hW => ⟨⟨_, (s2, w2, m2, n2, bump fnd (-1000000001)), rfl, (by exact (iF_f (fun h => by first | exact absurd h.1 c_7b | exact absurd c_7b h.1 | exact absurd h.2.1 c_7b | exact absurd c_7b h.2.1 | exact absurd h.2.2 c_7b | exact absurd c_7b h.2.2)).symm), by dsimp only; rw [ht]; exact hP⟩, hS.F ht⟩) hS.2.2 dX5_spoon_36

set_option maxRecDepth 100000 in
set_option maxHeartbeats 4000000 in
theorem k_X5_change (l : Launch) (D : va_G) (cI cL cS : ClassId) (b : Nat → Nat → Nat) (s1 : Sg) (w1 m1 n1 : FI) (s2 : Sg) (w2 m2 n2 : FI) (s3 : Sg) (w3 m3 n3 : FI) (ik : Int32) (bt : FI) (ln tk sb en nm : Int32) (bits size : FI) (num : Nat → FJ) (fnd : FI) (x0 : Int32) (dj : va_D (fun _ => True) (djk b)) (o1 : okS s1 w1) : Met l yX5_change wsX5_change { frames := 5, cells := 0, slots := 0, locals := 111 } (PcR D vwCl (tyG cI cL cS) [.ref (b 0 0), .int x0] (kcw cI cL cS b s1 w1 m1 n1 s2 w2 m2 n2 s3 w3 m3 n3 ik bt ln tk sb en nm bits size num fnd)) (va_Qi (fun (r : Int32) (u : Sg × FI × FI × FI × FI) => (r, u.2.2.2.2) = sChange s1 fnd x0) (fun u t => va_P D vwCl (kcw cI cL cS b s1 w1 m1 n1 u.1 u.2.1 u.2.2.1 u.2.2.2.1 s3 w3 m3 n3 ik bt ln tk sb en nm bits size num u.2.2.2.2) t.heap) (Aof (kcw cI cL cS b s1 w1 m1 n1 s2 w2 m2 n2 s3 w3 m3 n3 ik bt ln tk sb en nm bits size num fnd))) 0 0 (Aof (kcw cI cL cS b s1 w1 m1 n1 s2 w2 m2 n2 s3 w3 m3 n3 ik bt ln tk sb en nm bits size num fnd)) := by
  refine Met.ofW (cc := cX5_change) (maxL := 6) (ret := (some .int)) (by decide) rfl ?_
  intro p e s m args below meth c s₁ B hml hv
  obtain ⟨rfl, hP, hK⟩ := hv
  have hx := B.exec
  have hb := B.bytes
  have hr := B.returns
  have hts := atoms_spec (ws := wsX5_change) B.pre
  have hown : s.vm.findClass RX5 = some m.cls := findClass_of_methodNamed B.named
  have hlocks := B.notSynchronized
  obtain ⟨A, hAe⟩ : ∃ A, A = Aof (kcw cI cL cS b s1 w1 m1 n1 s2 w2 m2 n2 s3 w3 m3 n3 ik bt ln tk sb en nm bits size num fnd) := ⟨_, rfl⟩
  rw [← hAe]
  have hD : ∀ ws' : va_W, ws'.map Prod.fst = (kcw cI cL cS b s1 w1 m1 n1 s2 w2 m2 n2 s3 w3 m3 n3 ik bt ln tk sb en nm bits size num fnd).map Prod.fst → va_D A ws' := fun ws' e => by rw [hAe]; exact va_D_adr (va_D_self (va_D_adr dj rfl)) e
  have hS : va_S A s.heap s.heap [] := va_S.rf
  have hP : va_P D vwCl (kcw cI cL cS b s1 w1 m1 n1 s2 w2 m2 n2 s3 w3 m3 n3 ik bt ln tk sb en nm bits size num fnd) s.heap := hP
  have hl := lv_entry ([.ref (b 0 0), .int x0]) (n := 6) (Nat.le_of_ble_eq_true rfl)
  rw [lg_entry_eq]
  generalize (lg_sl ([.ref (b 0 0), .int x0]) ++ List.replicate (6 - (lg_sl ([.ref (b 0 0), .int x0])).length) Slot.unset).toArray = ls at hl ⊢
  have hl : lv_has ls 6 [(0, .ref (b 0 0)), (1, .int x0)] := hl
  have f16 := hts (.fieldLink RX5 16 "KnivesLaid" "trial" "LKnivesLaid$Table;") (List.mem_of_getElem? (i := 2) rfl)
  have inX5 : ∀ w ∈ u_ws RX5 TX5 7, w ∈ wsX5_change := in_at 124 _ _ rfl
  have f10 := hts (.fieldLink RX5 10 "KnivesLaid" "table" "LKnivesLaid$Table;") (List.mem_of_getElem? (i := 3) rfl)
  have k160 := hts (.constant RX5 160 (-1000000004)) (List.mem_of_getElem? (i := 4) rfl)
  have f89 := hts (.fieldLink RX5 89 "KnivesLaid$Table" "guests" "I") (List.mem_of_getElem? (i := 5) rfl)
  have inX3 : ∀ w ∈ u_ws RX3 TX3 13, w ∈ wsX5_change := in_at 131 _ _ rfl
  have k52 := hts (.constant RX5 52 (-1000000001)) (List.mem_of_getElem? (i := 1) rfl)
  skip
  have hgu := gu_of o1.1.gu
  have hgu8 := hgu.2
  refine lv_iload_n hx hb dX5_change_0 rfl (lv_at hl 1 rfl) ?_
  refine lv_iconst (v := 1) hx hb dX5_change_1 (by decide) ?_
  refine lv_bipush (v := 40) hx hb dX5_change_2 (by decide) ?_
  refine callE (W.runS (As := [.int x0, .int 1, .int 40]) (rest := []) ⟨hx, hb, hml, hown, hts⟩ (k_X5_within l x0 1 40) (va_cwS 3 hts gX5_change_X5_within rfl rfl rfl (by decide +kernel) ⟨Nat.le_of_ble_eq_true rfl, Nat.le_of_ble_eq_true rfl⟩) ⟨PcP_fb, fun U _ _ => ⟨rfl, trivial⟩⟩ rfl rfl hl.1 rfl (lv_room (Nat.le_of_ble_eq_true rfl)) dX5_change_4 ⟨Nat.zero_le _, Nat.zero_le _⟩) ?_
  refine lv_if_ne (tgt := 17) hx hb dX5_change_7 (by decide) (fun c_1 => ?_) (fun c_1 => ?_)
  · skip
    have c_1b := bI_n c_1
    have hn := c_1b
    refine lv_aload_n hx hb dX5_change_17 rfl (lv_at hl 0 rfl) ?_
    refine va_get (ci := 3) (v := .ref (b 2 0)) (C := RX5) (T := TX5) (N := 7) hx hb hts inX5 hown hK hP 0 rfl rfl 1 (by decide) f16 (fun _ h9 => h9) rfl dX5_change_18 ?_
    refine lv_aload_n hx hb dX5_change_21 rfl (lv_at hl 0 rfl) ?_
    refine va_get (ci := 3) (v := .ref (b 1 0)) (C := RX5) (T := TX5) (N := 7) hx hb hts inX5 hown hK hP 0 rfl rfl 0 (by decide) f10 (fun _ h9 => h9) rfl dX5_change_22 ?_
    refine callBec (wt := tbw cI (b 2) (sCo s2) (sGu s2) (sKn s2) (sFo s2) (sSp s2) w2 (sKi s2) (sPl s2) (sEa s2) (sTo s2) (sQu s2) m2 n2) (wo := tbw cI (b 1) (sCo s1) (sGu s1) (sKn s1) (sFo s1) (sSp s1) w1 (sKi s1) (sPl s1) (sEa s1) (sTo s1) (sQu s1) m1 n1) (w1 := tbw cI (b 2) (sCo s1) (sGu s1) (sKn s1) (sFo s1) (sSp s1) w1 (sKi s1) (sPl s1) (sEa s1) (sTo s1) (sQu s1) m2 n2) (va_runV (As := [.ref (b 1 0)]) (rest := []) ⟨hx, hb, hml, hown, hts⟩ (k_X3_become l D cI cL cS (b 2) (sCo s2) (sGu s2) (sKn s2) (sFo s2) (sSp s2) w2 (sKi s2) (sPl s2) (sEa s2) (sTo s2) (sQu s2) m2 n2 (b 1) (sCo s1) (sGu s1) (sKn s1) (sFo s1) (sSp s1) w1 (sKi s1) (sPl s1) (sEa s1) (sTo s1) (sQu s1) m1 n1 (va_DT (va_D.sub (ws' := tbw2 cI (b 2) (b 1) (sCo s2) (sGu s2) (sKn s2) (sFo s2) (sSp s2) w2 (sKi s2) (sPl s2) (sEa s2) (sTo s2) (sQu s2) m2 n2 (sCo s1) (sGu s1) (sKn s1) (sFo s1) (sSp s1) w1 (sKi s1) (sPl s1) (sEa s1) (sTo s1) (sQu s1) m1 n1) (hD (kcw cI cL cS b s1 w1 m1 n1 s2 w2 m2 n2 s3 w3 m3 n3 ik bt ln tk sb en nm bits size num fnd) rfl) [13, 14, 15, 16, 17, 18, 19, 20, 21, 22, 23, 24, 1, 2, 3, 4, 5, 6, 7, 8, 9, 10, 11, 12] (by decide) rfl) rfl)) (cwV 1 hts gX5_change_X3_become rfl rfl rfl (by decide +kernel) ⟨Nat.le_of_ble_eq_true rfl, Nat.le_of_ble_eq_true rfl⟩) ⟨PcR_fb, va_recv hK hP (ci := 1) (q0 := 13) rfl rfl, PcR_pre (va_P.sub hP [13, 14, 15, 16, 17, 18, 19, 20, 21, 22, 23, 24, 1, 2, 3, 4, 5, 6, 7, 8, 9, 10, 11, 12] rfl) hK⟩ rfl rfl hl.1 rfl (lv_room (Nat.le_of_ble_eq_true rfl)) dX5_change_25 ⟨Nat.zero_le _, Nat.zero_le _⟩) hP (hD _ rfl) hS 13 12 1 12 rfl rfl rfl (fun H locs hP hS => ?_)
    have hP : va_P D vwCl (kcw cI cL cS b s1 w1 m1 n1 s1 w1 m2 n2 s3 w3 m3 n3 ik bt ln tk sb en nm bits size num fnd) H := hP
    refine lv_aload_n hx hb dX5_change_28 rfl (lv_at hl 0 rfl) ?_
    refine va_get (ci := 3) (v := .ref (b 2 0)) (C := RX5) (T := TX5) (N := 7) hx hb hts inX5 hown hK hP 0 rfl rfl 1 (by decide) f16 (fun _ h9 => h9) rfl dX5_change_29 ?_
    refine lv_iload_n hx hb dX5_change_32 rfl (lv_at hl 1 rfl) ?_
    refine callMv (va_runV (As := [.int x0]) (rest := []) ⟨hx, hb, hml, hown, hts⟩ (k_X3_serve l D cI cL cS (b 2) (sCo s1) (sGu s1) (sKn s1) (sFo s1) (sSp s1) w1 (sKi s1) (sPl s1) (sEa s1) (sTo s1) (sQu s1) m2 n2 x0 (va_DT (va_segD (hD _ rfl) 13 12 rfl) rfl) o1.1 o1.2 (wi_in hn (by decide) (by decide))) (cwV 1 hts gX5_change_X3_serve rfl rfl rfl (by decide +kernel) ⟨Nat.le_of_ble_eq_true rfl, Nat.le_of_ble_eq_true rfl⟩) ⟨PcR_fb, va_recv hK hP (ci := 1) (q0 := 13) rfl rfl, PcR_pre (va_seg hP 13 12 rfl) hK⟩ rfl rfl hl.1 rfl (lv_room (Nat.le_of_ble_eq_true rfl)) dX5_change_33 ⟨Nat.zero_le _, Nat.zero_le _⟩) hP (hD _ rfl) hS 13 12 rfl (fun u_2 H locs hu_2 hP hS => ?_)
    obtain ⟨mo_4, ne_5⟩ := u_2
    have hP : va_P D vwCl (kcw cI cL cS b s1 w1 m1 n1 (sPass (ix x0) s1) w1 mo_4 ne_5 s3 w3 m3 n3 ik bt ln tk sb en nm bits size num fnd) H := hP
    refine lv_aload_n hx hb dX5_change_36 rfl (lv_at hl 0 rfl) ?_
    refine va_get (ci := 3) (v := .ref (b 2 0)) (C := RX5) (T := TX5) (N := 7) hx hb hts inX5 hown hK hP 0 rfl rfl 1 (by decide) f16 (fun _ h9 => h9) rfl dX5_change_37 ?_
    refine callE (W.runV (As := []) (rest := []) ⟨hx, hb, hml, hown, hts⟩ (k_X3_quarrelsOfAll l D cI cL cS (b 2) (sCo (sPass (ix x0) s1)) (sGu (sPass (ix x0) s1)) (sKn (sPass (ix x0) s1)) (sFo (sPass (ix x0) s1)) (sSp (sPass (ix x0) s1)) w1 (sKi (sPass (ix x0) s1)) (sPl (sPass (ix x0) s1)) (sEa (sPass (ix x0) s1)) (sTo (sPass (ix x0) s1)) (sQu (sPass (ix x0) s1)) mo_4 ne_5 ((okS_pass o1 (ix x0)).1.gu)) (cwV 0 hts gX5_change_X3_quarrelsOfAll rfl rfl rfl (by decide +kernel) ⟨Nat.le_of_ble_eq_true rfl, Nat.le_of_ble_eq_true rfl⟩) ⟨PcR_fb, va_recv hK hP (ci := 1) (q0 := 13) rfl rfl, PcR_pre (va_seg hP 13 12 rfl) hK⟩ rfl rfl hl.1 rfl (lv_room (Nat.le_of_ble_eq_true rfl)) dX5_change_40 ⟨Nat.zero_le _, Nat.zero_le _⟩) ?_
    refine lv_to (y := sSum (sQu (sPass (ix x0) s1)) (ix (sGu s1))) (by rw [(pass_st s1 (ix x0)).1]) ?_
    refine lv_istore_n (lv' := [(2, .int (sSum (sQu (sPass (ix x0) s1)) (ix (sGu s1)))), (0, .ref (b 0 0)), (1, .int x0)]) hx hb dX5_change_43 rfl hl (by decide) rfl (fun ls hl => ?_)
    refine lv_ldc hx hb hown k160 dX5_change_44 ?_
    refine lv_istore_n (lv' := [(3, .int (-1000000004)), (2, .int (sSum (sQu (sPass (ix x0) s1)) (ix (sGu s1)))), (0, .ref (b 0 0)), (1, .int x0)]) hx hb dX5_change_46 rfl hl (by decide) rfl (fun ls hl => ?_)
    refine lv_iconst (v := 0) hx hb dX5_change_47 (by decide) ?_
    refine lv_istore (lv' := [(4, .int 0), (3, .int (-1000000004)), (2, .int (sSum (sQu (sPass (ix x0) s1)) (ix (sGu s1)))), (0, .ref (b 0 0)), (1, .int x0)]) hx hb dX5_change_48 hl (by decide) rfl (fun ls hl => ?_)
    refine lpW (fun n (u : Nat × Int32 × Int32 × Int32 × Sg × FI × FI × FI) H locs ls => (u.1 + n = ix (sGu s1)) ∧ ((u.2.1, u.2.2.1) = chOut (fChg s1 x0) (ix (sGu s1)) u.1 ((-1), sSum (sQu (sPass (ix x0) s1)) (ix (sGu s1)))) ∧ (u.2.2.2.1 = (if u.2.1 < 0 then (-1000000004) else u.2.1 : Int32)) ∧ va_P D vwCl (kcw cI cL cS b s1 w1 m1 n1 u.2.2.2.2.1 u.2.2.2.2.2.1 u.2.2.2.2.2.2.1 u.2.2.2.2.2.2.2 s3 w3 m3 n3 ik bt ln tk sb en nm bits size num fnd) H ∧ va_S A s.heap H locs ∧ lv_has ls 6 [(0, .ref (b 0 0)), (1, .int x0), (2, .int u.2.2.1), (3, .int u.2.2.2.1), (4, .int (nI u.1))]) (ix (sGu s1)) ((0, (-1), (sSum (sQu (sPass (ix x0) s1)) (ix (sGu s1))), (-1000000004), sPass (ix x0) s1, w1, mo_4, ne_5)) ⟨by omega, rfl, rfl, hP, hS, lv_sub hl [3, 4, 2, 1, 0] rfl⟩ (fun n ih u H locs ls hI => ?_)
    obtain ⟨g, bb, mm, cc, sx, wx, mx, nx⟩ := u
    obtain ⟨hi0, hi1, hi2, hP, hS, hl⟩ := hI
    have hi0 : g + n = ix (sGu s1) := hi0
    have hi1 : (bb, mm) = chOut (fChg s1 x0) (ix (sGu s1)) g ((-1), sSum (sQu (sPass (ix x0) s1)) (ix (sGu s1))) := hi1
    have hi2 : cc = (if bb < 0 then (-1000000004) else bb : Int32) := hi2
    have hl : lv_has ls 6 [(0, .ref (b 0 0)), (1, .int x0), (2, .int mm), (3, .int cc), (4, .int (nI g))] := hl
    have hP : va_P D vwCl (kcw cI cL cS b s1 w1 m1 n1 sx wx mx nx s3 w3 m3 n3 ik bt ln tk sb en nm bits size num fnd) H := hP
    have ihg := ih
    refine lv_iload hx hb dX5_change_50 (lv_at hl 4 rfl) ?_
    refine lv_aload_n hx hb dX5_change_52 rfl (lv_at hl 0 rfl) ?_
    refine va_get (ci := 3) (v := .ref (b 1 0)) (C := RX5) (T := TX5) (N := 7) hx hb hts inX5 hown hK hP 0 rfl rfl 0 (by decide) f10 (fun _ h9 => h9) rfl dX5_change_53 ?_
    refine va_get (ci := 1) (v := .int (sGu s1)) (C := RX3) (T := TX3) (N := 13) hx hb hts inX3 hown hK hP 1 rfl rfl 5 (by decide) f89 (fun _ h9 => h9) rfl dX5_change_56 ?_
    refine lv_icmp_ge (tgt := 150) hx hb dX5_change_59 (by decide) (fun c_6 => ?_) (fun c_6 => ?_)
    · skip
      have c_6n := (cmp_le (a := ix (sGu s1)) (b := g) hgu.1 rfl (by omega) (by omega)).mp c_6
      have hrr : rChg s1 x0 = bb := congrArg Prod.fst (show chOut (fChg s1 x0) (ix (sGu s1)) (ix (sGu s1)) ((-1), sSum (sQu (sPass (ix x0) s1)) (ix (sGu s1))) = (bb, mm) by rw [hi1, show g = ix (sGu s1) by omega])
      refine lv_iload_n hx hb dX5_change_150 rfl (lv_at hl 3 rfl) ?_
      refine lv_ldc hx hb hown k160 dX5_change_151 ?_
      refine lv_icmp_ne (tgt := 165) hx hb dX5_change_153 (by decide) (fun c_7 => ?_) (fun c_7 => ?_)
      · skip
        refine lv_iload_n hx hb dX5_change_165 rfl (lv_at hl 3 rfl) ?_
        exact W.iret hx hb hr (fun t ht hW => ⟨⟨_, (sx, wx, mx, nx, fnd), rfl, (by unfold sChange; rw [iF_t hn, iF_f (show ¬ rChg s1 x0 < 0 by rw [hrr]; exact (ch_some hi2 c_7).1), hrr, (ch_some hi2 c_7).2]), by dsimp only; rw [ht]; exact hP⟩, hS.F ht⟩) hS.2.2 dX5_change_166
      · skip
        refine lv_aload_n hx hb dX5_change_156 rfl (lv_at hl 0 rfl) ?_
        refine lv_ldc hx hb hown k160 dX5_change_157 ?_
        refine callMi (va_runV (As := [.int (-1000000004)]) (rest := []) ⟨hx, hb, hml, hown, hts⟩ (k_X5_found l D cI cL cS b s1 w1 m1 n1 sx wx mx nx s3 w3 m3 n3 ik bt ln tk sb en nm bits size num fnd (-1000000004) (va_DT (hD _ rfl) rfl) (vp_in_iff.mpr (by decide))) (cwV 1 hts gX5_change_X5_found rfl rfl rfl (by decide +kernel) ⟨Nat.le_of_ble_eq_true rfl, Nat.le_of_ble_eq_true rfl⟩) ⟨PcR_fb, va_recv hK hP (ci := 3) (q0 := 0) rfl rfl, PcR_pre hP hK⟩ rfl rfl hl.1 rfl (lv_room (Nat.le_of_ble_eq_true rfl)) dX5_change_159 ⟨Nat.zero_le _, Nat.zero_le _⟩) hP (hD _ rfl) hS 0 49 rfl (fun r_9 u_8 H locs hu_8 hP hS => ?_)
        obtain ⟨hu_8r, -⟩ := hu_8
        subst hu_8r
        have hP : va_P D vwCl (kcw cI cL cS b s1 w1 m1 n1 sx wx mx nx s3 w3 m3 n3 ik bt ln tk sb en nm bits size num (bump fnd (-1000000004))) H := hP
        refine lv_goto (tgt := 166) hx hb dX5_change_162 (by decide) ?_
        exact W.iret hx hb hr (fun t ht hW => ⟨⟨_, (sx, wx, mx, nx, bump fnd (-1000000004)), rfl, (by unfold sChange; rw [iF_t hn, iF_t (show rChg s1 x0 < 0 by rw [hrr]; exact ch_none hi2 c_7)]), by dsimp only; rw [ht]; exact hP⟩, hS.F ht⟩) hS.2.2 dX5_change_166
    · skip
      have c_6n := mt (cmp_le (a := ix (sGu s1)) (b := g) hgu.1 rfl (by omega) (by omega)).mpr c_6
      refine lv_iload hx hb dX5_change_62 (lv_at hl 4 rfl) ?_
      refine lv_iconst (v := 1) hx hb dX5_change_64 (by decide) ?_
      refine lv_iadd hx hb dX5_change_65 ?_
      refine lv_to (y := nI (g + 1)) (nI_1 g) ?_
      refine lv_istore (lv' := [(5, .int (nI (g + 1))), (0, .ref (b 0 0)), (1, .int x0), (2, .int mm), (3, .int cc), (4, .int (nI g))]) hx hb dX5_change_66 hl (by decide) rfl (fun ls hl => ?_)
      obtain ⟨n0, hn0⟩ : ∃ z, z = n := ⟨_, rfl⟩
      refine lpW (fun n (u : Nat × Int32 × Int32 × Int32 × Sg × FI × FI × FI) H locs ls => (g + 1 + u.1 + n = ix (sGu s1)) ∧ ((u.2.1, u.2.2.1) = chIn (fChg s1 x0) g u.1 (chOut (fChg s1 x0) (ix (sGu s1)) g ((-1), sSum (sQu (sPass (ix x0) s1)) (ix (sGu s1))))) ∧ (u.2.2.2.1 = (if u.2.1 < 0 then (-1000000004) else u.2.1 : Int32)) ∧ va_P D vwCl (kcw cI cL cS b s1 w1 m1 n1 u.2.2.2.2.1 u.2.2.2.2.2.1 u.2.2.2.2.2.2.1 u.2.2.2.2.2.2.2 s3 w3 m3 n3 ik bt ln tk sb en nm bits size num fnd) H ∧ va_S A s.heap H locs ∧ lv_has ls 6 [(0, .ref (b 0 0)), (1, .int x0), (2, .int u.2.2.1), (3, .int u.2.2.2.1), (4, .int (nI g)), (5, .int (nI (g + 1 + u.1)))]) (ix (sGu s1) - (g + 1)) ((0, bb, mm, cc, sx, wx, mx, nx)) ⟨by omega, hi1, hi2, hP, hS, lv_sub hl [1, 2, 3, 4, 5, 0] rfl⟩ (fun n ih u H locs ls hI => ?_)
      obtain ⟨kq, bq, mq, cq, sy, wy, my, ny⟩ := u
      obtain ⟨hj0, hj1, hj2, hP, hS, hl⟩ := hI
      have hj0 : g + 1 + kq + n = ix (sGu s1) := hj0
      have hj1 : (bq, mq) = chIn (fChg s1 x0) g kq (chOut (fChg s1 x0) (ix (sGu s1)) g ((-1), sSum (sQu (sPass (ix x0) s1)) (ix (sGu s1)))) := hj1
      have hj2 : cq = (if bq < 0 then (-1000000004) else bq : Int32) := hj2
      have hl : lv_has ls 6 [(0, .ref (b 0 0)), (1, .int x0), (2, .int mq), (3, .int cq), (4, .int (nI g)), (5, .int (nI (g + 1 + kq)))] := hl
      have hP : va_P D vwCl (kcw cI cL cS b s1 w1 m1 n1 sy wy my ny s3 w3 m3 n3 ik bt ln tk sb en nm bits size num fnd) H := hP
      refine lv_iload hx hb dX5_change_68 (lv_at hl 5 rfl) ?_
      refine lv_aload_n hx hb dX5_change_70 rfl (lv_at hl 0 rfl) ?_
      refine va_get (ci := 3) (v := .ref (b 1 0)) (C := RX5) (T := TX5) (N := 7) hx hb hts inX5 hown hK hP 0 rfl rfl 0 (by decide) f10 (fun _ h9 => h9) rfl dX5_change_71 ?_
      refine va_get (ci := 1) (v := .int (sGu s1)) (C := RX3) (T := TX3) (N := 13) hx hb hts inX3 hown hK hP 1 rfl rfl 5 (by decide) f89 (fun _ h9 => h9) rfl dX5_change_74 ?_
      refine lv_icmp_ge (tgt := 144) hx hb dX5_change_77 (by decide) (fun c_10 => ?_) (fun c_10 => ?_)
      · skip
        have c_10n := (cmp_le (a := ix (sGu s1)) (b := (g + 1 + kq)) hgu.1 rfl (by omega) (by omega)).mp c_10
        refine lv_iinc (v := nI (g + 1)) (lv' := [(4, .int (nI (g + 1))), (0, .ref (b 0 0)), (1, .int x0), (2, .int mq), (3, .int cq), (5, .int (nI (g + 1 + kq)))]) hx hb dX5_change_144 hl (k := 4) rfl (nI_1 _) (by decide) rfl (fun ls hl => ?_)
        refine lv_goto (tgt := 50) hx hb dX5_change_147 (by decide) ?_
        exact ihg (n0 - 1) (by omega) ((g + 1, bq, mq, cq, sy, wy, my, ny)) H locs ls ⟨by omega, by rw [hj1, show kq = ix (sGu s1) - (g + 1) by omega]; rfl, hj2, hP, hS, lv_sub hl [1, 2, 3, 4, 0] rfl⟩
      · skip
        have c_10n := mt (cmp_le (a := ix (sGu s1)) (b := (g + 1 + kq)) hgu.1 rfl (by omega) (by omega)).mpr c_10
        have hg1 : sOne s1 (nI g) := vp_in_nI (by omega) (by omega)
        have hg2 : sOne s1 (nI (g + 1 + kq)) := vp_in_nI (by omega) (by omega)
        have hne : ¬ nI g = nI (g + 1 + kq) := fun e => by rw [nI_eq (by omega) (by omega)] at e; omega
        have hok := ok_exch o1 hg1 hg2 hne
        refine lv_aload_n hx hb dX5_change_80 rfl (lv_at hl 0 rfl) ?_
        refine va_get (ci := 3) (v := .ref (b 2 0)) (C := RX5) (T := TX5) (N := 7) hx hb hts inX5 hown hK hP 0 rfl rfl 1 (by decide) f16 (fun _ h9 => h9) rfl dX5_change_81 ?_
        refine lv_aload_n hx hb dX5_change_84 rfl (lv_at hl 0 rfl) ?_
        refine va_get (ci := 3) (v := .ref (b 1 0)) (C := RX5) (T := TX5) (N := 7) hx hb hts inX5 hown hK hP 0 rfl rfl 0 (by decide) f10 (fun _ h9 => h9) rfl dX5_change_85 ?_
        refine callBec (wt := tbw cI (b 2) (sCo sy) (sGu sy) (sKn sy) (sFo sy) (sSp sy) wy (sKi sy) (sPl sy) (sEa sy) (sTo sy) (sQu sy) my ny) (wo := tbw cI (b 1) (sCo s1) (sGu s1) (sKn s1) (sFo s1) (sSp s1) w1 (sKi s1) (sPl s1) (sEa s1) (sTo s1) (sQu s1) m1 n1) (w1 := tbw cI (b 2) (sCo s1) (sGu s1) (sKn s1) (sFo s1) (sSp s1) w1 (sKi s1) (sPl s1) (sEa s1) (sTo s1) (sQu s1) my ny) (va_runV (As := [.ref (b 1 0)]) (rest := []) ⟨hx, hb, hml, hown, hts⟩ (k_X3_become l D cI cL cS (b 2) (sCo sy) (sGu sy) (sKn sy) (sFo sy) (sSp sy) wy (sKi sy) (sPl sy) (sEa sy) (sTo sy) (sQu sy) my ny (b 1) (sCo s1) (sGu s1) (sKn s1) (sFo s1) (sSp s1) w1 (sKi s1) (sPl s1) (sEa s1) (sTo s1) (sQu s1) m1 n1 (va_DT (va_D.sub (ws' := tbw2 cI (b 2) (b 1) (sCo sy) (sGu sy) (sKn sy) (sFo sy) (sSp sy) wy (sKi sy) (sPl sy) (sEa sy) (sTo sy) (sQu sy) my ny (sCo s1) (sGu s1) (sKn s1) (sFo s1) (sSp s1) w1 (sKi s1) (sPl s1) (sEa s1) (sTo s1) (sQu s1) m1 n1) (hD (kcw cI cL cS b s1 w1 m1 n1 sy wy my ny s3 w3 m3 n3 ik bt ln tk sb en nm bits size num fnd) rfl) [13, 14, 15, 16, 17, 18, 19, 20, 21, 22, 23, 24, 1, 2, 3, 4, 5, 6, 7, 8, 9, 10, 11, 12] (by decide) rfl) rfl)) (cwV 1 hts gX5_change_X3_become rfl rfl rfl (by decide +kernel) ⟨Nat.le_of_ble_eq_true rfl, Nat.le_of_ble_eq_true rfl⟩) ⟨PcR_fb, va_recv hK hP (ci := 1) (q0 := 13) rfl rfl, PcR_pre (va_P.sub hP [13, 14, 15, 16, 17, 18, 19, 20, 21, 22, 23, 24, 1, 2, 3, 4, 5, 6, 7, 8, 9, 10, 11, 12] rfl) hK⟩ rfl rfl hl.1 rfl (lv_room (Nat.le_of_ble_eq_true rfl)) dX5_change_88 ⟨Nat.zero_le _, Nat.zero_le _⟩) hP (hD _ rfl) hS 13 12 1 12 rfl rfl rfl (fun H locs hP hS => ?_)
        have hP : va_P D vwCl (kcw cI cL cS b s1 w1 m1 n1 s1 w1 my ny s3 w3 m3 n3 ik bt ln tk sb en nm bits size num fnd) H := hP
        refine lv_aload_n hx hb dX5_change_91 rfl (lv_at hl 0 rfl) ?_
        refine va_get (ci := 3) (v := .ref (b 2 0)) (C := RX5) (T := TX5) (N := 7) hx hb hts inX5 hown hK hP 0 rfl rfl 1 (by decide) f16 (fun _ h9 => h9) rfl dX5_change_92 ?_
        refine lv_iload hx hb dX5_change_95 (lv_at hl 4 rfl) ?_
        refine lv_iload hx hb dX5_change_97 (lv_at hl 5 rfl) ?_
        refine callMv (va_runV (As := [.int (nI g), .int (nI (g + 1 + kq))]) (rest := []) ⟨hx, hb, hml, hown, hts⟩ (k_X3_exchange l D cI cL cS (b 2) (sCo s1) (sGu s1) (sKn s1) (sFo s1) (sSp s1) w1 (sKi s1) (sPl s1) (sEa s1) (sTo s1) (sQu s1) my ny (nI g) (nI (g + 1 + kq)) (va_DT (va_segD (hD _ rfl) 13 12 rfl) rfl) (in_8 o1.1.gu hg1) (in_8 o1.1.gu hg2) (exch_in o1.1.2.1 (in_8 o1.1.gu hg1) (in_8 o1.1.gu hg2) _ (ix_lt (by decide) (in_8 o1.1.gu hg1))) (exch_in o1.1.2.1 (in_8 o1.1.gu hg1) (in_8 o1.1.gu hg2) _ (ix_lt (by decide) (in_8 o1.1.gu hg2)))) (cwV 2 hts gX5_change_X3_exchange rfl rfl rfl (by decide +kernel) ⟨Nat.le_of_ble_eq_true rfl, Nat.le_of_ble_eq_true rfl⟩) ⟨PcR_fb, va_recv hK hP (ci := 1) (q0 := 13) rfl rfl, PcR_pre (va_seg hP 13 12 rfl) hK⟩ rfl rfl hl.1 rfl (lv_room (Nat.le_of_ble_eq_true rfl)) dX5_change_99 ⟨Nat.zero_le _, Nat.zero_le _⟩) hP (hD _ rfl) hS 13 12 rfl (fun u_11 H locs hu_11 hP hS => ?_)
        have hP : va_P D vwCl (kcw cI cL cS b s1 w1 m1 n1 (uPl s1 (upd (upd (sPl s1) (ix (nI g)) ((sPl s1) (ix (nI (g + 1 + kq))))) (ix (nI (g + 1 + kq))) ((sPl s1) (ix (nI g))))) (upd (upd w1 (ix ((upd (upd (sPl s1) (ix (nI g)) ((sPl s1) (ix (nI (g + 1 + kq))))) (ix (nI (g + 1 + kq))) ((sPl s1) (ix (nI g)))) (ix (nI g)))) (nI g)) (ix ((upd (upd (sPl s1) (ix (nI g)) ((sPl s1) (ix (nI (g + 1 + kq))))) (ix (nI (g + 1 + kq))) ((sPl s1) (ix (nI g)))) (ix (nI (g + 1 + kq))))) (nI (g + 1 + kq))) my ny s3 w3 m3 n3 ik bt ln tk sb en nm bits size num fnd) H := hP
        refine lv_aload_n hx hb dX5_change_102 rfl (lv_at hl 0 rfl) ?_
        refine va_get (ci := 3) (v := .ref (b 2 0)) (C := RX5) (T := TX5) (N := 7) hx hb hts inX5 hown hK hP 0 rfl rfl 1 (by decide) f16 (fun _ h9 => h9) rfl dX5_change_103 ?_
        refine lv_iload_n hx hb dX5_change_106 rfl (lv_at hl 1 rfl) ?_
        refine callMv (va_runV (As := [.int x0]) (rest := []) ⟨hx, hb, hml, hown, hts⟩ (k_X3_serve l D cI cL cS (b 2) (sCo (uPl s1 (upd (upd (sPl s1) (ix (nI g)) ((sPl s1) (ix (nI (g + 1 + kq))))) (ix (nI (g + 1 + kq))) ((sPl s1) (ix (nI g)))))) (sGu (uPl s1 (upd (upd (sPl s1) (ix (nI g)) ((sPl s1) (ix (nI (g + 1 + kq))))) (ix (nI (g + 1 + kq))) ((sPl s1) (ix (nI g)))))) (sKn (uPl s1 (upd (upd (sPl s1) (ix (nI g)) ((sPl s1) (ix (nI (g + 1 + kq))))) (ix (nI (g + 1 + kq))) ((sPl s1) (ix (nI g)))))) (sFo (uPl s1 (upd (upd (sPl s1) (ix (nI g)) ((sPl s1) (ix (nI (g + 1 + kq))))) (ix (nI (g + 1 + kq))) ((sPl s1) (ix (nI g)))))) (sSp (uPl s1 (upd (upd (sPl s1) (ix (nI g)) ((sPl s1) (ix (nI (g + 1 + kq))))) (ix (nI (g + 1 + kq))) ((sPl s1) (ix (nI g)))))) (upd (upd w1 (ix ((upd (upd (sPl s1) (ix (nI g)) ((sPl s1) (ix (nI (g + 1 + kq))))) (ix (nI (g + 1 + kq))) ((sPl s1) (ix (nI g)))) (ix (nI g)))) (nI g)) (ix ((upd (upd (sPl s1) (ix (nI g)) ((sPl s1) (ix (nI (g + 1 + kq))))) (ix (nI (g + 1 + kq))) ((sPl s1) (ix (nI g)))) (ix (nI (g + 1 + kq))))) (nI (g + 1 + kq))) (sKi (uPl s1 (upd (upd (sPl s1) (ix (nI g)) ((sPl s1) (ix (nI (g + 1 + kq))))) (ix (nI (g + 1 + kq))) ((sPl s1) (ix (nI g)))))) (sPl (uPl s1 (upd (upd (sPl s1) (ix (nI g)) ((sPl s1) (ix (nI (g + 1 + kq))))) (ix (nI (g + 1 + kq))) ((sPl s1) (ix (nI g)))))) (sEa (uPl s1 (upd (upd (sPl s1) (ix (nI g)) ((sPl s1) (ix (nI (g + 1 + kq))))) (ix (nI (g + 1 + kq))) ((sPl s1) (ix (nI g)))))) (sTo (uPl s1 (upd (upd (sPl s1) (ix (nI g)) ((sPl s1) (ix (nI (g + 1 + kq))))) (ix (nI (g + 1 + kq))) ((sPl s1) (ix (nI g)))))) (sQu (uPl s1 (upd (upd (sPl s1) (ix (nI g)) ((sPl s1) (ix (nI (g + 1 + kq))))) (ix (nI (g + 1 + kq))) ((sPl s1) (ix (nI g)))))) my ny x0 (va_DT (va_segD (hD _ rfl) 13 12 rfl) rfl) hok.1 hok.2 (wi_in hn (by decide) (by decide))) (cwV 1 hts gX5_change_X3_serve rfl rfl rfl (by decide +kernel) ⟨Nat.le_of_ble_eq_true rfl, Nat.le_of_ble_eq_true rfl⟩) ⟨PcR_fb, va_recv hK hP (ci := 1) (q0 := 13) rfl rfl, PcR_pre (va_seg hP 13 12 rfl) hK⟩ rfl rfl hl.1 rfl (lv_room (Nat.le_of_ble_eq_true rfl)) dX5_change_107 ⟨Nat.zero_le _, Nat.zero_le _⟩) hP (hD _ rfl) hS 13 12 rfl (fun u_13 H locs hu_13 hP hS => ?_)
        obtain ⟨mo_15, ne_16⟩ := u_13
        have hP : va_P D vwCl (kcw cI cL cS b s1 w1 m1 n1 (sPass (ix x0) (uPl s1 (upd (upd (sPl s1) (ix (nI g)) ((sPl s1) (ix (nI (g + 1 + kq))))) (ix (nI (g + 1 + kq))) ((sPl s1) (ix (nI g)))))) (upd (upd w1 (ix ((upd (upd (sPl s1) (ix (nI g)) ((sPl s1) (ix (nI (g + 1 + kq))))) (ix (nI (g + 1 + kq))) ((sPl s1) (ix (nI g)))) (ix (nI g)))) (nI g)) (ix ((upd (upd (sPl s1) (ix (nI g)) ((sPl s1) (ix (nI (g + 1 + kq))))) (ix (nI (g + 1 + kq))) ((sPl s1) (ix (nI g)))) (ix (nI (g + 1 + kq))))) (nI (g + 1 + kq))) mo_15 ne_16 s3 w3 m3 n3 ik bt ln tk sb en nm bits size num fnd) H := hP
        refine lv_aload_n hx hb dX5_change_110 rfl (lv_at hl 0 rfl) ?_
        refine va_get (ci := 3) (v := .ref (b 2 0)) (C := RX5) (T := TX5) (N := 7) hx hb hts inX5 hown hK hP 0 rfl rfl 1 (by decide) f16 (fun _ h9 => h9) rfl dX5_change_111 ?_
        refine callE (W.runV (As := []) (rest := []) ⟨hx, hb, hml, hown, hts⟩ (k_X3_quarrelsOfAll l D cI cL cS (b 2) (sCo (sPass (ix x0) (uPl s1 (upd (upd (sPl s1) (ix (nI g)) ((sPl s1) (ix (nI (g + 1 + kq))))) (ix (nI (g + 1 + kq))) ((sPl s1) (ix (nI g))))))) (sGu (sPass (ix x0) (uPl s1 (upd (upd (sPl s1) (ix (nI g)) ((sPl s1) (ix (nI (g + 1 + kq))))) (ix (nI (g + 1 + kq))) ((sPl s1) (ix (nI g))))))) (sKn (sPass (ix x0) (uPl s1 (upd (upd (sPl s1) (ix (nI g)) ((sPl s1) (ix (nI (g + 1 + kq))))) (ix (nI (g + 1 + kq))) ((sPl s1) (ix (nI g))))))) (sFo (sPass (ix x0) (uPl s1 (upd (upd (sPl s1) (ix (nI g)) ((sPl s1) (ix (nI (g + 1 + kq))))) (ix (nI (g + 1 + kq))) ((sPl s1) (ix (nI g))))))) (sSp (sPass (ix x0) (uPl s1 (upd (upd (sPl s1) (ix (nI g)) ((sPl s1) (ix (nI (g + 1 + kq))))) (ix (nI (g + 1 + kq))) ((sPl s1) (ix (nI g))))))) (upd (upd w1 (ix ((upd (upd (sPl s1) (ix (nI g)) ((sPl s1) (ix (nI (g + 1 + kq))))) (ix (nI (g + 1 + kq))) ((sPl s1) (ix (nI g)))) (ix (nI g)))) (nI g)) (ix ((upd (upd (sPl s1) (ix (nI g)) ((sPl s1) (ix (nI (g + 1 + kq))))) (ix (nI (g + 1 + kq))) ((sPl s1) (ix (nI g)))) (ix (nI (g + 1 + kq))))) (nI (g + 1 + kq))) (sKi (sPass (ix x0) (uPl s1 (upd (upd (sPl s1) (ix (nI g)) ((sPl s1) (ix (nI (g + 1 + kq))))) (ix (nI (g + 1 + kq))) ((sPl s1) (ix (nI g))))))) (sPl (sPass (ix x0) (uPl s1 (upd (upd (sPl s1) (ix (nI g)) ((sPl s1) (ix (nI (g + 1 + kq))))) (ix (nI (g + 1 + kq))) ((sPl s1) (ix (nI g))))))) (sEa (sPass (ix x0) (uPl s1 (upd (upd (sPl s1) (ix (nI g)) ((sPl s1) (ix (nI (g + 1 + kq))))) (ix (nI (g + 1 + kq))) ((sPl s1) (ix (nI g))))))) (sTo (sPass (ix x0) (uPl s1 (upd (upd (sPl s1) (ix (nI g)) ((sPl s1) (ix (nI (g + 1 + kq))))) (ix (nI (g + 1 + kq))) ((sPl s1) (ix (nI g))))))) (sQu (sPass (ix x0) (uPl s1 (upd (upd (sPl s1) (ix (nI g)) ((sPl s1) (ix (nI (g + 1 + kq))))) (ix (nI (g + 1 + kq))) ((sPl s1) (ix (nI g))))))) mo_15 ne_16 ((okS_pass hok (ix x0)).1.gu)) (cwV 0 hts gX5_change_X3_quarrelsOfAll rfl rfl rfl (by decide +kernel) ⟨Nat.le_of_ble_eq_true rfl, Nat.le_of_ble_eq_true rfl⟩) ⟨PcR_fb, va_recv hK hP (ci := 1) (q0 := 13) rfl rfl, PcR_pre (va_seg hP 13 12 rfl) hK⟩ rfl rfl hl.1 rfl (lv_room (Nat.le_of_ble_eq_true rfl)) dX5_change_114 ⟨Nat.zero_le _, Nat.zero_le _⟩) ?_
        refine lv_to (y := fChg s1 x0 g (g + 1 + kq)) (by rw [(pass_st _ (ix x0)).1]) ?_
        refine lv_iload_n hx hb dX5_change_117 rfl (lv_at hl 2 rfl) ?_
        refine lv_icmp_ge (tgt := 138) hx hb dX5_change_118 (by decide) (fun c_17 => ?_) (fun c_17 => ?_)
        · skip
          refine lv_iinc (v := nI ((g + 1 + kq) + 1)) (lv' := [(5, .int (nI ((g + 1 + kq) + 1))), (0, .ref (b 0 0)), (1, .int x0), (2, .int mq), (3, .int cq), (4, .int (nI g))]) hx hb dX5_change_138 hl (k := 5) rfl (nI_1 _) (by decide) rfl (fun ls hl => ?_)
          refine lv_goto (tgt := 68) hx hb dX5_change_141 (by decide) ?_
          exact ih (n - 1) (by omega) ((kq + 1, bq, mq, cq, sPass (ix x0) (uPl s1 (upd (upd (sPl s1) (ix (nI g)) ((sPl s1) (ix (nI (g + 1 + kq))))) (ix (nI (g + 1 + kq))) ((sPl s1) (ix (nI g))))), upd (upd w1 (ix ((upd (upd (sPl s1) (ix (nI g)) ((sPl s1) (ix (nI (g + 1 + kq))))) (ix (nI (g + 1 + kq))) ((sPl s1) (ix (nI g)))) (ix (nI g)))) (nI g)) (ix ((upd (upd (sPl s1) (ix (nI g)) ((sPl s1) (ix (nI (g + 1 + kq))))) (ix (nI (g + 1 + kq))) ((sPl s1) (ix (nI g)))) (ix (nI (g + 1 + kq))))) (nI (g + 1 + kq)), mo_15, ne_16)) H locs ls ⟨by omega, by have q := ch_step hj1 (o := g + 1 + kq) rfl rfl; rw [if_pos c_17, if_pos c_17] at q; exact q, hj2, hP, hS, lv_sub hl [1, 2, 3, 4, 5, 0] rfl⟩
        · skip
          refine lv_aload_n hx hb dX5_change_121 rfl (lv_at hl 0 rfl) ?_
          refine va_get (ci := 3) (v := .ref (b 2 0)) (C := RX5) (T := TX5) (N := 7) hx hb hts inX5 hown hK hP 0 rfl rfl 1 (by decide) f16 (fun _ h9 => h9) rfl dX5_change_122 ?_
          refine callE (W.runV (As := []) (rest := []) ⟨hx, hb, hml, hown, hts⟩ (k_X3_quarrelsOfAll l D cI cL cS (b 2) (sCo (sPass (ix x0) (uPl s1 (upd (upd (sPl s1) (ix (nI g)) ((sPl s1) (ix (nI (g + 1 + kq))))) (ix (nI (g + 1 + kq))) ((sPl s1) (ix (nI g))))))) (sGu (sPass (ix x0) (uPl s1 (upd (upd (sPl s1) (ix (nI g)) ((sPl s1) (ix (nI (g + 1 + kq))))) (ix (nI (g + 1 + kq))) ((sPl s1) (ix (nI g))))))) (sKn (sPass (ix x0) (uPl s1 (upd (upd (sPl s1) (ix (nI g)) ((sPl s1) (ix (nI (g + 1 + kq))))) (ix (nI (g + 1 + kq))) ((sPl s1) (ix (nI g))))))) (sFo (sPass (ix x0) (uPl s1 (upd (upd (sPl s1) (ix (nI g)) ((sPl s1) (ix (nI (g + 1 + kq))))) (ix (nI (g + 1 + kq))) ((sPl s1) (ix (nI g))))))) (sSp (sPass (ix x0) (uPl s1 (upd (upd (sPl s1) (ix (nI g)) ((sPl s1) (ix (nI (g + 1 + kq))))) (ix (nI (g + 1 + kq))) ((sPl s1) (ix (nI g))))))) (upd (upd w1 (ix ((upd (upd (sPl s1) (ix (nI g)) ((sPl s1) (ix (nI (g + 1 + kq))))) (ix (nI (g + 1 + kq))) ((sPl s1) (ix (nI g)))) (ix (nI g)))) (nI g)) (ix ((upd (upd (sPl s1) (ix (nI g)) ((sPl s1) (ix (nI (g + 1 + kq))))) (ix (nI (g + 1 + kq))) ((sPl s1) (ix (nI g)))) (ix (nI (g + 1 + kq))))) (nI (g + 1 + kq))) (sKi (sPass (ix x0) (uPl s1 (upd (upd (sPl s1) (ix (nI g)) ((sPl s1) (ix (nI (g + 1 + kq))))) (ix (nI (g + 1 + kq))) ((sPl s1) (ix (nI g))))))) (sPl (sPass (ix x0) (uPl s1 (upd (upd (sPl s1) (ix (nI g)) ((sPl s1) (ix (nI (g + 1 + kq))))) (ix (nI (g + 1 + kq))) ((sPl s1) (ix (nI g))))))) (sEa (sPass (ix x0) (uPl s1 (upd (upd (sPl s1) (ix (nI g)) ((sPl s1) (ix (nI (g + 1 + kq))))) (ix (nI (g + 1 + kq))) ((sPl s1) (ix (nI g))))))) (sTo (sPass (ix x0) (uPl s1 (upd (upd (sPl s1) (ix (nI g)) ((sPl s1) (ix (nI (g + 1 + kq))))) (ix (nI (g + 1 + kq))) ((sPl s1) (ix (nI g))))))) (sQu (sPass (ix x0) (uPl s1 (upd (upd (sPl s1) (ix (nI g)) ((sPl s1) (ix (nI (g + 1 + kq))))) (ix (nI (g + 1 + kq))) ((sPl s1) (ix (nI g))))))) mo_15 ne_16 ((okS_pass hok (ix x0)).1.gu)) (cwV 0 hts gX5_change_X3_quarrelsOfAll rfl rfl rfl (by decide +kernel) ⟨Nat.le_of_ble_eq_true rfl, Nat.le_of_ble_eq_true rfl⟩) ⟨PcR_fb, va_recv hK hP (ci := 1) (q0 := 13) rfl rfl, PcR_pre (va_seg hP 13 12 rfl) hK⟩ rfl rfl hl.1 rfl (lv_room (Nat.le_of_ble_eq_true rfl)) dX5_change_125 ⟨Nat.zero_le _, Nat.zero_le _⟩) ?_
          refine lv_to (y := fChg s1 x0 g (g + 1 + kq)) (by rw [(pass_st _ (ix x0)).1]) ?_
          refine lv_istore_n (lv' := [(2, .int (fChg s1 x0 g (g + 1 + kq))), (0, .ref (b 0 0)), (1, .int x0), (3, .int cq), (4, .int (nI g)), (5, .int (nI (g + 1 + kq)))]) hx hb dX5_change_128 rfl hl (by decide) rfl (fun ls hl => ?_)
          refine lv_bipush (v := 10) hx hb dX5_change_129 (by decide) ?_
          refine lv_iload hx hb dX5_change_131 (lv_at hl 4 rfl) ?_
          refine lv_imul hx hb dX5_change_133 ?_
          refine lv_iload hx hb dX5_change_134 (lv_at hl 5 rfl) ?_
          refine lv_iadd hx hb dX5_change_136 ?_
          refine lv_istore_n (lv' := [(3, .int ((10 * (nI g)) + (nI (g + 1 + kq)))), (2, .int (fChg s1 x0 g (g + 1 + kq))), (0, .ref (b 0 0)), (1, .int x0), (4, .int (nI g)), (5, .int (nI (g + 1 + kq)))]) hx hb dX5_change_137 rfl hl (by decide) rfl (fun ls hl => ?_)
          refine lv_iinc (v := nI ((g + 1 + kq) + 1)) (lv' := [(5, .int (nI ((g + 1 + kq) + 1))), (3, .int ((10 * (nI g)) + (nI (g + 1 + kq)))), (2, .int (fChg s1 x0 g (g + 1 + kq))), (0, .ref (b 0 0)), (1, .int x0), (4, .int (nI g))]) hx hb dX5_change_138 hl (k := 5) rfl (nI_1 _) (by decide) rfl (fun ls hl => ?_)
          refine lv_goto (tgt := 68) hx hb dX5_change_141 (by decide) ?_
          exact ih (n - 1) (by omega) ((kq + 1, ((10 * (nI g)) + (nI (g + 1 + kq))), (fChg s1 x0 g (g + 1 + kq)), ((10 * (nI g)) + (nI (g + 1 + kq))), sPass (ix x0) (uPl s1 (upd (upd (sPl s1) (ix (nI g)) ((sPl s1) (ix (nI (g + 1 + kq))))) (ix (nI (g + 1 + kq))) ((sPl s1) (ix (nI g))))), upd (upd w1 (ix ((upd (upd (sPl s1) (ix (nI g)) ((sPl s1) (ix (nI (g + 1 + kq))))) (ix (nI (g + 1 + kq))) ((sPl s1) (ix (nI g)))) (ix (nI g)))) (nI g)) (ix ((upd (upd (sPl s1) (ix (nI g)) ((sPl s1) (ix (nI (g + 1 + kq))))) (ix (nI (g + 1 + kq))) ((sPl s1) (ix (nI g)))) (ix (nI (g + 1 + kq))))) (nI (g + 1 + kq)), mo_15, ne_16)) H locs ls ⟨by omega, by have q := ch_step hj1 (o := g + 1 + kq) rfl rfl; rw [if_neg c_17, if_neg c_17] at q; exact q, (if_neg (ch_pos (by omega) (by omega))).symm, hP, hS, lv_sub hl [3, 4, 2, 1, 5, 0] rfl⟩
  · skip
    have c_1b := bI_0 c_1
    refine lv_aload_n hx hb dX5_change_10 rfl (lv_at hl 0 rfl) ?_
    refine lv_ldc hx hb hown k52 dX5_change_11 ?_
    refine callMi (va_runV (As := [.int (-1000000001)]) (rest := []) ⟨hx, hb, hml, hown, hts⟩ (k_X5_found l D cI cL cS b s1 w1 m1 n1 s2 w2 m2 n2 s3 w3 m3 n3 ik bt ln tk sb en nm bits size num fnd (-1000000001) (va_DT (hD _ rfl) rfl) (vp_in_iff.mpr (by decide))) (cwV 1 hts gX5_change_X5_found rfl rfl rfl (by decide +kernel) ⟨Nat.le_of_ble_eq_true rfl, Nat.le_of_ble_eq_true rfl⟩) ⟨PcR_fb, va_recv hK hP (ci := 3) (q0 := 0) rfl rfl, PcR_pre hP hK⟩ rfl rfl hl.1 rfl (lv_room (Nat.le_of_ble_eq_true rfl)) dX5_change_13 ⟨Nat.zero_le _, Nat.zero_le _⟩) hP (hD _ rfl) hS 0 49 rfl (fun r_19 u_18 H locs hu_18 hP hS => ?_)
    obtain ⟨hu_18r, -⟩ := hu_18
    subst hu_18r
    have hP : va_P D vwCl (kcw cI cL cS b s1 w1 m1 n1 s2 w2 m2 n2 s3 w3 m3 n3 ik bt ln tk sb en nm bits size num (bump fnd (-1000000001))) H := hP
    exact W.iret hx hb hr (fun t ht hW => ⟨⟨_, (s2, w2, m2, n2, bump fnd (-1000000001)), rfl, (by exact (iF_f c_1b).symm), by dsimp only; rw [ht]; exact hP⟩, hS.F ht⟩) hS.2.2 dX5_change_16
