set_option maxRecDepth 100000 in
set_option maxHeartbeats 4000000 in
theorem k_X5_best (l : Launch) (D : va_G) (cI cL cS : ClassId) (b : Nat → Nat → Nat) (s1 : Sg) (w1 m1 n1 : FI) (s2 : Sg) (w2 m2 n2 : FI) (s3 : Sg) (w3 m3 n3 : FI) (ik : Int32) (bt : FI) (ln tk sb en nm : Int32) (bits size : FI) (num : Nat → FJ) (fnd : FI) (x0 : Int32) (x1 : Int32) (dj : va_D (fun _ => True) (djk b)) (o1 : okS s1 w1) : Met l yX5_best wsX5_best { frames := 5, cells := 0, slots := 0, locals := 111 } (PcR D vwCl (tyG cI cL cS) [.ref (b 0 0), .int x0, .int x1] (kcw cI cL cS b s1 w1 m1 n1 s2 w2 m2 n2 s3 w3 m3 n3 ik bt ln tk sb en nm bits size num fnd)) (va_Qi (fun (r : Int32) (u : Sg × FI × FI × FI × FI) => (r, u.2.2.2.2) = sBest s1 fnd x0 x1) (fun u t => va_P D vwCl (kcw cI cL cS b s1 w1 m1 n1 u.1 u.2.1 u.2.2.1 u.2.2.2.1 s3 w3 m3 n3 ik bt ln tk sb en nm bits size num u.2.2.2.2) t.heap) (Aof (kcw cI cL cS b s1 w1 m1 n1 s2 w2 m2 n2 s3 w3 m3 n3 ik bt ln tk sb en nm bits size num fnd))) 0 0 (Aof (kcw cI cL cS b s1 w1 m1 n1 s2 w2 m2 n2 s3 w3 m3 n3 ik bt ln tk sb en nm bits size num fnd)) := by
  refine Met.ofW (cc := cX5_best) (maxL := 6) (ret := (some .int)) (by decide) rfl ?_
  intro p e s m args below meth c s₁ B hml hv
  obtain ⟨rfl, hP, hK⟩ := hv
  have hx := B.exec
  have hb := B.bytes
  have hr := B.returns
  have hts := atoms_spec (ws := wsX5_best) B.pre
  have hown : s.vm.findClass RX5 = some m.cls := findClass_of_methodNamed B.named
  have hlocks := B.notSynchronized
  obtain ⟨A, hAe⟩ : ∃ A, A = Aof (kcw cI cL cS b s1 w1 m1 n1 s2 w2 m2 n2 s3 w3 m3 n3 ik bt ln tk sb en nm bits size num fnd) := ⟨_, rfl⟩
  rw [← hAe]
  have hD : ∀ ws' : va_W, ws'.map Prod.fst = (kcw cI cL cS b s1 w1 m1 n1 s2 w2 m2 n2 s3 w3 m3 n3 ik bt ln tk sb en nm bits size num fnd).map Prod.fst → va_D A ws' := fun ws' e => by rw [hAe]; exact va_D_adr (va_D_self (va_D_adr dj rfl)) e
  have hS : va_S A s.heap s.heap [] := va_S.rf
  have hP : va_P D vwCl (kcw cI cL cS b s1 w1 m1 n1 s2 w2 m2 n2 s3 w3 m3 n3 ik bt ln tk sb en nm bits size num fnd) s.heap := hP
  have hl := lv_entry ([.ref (b 0 0), .int x0, .int x1]) (n := 6) (Nat.le_of_ble_eq_true rfl)
  rw [lg_entry_eq]
  generalize (lg_sl ([.ref (b 0 0), .int x0, .int x1]) ++ List.replicate (6 - (lg_sl ([.ref (b 0 0), .int x0, .int x1])).length) Slot.unset).toArray = ls at hl ⊢
  have hl : lv_has ls 6 [(0, .ref (b 0 0)), (1, .int x0), (2, .int x1)] := hl
  have f10 := hts (.fieldLink RX5 10 "KnivesLaid" "table" "LKnivesLaid$Table;") (List.mem_of_getElem? (i := 1) rfl)
  have inX5 : ∀ w ∈ u_ws RX5 TX5 7, w ∈ wsX5_best := in_at 125 _ _ rfl
  have k52 := hts (.constant RX5 52 (-1000000001)) (List.mem_of_getElem? (i := 2) rfl)
  have f104 := hts (.fieldLink RX5 104 "KnivesLaid$Table" "at" "[I") (List.mem_of_getElem? (i := 3) rfl)
  have inX3 : ∀ w ∈ u_ws RX3 TX3 13, w ∈ wsX5_best := in_at 132 _ _ rfl
  have f16 := hts (.fieldLink RX5 16 "KnivesLaid" "trial" "LKnivesLaid$Table;") (List.mem_of_getElem? (i := 4) rfl)
  have f107 := hts (.fieldLink RX5 107 "KnivesLaid$Table" "ease" "[I") (List.mem_of_getElem? (i := 5) rfl)
  skip
  refine lv_aload_n hx hb dX5_best_0 rfl (lv_at hl 0 rfl) ?_
  refine va_get (ci := 3) (v := .ref (b 1 0)) (C := RX5) (T := TX5) (N := 7) hx hb hts inX5 hown hK hP 0 rfl rfl 0 (by decide) f10 (fun _ h9 => h9) rfl dX5_best_1 ?_
  refine lv_iload_n hx hb dX5_best_4 rfl (lv_at hl 1 rfl) ?_
  refine callE (W.runV (As := [.int x0]) (rest := []) ⟨hx, hb, hml, hown, hts⟩ (k_X3_has l D cI cL cS (b 1) (sCo s1) (sGu s1) (sKn s1) (sFo s1) (sSp s1) w1 (sKi s1) (sPl s1) (sEa s1) (sTo s1) (sQu s1) m1 n1 x0 o1.1.gu) (cwV 1 hts gX5_best_X3_has rfl rfl rfl (by decide +kernel) ⟨Nat.le_of_ble_eq_true rfl, Nat.le_of_ble_eq_true rfl⟩) ⟨PcR_fb, va_recv hK hP (ci := 1) (q0 := 1) rfl rfl, PcR_pre (va_seg hP 1 12 rfl) hK⟩ rfl rfl hl.1 rfl (lv_room (Nat.le_of_ble_eq_true rfl)) dX5_best_5 ⟨Nat.zero_le _, Nat.zero_le _⟩) ?_
  refine lv_if_eq (tgt := 21) hx hb dX5_best_8 (by decide) (fun c_1 => ?_) (fun c_1 => ?_)
  · skip
    have c_1b := bI_0 c_1
    refine lv_aload_n hx hb dX5_best_21 rfl (lv_at hl 0 rfl) ?_
    refine lv_ldc hx hb hown k52 dX5_best_22 ?_
    refine callMi (va_runV (As := [.int (-1000000001)]) (rest := []) ⟨hx, hb, hml, hown, hts⟩ (k_X5_found l D cI cL cS b s1 w1 m1 n1 s2 w2 m2 n2 s3 w3 m3 n3 ik bt ln tk sb en nm bits size num fnd (-1000000001) (va_DT (hD _ rfl) rfl) (vp_in_iff.mpr (by decide))) (cwV 1 hts gX5_best_X5_found rfl rfl rfl (by decide +kernel) ⟨Nat.le_of_ble_eq_true rfl, Nat.le_of_ble_eq_true rfl⟩) ⟨PcR_fb, va_recv hK hP (ci := 3) (q0 := 0) rfl rfl, PcR_pre hP hK⟩ rfl rfl hl.1 rfl (lv_room (Nat.le_of_ble_eq_true rfl)) dX5_best_24 ⟨Nat.zero_le _, Nat.zero_le _⟩) hP (hD _ rfl) hS 0 49 rfl (fun r_3 u_2 H locs hu_2 hP hS => ?_)
    obtain ⟨hu_2r, -⟩ := hu_2
    subst hu_2r
    have hP : va_P D vwCl (kcw cI cL cS b s1 w1 m1 n1 s2 w2 m2 n2 s3 w3 m3 n3 ik bt ln tk sb en nm bits size num (bump fnd (-1000000001))) H := hP
    exact W.iret hx hb hr (fun t ht hW => ⟨⟨_, (s2, w2, m2, n2, bump fnd (-1000000001)), rfl, (by exact (iF_f (fun h => by first | exact absurd h.1 c_1b | exact absurd c_1b h.1 | exact absurd h.2 c_1b | exact absurd c_1b h.2)).symm), by dsimp only; rw [ht]; exact hP⟩, hS.F ht⟩) hS.2.2 dX5_best_27
  · skip
    have c_1b := bI_n c_1
    have h1n := c_1b
    have h8 : vp_in x0 8 := in_8 o1.1.gu h1n
    refine lv_iload_n hx hb dX5_best_11 rfl (lv_at hl 2 rfl) ?_
    refine lv_iconst (v := 1) hx hb dX5_best_12 (by decide) ?_
    refine lv_bipush (v := 40) hx hb dX5_best_13 (by decide) ?_
    refine callE (W.runS (As := [.int x1, .int 1, .int 40]) (rest := []) ⟨hx, hb, hml, hown, hts⟩ (k_X5_within l x1 1 40) (va_cwS 3 hts gX5_best_X5_within rfl rfl rfl (by decide +kernel) ⟨Nat.le_of_ble_eq_true rfl, Nat.le_of_ble_eq_true rfl⟩) ⟨PcP_fb, fun U _ _ => ⟨rfl, trivial⟩⟩ rfl rfl hl.1 rfl (lv_room (Nat.le_of_ble_eq_true rfl)) dX5_best_15 ⟨Nat.zero_le _, Nat.zero_le _⟩) ?_
    refine lv_if_ne (tgt := 28) hx hb dX5_best_18 (by decide) (fun c_4 => ?_) (fun c_4 => ?_)
    · skip
      have c_4b := bI_n c_4
      have hn := c_4b
      have hcc : sOne s1 x0 ∧ c40 x1 := ⟨h1n, hn⟩
      refine lv_aload_n hx hb dX5_best_28 rfl (lv_at hl 0 rfl) ?_
      refine va_get (ci := 3) (v := .ref (b 1 0)) (C := RX5) (T := TX5) (N := 7) hx hb hts inX5 hown hK hP 0 rfl rfl 0 (by decide) f10 (fun _ h9 => h9) rfl dX5_best_29 ?_
      refine va_get (ci := 1) (v := .ref (b 1 6)) (C := RX3) (T := TX3) (N := 13) hx hb hts inX3 hown hK hP 1 rfl rfl 7 (by decide) f104 (fun _ h9 => h9) rfl dX5_best_32 ?_
      refine lv_iload_n hx hb dX5_best_35 rfl (lv_at hl 1 rfl) ?_
      refine va_iald hx hb hK hP 7 0 rfl rfl (by assumption) dX5_best_36 ?_
      refine lv_istore_n (lv' := [(3, .int ((sPl s1) (ix x0))), (0, .ref (b 0 0)), (1, .int x0), (2, .int x1)]) hx hb dX5_best_37 rfl hl (by decide) rfl (fun ls hl => ?_)
      refine lv_bipush (v := (-100)) hx hb dX5_best_38 (by decide) ?_
      refine lv_istore (lv' := [(4, .int (-100)), (3, .int ((sPl s1) (ix x0))), (0, .ref (b 0 0)), (1, .int x0), (2, .int x1)]) hx hb dX5_best_40 hl (by decide) rfl (fun ls hl => ?_)
      refine lv_iconst (v := 0) hx hb dX5_best_42 (by decide) ?_
      refine lv_istore (lv' := [(5, .int 0), (4, .int (-100)), (3, .int ((sPl s1) (ix x0))), (0, .ref (b 0 0)), (1, .int x0), (2, .int x1)]) hx hb dX5_best_43 hl (by decide) rfl (fun ls hl => ?_)
      refine lpW (fun n (u : Nat × Int32 × Int32 × Sg × FI × FI × FI) H locs ls => (u.1 + n = 10) ∧ ((u.2.1, u.2.2.1) = argC (okB s1 x0) (fBest s1 x0 x1) (sPl s1 (ix x0)) (-100) u.1) ∧ va_P D vwCl (kcw cI cL cS b s1 w1 m1 n1 u.2.2.2.1 u.2.2.2.2.1 u.2.2.2.2.2.1 u.2.2.2.2.2.2 s3 w3 m3 n3 ik bt ln tk sb en nm bits size num fnd) H ∧ va_S A s.heap H locs ∧ lv_has ls 6 [(0, .ref (b 0 0)), (1, .int x0), (2, .int x1), (3, .int u.2.1), (4, .int u.2.2.1), (5, .int (nI u.1))]) (10) ((0, (sPl s1 (ix x0)), (-100), s2, w2, m2, n2)) ⟨by omega, argC_0 _ _ _ _, hP, hS, lv_sub hl [3, 4, 5, 2, 1, 0] rfl⟩ (fun n ih u H locs ls hI => ?_)
      obtain ⟨i, bb, mm, sx, wx, mx, nx⟩ := u
      obtain ⟨hi0, hi1, hP, hS, hl⟩ := hI
      have hi0 : i + n = 10 := hi0
      have hi1 : (bb, mm) = argC (okB s1 x0) (fBest s1 x0 x1) (sPl s1 (ix x0)) (-100) i := hi1
      have hl : lv_has ls 6 [(0, .ref (b 0 0)), (1, .int x0), (2, .int x1), (3, .int bb), (4, .int mm), (5, .int (nI i))] := hl
      have hP : va_P D vwCl (kcw cI cL cS b s1 w1 m1 n1 sx wx mx nx s3 w3 m3 n3 ik bt ln tk sb en nm bits size num fnd) H := hP
      have hix : ix (nI i) = i := ix_nI (by omega)
      refine lv_iload hx hb dX5_best_45 (lv_at hl 5 rfl) ?_
      refine lv_bipush (v := 10) hx hb dX5_best_47 (by decide) ?_
      refine lv_icmp_ge (tgt := 128) hx hb dX5_best_49 (by decide) (fun c_5 => ?_) (fun c_5 => ?_)
      · skip
        have c_5n := (cmp_le (a := 10) (b := i) rfl rfl (by omega) (by omega)).mp c_5
        refine lv_iload_n hx hb dX5_best_128 rfl (lv_at hl 3 rfl) ?_
        exact W.iret hx hb hr (fun t ht hW => ⟨⟨_, (sx, wx, mx, nx, fnd), rfl, (by unfold sBest; rw [iF_t hcc]; rw [argC_end (show (bb, mm) = argC _ _ _ _ 10 by rw [hi1, show i = 10 by omega]) (own_ok o1 h1n) (ix_lt (by decide) (o1.1.pl h8)) (by decide)]), by dsimp only; rw [ht]; exact hP⟩, hS.F ht⟩) hS.2.2 dX5_best_129
      · skip
        have c_5n := mt (cmp_le (a := 10) (b := i) rfl rfl (by omega) (by omega)).mpr c_5
        refine lv_aload_n hx hb dX5_best_52 rfl (lv_at hl 0 rfl) ?_
        refine va_get (ci := 3) (v := .ref (b 1 0)) (C := RX5) (T := TX5) (N := 7) hx hb hts inX5 hown hK hP 0 rfl rfl 0 (by decide) f10 (fun _ h9 => h9) rfl dX5_best_53 ?_
        refine lv_iload_n hx hb dX5_best_56 rfl (lv_at hl 1 rfl) ?_
        refine lv_iload hx hb dX5_best_57 (lv_at hl 5 rfl) ?_
        refine callE (W.runV (As := [.int x0, .int (nI i)]) (rest := []) ⟨hx, hb, hml, hown, hts⟩ (k_X3_freeFor l D cI cL cS (b 1) (sCo s1) (sGu s1) (sKn s1) (sFo s1) (sSp s1) w1 (sKi s1) (sPl s1) (sEa s1) (sTo s1) (sQu s1) m1 n1 x0 (nI i) (vp_in_nI (by omega) (by decide))) (cwV 2 hts gX5_best_X3_freeFor rfl rfl rfl (by decide +kernel) ⟨Nat.le_of_ble_eq_true rfl, Nat.le_of_ble_eq_true rfl⟩) ⟨PcR_fb, va_recv hK hP (ci := 1) (q0 := 1) rfl rfl, PcR_pre (va_seg hP 1 12 rfl) hK⟩ rfl rfl hl.1 rfl (lv_room (Nat.le_of_ble_eq_true rfl)) dX5_best_59 ⟨Nat.zero_le _, Nat.zero_le _⟩) ?_
        refine lv_if_eq (tgt := 122) hx hb dX5_best_62 (by decide) (fun c_6 => ?_) (fun c_6 => ?_)
        · skip
          have c_6b := bI_0 c_6
          have hip : vp_in (nI i) 10 := vp_in_nI (by omega) (by decide)
          have hno : ¬ okB s1 x0 i := by have q := c_6b; rw [o1.1.wh hip] at q; exact q
          refine lv_iinc (v := nI (i + 1)) (lv' := [(5, .int (nI (i + 1))), (0, .ref (b 0 0)), (1, .int x0), (2, .int x1), (3, .int bb), (4, .int mm)]) hx hb dX5_best_122 hl (k := 5) rfl (nI_1 _) (by decide) rfl (fun ls hl => ?_)
          refine lv_goto (tgt := 45) hx hb dX5_best_125 (by decide) ?_
          exact ih (n - 1) (by omega) ((i + 1, bb, mm, sx, wx, mx, nx)) H locs ls ⟨by omega, argC_skip hi1 hno, hP, hS, lv_sub hl [1, 2, 3, 4, 5, 0] rfl⟩
        · skip
          have c_6b := bI_n c_6
          have hip : vp_in (nI i) 10 := vp_in_nI (by omega) (by decide)
          have hfr : okB s1 x0 i := by have q := c_6b; rw [o1.1.wh hip] at q; exact q
          have hok := ok_move o1 h1n hip hfr
          refine lv_aload_n hx hb dX5_best_65 rfl (lv_at hl 0 rfl) ?_
          refine va_get (ci := 3) (v := .ref (b 2 0)) (C := RX5) (T := TX5) (N := 7) hx hb hts inX5 hown hK hP 0 rfl rfl 1 (by decide) f16 (fun _ h9 => h9) rfl dX5_best_66 ?_
          refine lv_aload_n hx hb dX5_best_69 rfl (lv_at hl 0 rfl) ?_
          refine va_get (ci := 3) (v := .ref (b 1 0)) (C := RX5) (T := TX5) (N := 7) hx hb hts inX5 hown hK hP 0 rfl rfl 0 (by decide) f10 (fun _ h9 => h9) rfl dX5_best_70 ?_
          refine callBec (wt := tbw cI (b 2) (sCo sx) (sGu sx) (sKn sx) (sFo sx) (sSp sx) wx (sKi sx) (sPl sx) (sEa sx) (sTo sx) (sQu sx) mx nx) (wo := tbw cI (b 1) (sCo s1) (sGu s1) (sKn s1) (sFo s1) (sSp s1) w1 (sKi s1) (sPl s1) (sEa s1) (sTo s1) (sQu s1) m1 n1) (w1 := tbw cI (b 2) (sCo s1) (sGu s1) (sKn s1) (sFo s1) (sSp s1) w1 (sKi s1) (sPl s1) (sEa s1) (sTo s1) (sQu s1) mx nx) (va_runV (As := [.ref (b 1 0)]) (rest := []) ⟨hx, hb, hml, hown, hts⟩ (k_X3_become l D cI cL cS (b 2) (sCo sx) (sGu sx) (sKn sx) (sFo sx) (sSp sx) wx (sKi sx) (sPl sx) (sEa sx) (sTo sx) (sQu sx) mx nx (b 1) (sCo s1) (sGu s1) (sKn s1) (sFo s1) (sSp s1) w1 (sKi s1) (sPl s1) (sEa s1) (sTo s1) (sQu s1) m1 n1 (va_DT (va_D.sub (ws' := tbw2 cI (b 2) (b 1) (sCo sx) (sGu sx) (sKn sx) (sFo sx) (sSp sx) wx (sKi sx) (sPl sx) (sEa sx) (sTo sx) (sQu sx) mx nx (sCo s1) (sGu s1) (sKn s1) (sFo s1) (sSp s1) w1 (sKi s1) (sPl s1) (sEa s1) (sTo s1) (sQu s1) m1 n1) (hD (kcw cI cL cS b s1 w1 m1 n1 sx wx mx nx s3 w3 m3 n3 ik bt ln tk sb en nm bits size num fnd) rfl) [13, 14, 15, 16, 17, 18, 19, 20, 21, 22, 23, 24, 1, 2, 3, 4, 5, 6, 7, 8, 9, 10, 11, 12] (by decide) rfl) rfl)) (cwV 1 hts gX5_best_X3_become rfl rfl rfl (by decide +kernel) ⟨Nat.le_of_ble_eq_true rfl, Nat.le_of_ble_eq_true rfl⟩) ⟨PcR_fb, va_recv hK hP (ci := 1) (q0 := 13) rfl rfl, PcR_pre (va_P.sub hP [13, 14, 15, 16, 17, 18, 19, 20, 21, 22, 23, 24, 1, 2, 3, 4, 5, 6, 7, 8, 9, 10, 11, 12] rfl) hK⟩ rfl rfl hl.1 rfl (lv_room (Nat.le_of_ble_eq_true rfl)) dX5_best_73 ⟨Nat.zero_le _, Nat.zero_le _⟩) hP (hD _ rfl) hS 13 12 1 12 rfl rfl rfl (fun H locs hP hS => ?_)
          have hP : va_P D vwCl (kcw cI cL cS b s1 w1 m1 n1 s1 w1 mx nx s3 w3 m3 n3 ik bt ln tk sb en nm bits size num fnd) H := hP
          refine lv_aload_n hx hb dX5_best_76 rfl (lv_at hl 0 rfl) ?_
          refine va_get (ci := 3) (v := .ref (b 2 0)) (C := RX5) (T := TX5) (N := 7) hx hb hts inX5 hown hK hP 0 rfl rfl 1 (by decide) f16 (fun _ h9 => h9) rfl dX5_best_77 ?_
          refine lv_iload_n hx hb dX5_best_80 rfl (lv_at hl 1 rfl) ?_
          refine lv_iload hx hb dX5_best_81 (lv_at hl 5 rfl) ?_
          refine callMv (va_runV (As := [.int x0, .int (nI i)]) (rest := []) ⟨hx, hb, hml, hown, hts⟩ (k_X3_move l D cI cL cS (b 2) (sCo s1) (sGu s1) (sKn s1) (sFo s1) (sSp s1) w1 (sKi s1) (sPl s1) (sEa s1) (sTo s1) (sQu s1) mx nx x0 (nI i) (va_DT (va_segD (hD _ rfl) 13 12 rfl) rfl) h8 (vp_in_nI (by omega) (by decide)) (o1.1.pl h8)) (cwV 2 hts gX5_best_X3_move rfl rfl rfl (by decide +kernel) ⟨Nat.le_of_ble_eq_true rfl, Nat.le_of_ble_eq_true rfl⟩) ⟨PcR_fb, va_recv hK hP (ci := 1) (q0 := 13) rfl rfl, PcR_pre (va_seg hP 13 12 rfl) hK⟩ rfl rfl hl.1 rfl (lv_room (Nat.le_of_ble_eq_true rfl)) dX5_best_83 ⟨Nat.zero_le _, Nat.zero_le _⟩) hP (hD _ rfl) hS 13 12 rfl (fun u_7 H locs hu_7 hP hS => ?_)
          have hP : va_P D vwCl (kcw cI cL cS b s1 w1 m1 n1 (uPl s1 (upd (sPl s1) (ix x0) (nI i))) (upd (upd w1 (ix ((sPl s1) (ix x0))) (-1)) (ix (nI i)) x0) mx nx s3 w3 m3 n3 ik bt ln tk sb en nm bits size num fnd) H := hP
          refine lv_aload_n hx hb dX5_best_86 rfl (lv_at hl 0 rfl) ?_
          refine va_get (ci := 3) (v := .ref (b 2 0)) (C := RX5) (T := TX5) (N := 7) hx hb hts inX5 hown hK hP 0 rfl rfl 1 (by decide) f16 (fun _ h9 => h9) rfl dX5_best_87 ?_
          refine lv_iload_n hx hb dX5_best_90 rfl (lv_at hl 2 rfl) ?_
          refine callMv (va_runV (As := [.int x1]) (rest := []) ⟨hx, hb, hml, hown, hts⟩ (k_X3_serve l D cI cL cS (b 2) (sCo (uPl s1 (upd (sPl s1) (ix x0) (nI i)))) (sGu (uPl s1 (upd (sPl s1) (ix x0) (nI i)))) (sKn (uPl s1 (upd (sPl s1) (ix x0) (nI i)))) (sFo (uPl s1 (upd (sPl s1) (ix x0) (nI i)))) (sSp (uPl s1 (upd (sPl s1) (ix x0) (nI i)))) (upd (upd w1 (ix ((sPl s1) (ix x0))) (-1)) (ix (nI i)) x0) (sKi (uPl s1 (upd (sPl s1) (ix x0) (nI i)))) (sPl (uPl s1 (upd (sPl s1) (ix x0) (nI i)))) (sEa (uPl s1 (upd (sPl s1) (ix x0) (nI i)))) (sTo (uPl s1 (upd (sPl s1) (ix x0) (nI i)))) (sQu (uPl s1 (upd (sPl s1) (ix x0) (nI i)))) mx nx x1 (va_DT (va_segD (hD _ rfl) 13 12 rfl) rfl) hok.1 hok.2 (wi_in hn (by decide) (by decide))) (cwV 1 hts gX5_best_X3_serve rfl rfl rfl (by decide +kernel) ⟨Nat.le_of_ble_eq_true rfl, Nat.le_of_ble_eq_true rfl⟩) ⟨PcR_fb, va_recv hK hP (ci := 1) (q0 := 13) rfl rfl, PcR_pre (va_seg hP 13 12 rfl) hK⟩ rfl rfl hl.1 rfl (lv_room (Nat.le_of_ble_eq_true rfl)) dX5_best_91 ⟨Nat.zero_le _, Nat.zero_le _⟩) hP (hD _ rfl) hS 13 12 rfl (fun u_9 H locs hu_9 hP hS => ?_)
          obtain ⟨mo_11, ne_12⟩ := u_9
          have hP : va_P D vwCl (kcw cI cL cS b s1 w1 m1 n1 (sPass (ix x1) (uPl s1 (upd (sPl s1) (ix x0) (nI i)))) (upd (upd w1 (ix ((sPl s1) (ix x0))) (-1)) (ix (nI i)) x0) mo_11 ne_12 s3 w3 m3 n3 ik bt ln tk sb en nm bits size num fnd) H := hP
          refine lv_aload_n hx hb dX5_best_94 rfl (lv_at hl 0 rfl) ?_
          refine va_get (ci := 3) (v := .ref (b 2 0)) (C := RX5) (T := TX5) (N := 7) hx hb hts inX5 hown hK hP 0 rfl rfl 1 (by decide) f16 (fun _ h9 => h9) rfl dX5_best_95 ?_
          refine va_get (ci := 1) (v := .ref (b 2 7)) (C := RX3) (T := TX3) (N := 13) hx hb hts inX3 hown hK hP 13 rfl rfl 8 (by decide) f107 (fun _ h9 => h9) rfl dX5_best_98 ?_
          refine lv_iload_n hx hb dX5_best_101 rfl (lv_at hl 1 rfl) ?_
          refine va_iald hx hb hK hP 20 0 rfl rfl (by assumption) dX5_best_102 ?_
          refine lv_iload hx hb dX5_best_103 (lv_at hl 4 rfl) ?_
          refine lv_icmp_le (tgt := 122) hx hb dX5_best_105 (by decide) (fun c_13 => ?_) (fun c_13 => ?_)
          · skip
            refine lv_iinc (v := nI (i + 1)) (lv' := [(5, .int (nI (i + 1))), (0, .ref (b 0 0)), (1, .int x0), (2, .int x1), (3, .int bb), (4, .int mm)]) hx hb dX5_best_122 hl (k := 5) rfl (nI_1 _) (by decide) rfl (fun ls hl => ?_)
            refine lv_goto (tgt := 45) hx hb dX5_best_125 (by decide) ?_
            exact ih (n - 1) (by omega) ((i + 1, bb, mm, sPass (ix x1) (uPl s1 (upd (sPl s1) (ix x0) (nI i))), upd (upd w1 (ix ((sPl s1) (ix x0))) (-1)) (ix (nI i)) x0, mo_11, ne_12)) H locs ls ⟨by omega, argC_le hi1 (ease_lo (okS_pass hok (ix x1)) h8) c_13, hP, hS, lv_sub hl [1, 2, 3, 4, 5, 0] rfl⟩
          · skip
            refine lv_aload_n hx hb dX5_best_108 rfl (lv_at hl 0 rfl) ?_
            refine va_get (ci := 3) (v := .ref (b 2 0)) (C := RX5) (T := TX5) (N := 7) hx hb hts inX5 hown hK hP 0 rfl rfl 1 (by decide) f16 (fun _ h9 => h9) rfl dX5_best_109 ?_
            refine va_get (ci := 1) (v := .ref (b 2 7)) (C := RX3) (T := TX3) (N := 13) hx hb hts inX3 hown hK hP 13 rfl rfl 8 (by decide) f107 (fun _ h9 => h9) rfl dX5_best_112 ?_
            refine lv_iload_n hx hb dX5_best_115 rfl (lv_at hl 1 rfl) ?_
            refine va_iald hx hb hK hP 20 0 rfl rfl (by assumption) dX5_best_116 ?_
            refine lv_istore (lv' := [(4, .int ((sEa (sPass (ix x1) (uPl s1 (upd (sPl s1) (ix x0) (nI i))))) (ix x0))), (0, .ref (b 0 0)), (1, .int x0), (2, .int x1), (3, .int bb), (5, .int (nI i))]) hx hb dX5_best_117 hl (by decide) rfl (fun ls hl => ?_)
            refine lv_iload hx hb dX5_best_119 (lv_at hl 5 rfl) ?_
            refine lv_istore_n (lv' := [(3, .int (nI i)), (4, .int ((sEa (sPass (ix x1) (uPl s1 (upd (sPl s1) (ix x0) (nI i))))) (ix x0))), (0, .ref (b 0 0)), (1, .int x0), (2, .int x1), (5, .int (nI i))]) hx hb dX5_best_121 rfl hl (by decide) rfl (fun ls hl => ?_)
            refine lv_iinc (v := nI (i + 1)) (lv' := [(5, .int (nI (i + 1))), (3, .int (nI i)), (4, .int ((sEa (sPass (ix x1) (uPl s1 (upd (sPl s1) (ix x0) (nI i))))) (ix x0))), (0, .ref (b 0 0)), (1, .int x0), (2, .int x1)]) hx hb dX5_best_122 hl (k := 5) rfl (nI_1 _) (by decide) rfl (fun ls hl => ?_)
            refine lv_goto (tgt := 45) hx hb dX5_best_125 (by decide) ?_
            exact ih (n - 1) (by omega) ((i + 1, nI i, ((sEa (sPass (ix x1) (uPl s1 (upd (sPl s1) (ix x0) (nI i))))) (ix x0)), sPass (ix x1) (uPl s1 (upd (sPl s1) (ix x0) (nI i))), upd (upd w1 (ix ((sPl s1) (ix x0))) (-1)) (ix (nI i)) x0, mo_11, ne_12)) H locs ls ⟨by omega, argC_gt hi1 hfr (by omega) c_13, hP, hS, lv_sub hl [3, 4, 5, 1, 2, 0] rfl⟩
    · skip
      have c_4b := bI_0 c_4
      refine lv_aload_n hx hb dX5_best_21 rfl (lv_at hl 0 rfl) ?_
      refine lv_ldc hx hb hown k52 dX5_best_22 ?_
      refine callMi (va_runV (As := [.int (-1000000001)]) (rest := []) ⟨hx, hb, hml, hown, hts⟩ (k_X5_found l D cI cL cS b s1 w1 m1 n1 s2 w2 m2 n2 s3 w3 m3 n3 ik bt ln tk sb en nm bits size num fnd (-1000000001) (va_DT (hD _ rfl) rfl) (vp_in_iff.mpr (by decide))) (cwV 1 hts gX5_best_X5_found rfl rfl rfl (by decide +kernel) ⟨Nat.le_of_ble_eq_true rfl, Nat.le_of_ble_eq_true rfl⟩) ⟨PcR_fb, va_recv hK hP (ci := 3) (q0 := 0) rfl rfl, PcR_pre hP hK⟩ rfl rfl hl.1 rfl (lv_room (Nat.le_of_ble_eq_true rfl)) dX5_best_24 ⟨Nat.zero_le _, Nat.zero_le _⟩) hP (hD _ rfl) hS 0 49 rfl (fun r_15 u_14 H locs hu_14 hP hS => ?_)
      obtain ⟨hu_14r, -⟩ := hu_14
      subst hu_14r
      have hP : va_P D vwCl (kcw cI cL cS b s1 w1 m1 n1 s2 w2 m2 n2 s3 w3 m3 n3 ik bt ln tk sb en nm bits size num (bump fnd (-1000000001))) H := hP
      exact W.iret hx hb hr (fun t ht hW => ⟨⟨_, (s2, w2, m2, n2, bump fnd (-1000000001)), rfl, (by exact (iF_f (fun h => by first | exact absurd h.1 c_4b | exact absurd c_4b h.1 | exact absurd h.2 c_4b | exact absurd c_4b h.2)).symm), by dsimp only; rw [ht]; exact hP⟩, hS.F ht⟩) hS.2.2 dX5_best_27

set_option maxRecDepth 100000 in
set_option maxHeartbeats 4000000 in
theorem k_X5_laid (l : Launch) (D : va_G) (cI cL cS : ClassId) (b : Nat → Nat → Nat) (s1 : Sg) (w1 m1 n1 : FI) (s2 : Sg) (w2 m2 n2 : FI) (s3 : Sg) (w3 m3 n3 : FI) (ik : Int32) (bt : FI) (ln tk sb en nm : Int32) (bits size : FI) (num : Nat → FJ) (fnd : FI) (x0 : Int32) (x1 : Int32) (dj : va_D (fun _ => True) (djk b)) (o1 : okS s1 w1) : Met l yX5_laid wsX5_laid { frames := 5, cells := 0, slots := 0, locals := 111 } (PcR D vwCl (tyG cI cL cS) [.ref (b 0 0), .int x0, .int x1] (kcw cI cL cS b s1 w1 m1 n1 s2 w2 m2 n2 s3 w3 m3 n3 ik bt ln tk sb en nm bits size num fnd)) (va_Qi (fun (r : Int32) (u : Sg × FI × FI × FI × FI) => (r, u.2.2.2.2) = sLaid s1 fnd x0 x1) (fun u t => va_P D vwCl (kcw cI cL cS b s1 w1 m1 n1 u.1 u.2.1 u.2.2.1 u.2.2.2.1 s3 w3 m3 n3 ik bt ln tk sb en nm bits size num u.2.2.2.2) t.heap) (Aof (kcw cI cL cS b s1 w1 m1 n1 s2 w2 m2 n2 s3 w3 m3 n3 ik bt ln tk sb en nm bits size num fnd))) 0 0 (Aof (kcw cI cL cS b s1 w1 m1 n1 s2 w2 m2 n2 s3 w3 m3 n3 ik bt ln tk sb en nm bits size num fnd)) := by
  refine Met.ofW (cc := cX5_laid) (maxL := 7) (ret := (some .int)) (by decide) rfl ?_
  intro p e s m args below meth c s₁ B hml hv
  obtain ⟨rfl, hP, hK⟩ := hv
  have hx := B.exec
  have hb := B.bytes
  have hr := B.returns
  have hts := atoms_spec (ws := wsX5_laid) B.pre
  have hown : s.vm.findClass RX5 = some m.cls := findClass_of_methodNamed B.named
  have hlocks := B.notSynchronized
  obtain ⟨A, hAe⟩ : ∃ A, A = Aof (kcw cI cL cS b s1 w1 m1 n1 s2 w2 m2 n2 s3 w3 m3 n3 ik bt ln tk sb en nm bits size num fnd) := ⟨_, rfl⟩
  rw [← hAe]
  have hD : ∀ ws' : va_W, ws'.map Prod.fst = (kcw cI cL cS b s1 w1 m1 n1 s2 w2 m2 n2 s3 w3 m3 n3 ik bt ln tk sb en nm bits size num fnd).map Prod.fst → va_D A ws' := fun ws' e => by rw [hAe]; exact va_D_adr (va_D_self (va_D_adr dj rfl)) e
  have hS : va_S A s.heap s.heap [] := va_S.rf
  have hP : va_P D vwCl (kcw cI cL cS b s1 w1 m1 n1 s2 w2 m2 n2 s3 w3 m3 n3 ik bt ln tk sb en nm bits size num fnd) s.heap := hP
  have hl := lv_entry ([.ref (b 0 0), .int x0, .int x1]) (n := 7) (Nat.le_of_ble_eq_true rfl)
  rw [lg_entry_eq]
  generalize (lg_sl ([.ref (b 0 0), .int x0, .int x1]) ++ List.replicate (7 - (lg_sl ([.ref (b 0 0), .int x0, .int x1])).length) Slot.unset).toArray = ls at hl ⊢
  have hl : lv_has ls 7 [(0, .ref (b 0 0)), (1, .int x0), (2, .int x1)] := hl
  have k52 := hts (.constant RX5 52 (-1000000001)) (List.mem_of_getElem? (i := 1) rfl)
  have f16 := hts (.fieldLink RX5 16 "KnivesLaid" "trial" "LKnivesLaid$Table;") (List.mem_of_getElem? (i := 2) rfl)
  have inX5 : ∀ w ∈ u_ws RX5 TX5 7, w ∈ wsX5_laid := in_at 123 _ _ rfl
  have f10 := hts (.fieldLink RX5 10 "KnivesLaid" "table" "LKnivesLaid$Table;") (List.mem_of_getElem? (i := 3) rfl)
  have f57 := hts (.fieldLink RX5 57 "KnivesLaid$Table" "knives" "[I") (List.mem_of_getElem? (i := 4) rfl)
  have inX3 : ∀ w ∈ u_ws RX3 TX3 13, w ∈ wsX5_laid := in_at 130 _ _ rfl
  have f60 := hts (.fieldLink RX5 60 "KnivesLaid$Table" "forks" "[I") (List.mem_of_getElem? (i := 5) rfl)
  skip
  refine lv_iload_n hx hb dX5_laid_0 rfl (lv_at hl 1 rfl) ?_
  refine callE (W.runS (As := [.int x0]) (rest := []) ⟨hx, hb, hml, hown, hts⟩ (k_X5_isPlace l x0) (va_cwS 1 hts gX5_laid_X5_isPlace rfl rfl rfl (by decide +kernel) ⟨Nat.le_of_ble_eq_true rfl, Nat.le_of_ble_eq_true rfl⟩) ⟨PcP_fb, fun U _ _ => ⟨rfl, trivial⟩⟩ rfl rfl hl.1 rfl (lv_room (Nat.le_of_ble_eq_true rfl)) dX5_laid_1 ⟨Nat.zero_le _, Nat.zero_le _⟩) ?_
  refine lv_if_eq (tgt := 17) hx hb dX5_laid_4 (by decide) (fun c_1 => ?_) (fun c_1 => ?_)
  · skip
    have c_1b := bI_0 c_1
    refine lv_aload_n hx hb dX5_laid_17 rfl (lv_at hl 0 rfl) ?_
    refine lv_ldc hx hb hown k52 dX5_laid_18 ?_
    refine callMi (va_runV (As := [.int (-1000000001)]) (rest := []) ⟨hx, hb, hml, hown, hts⟩ (k_X5_found l D cI cL cS b s1 w1 m1 n1 s2 w2 m2 n2 s3 w3 m3 n3 ik bt ln tk sb en nm bits size num fnd (-1000000001) (va_DT (hD _ rfl) rfl) (vp_in_iff.mpr (by decide))) (cwV 1 hts gX5_laid_X5_found rfl rfl rfl (by decide +kernel) ⟨Nat.le_of_ble_eq_true rfl, Nat.le_of_ble_eq_true rfl⟩) ⟨PcR_fb, va_recv hK hP (ci := 3) (q0 := 0) rfl rfl, PcR_pre hP hK⟩ rfl rfl hl.1 rfl (lv_room (Nat.le_of_ble_eq_true rfl)) dX5_laid_20 ⟨Nat.zero_le _, Nat.zero_le _⟩) hP (hD _ rfl) hS 0 49 rfl (fun r_3 u_2 H locs hu_2 hP hS => ?_)
    obtain ⟨hu_2r, -⟩ := hu_2
    subst hu_2r
    have hP : va_P D vwCl (kcw cI cL cS b s1 w1 m1 n1 s2 w2 m2 n2 s3 w3 m3 n3 ik bt ln tk sb en nm bits size num (bump fnd (-1000000001))) H := hP
    exact W.iret hx hb hr (fun t ht hW => ⟨⟨_, (s2, w2, m2, n2, bump fnd (-1000000001)), rfl, (by exact (iF_f (fun h => by first | exact absurd h.1 c_1b | exact absurd c_1b h.1 | exact absurd h.2 c_1b | exact absurd c_1b h.2)).symm), by dsimp only; rw [ht]; exact hP⟩, hS.F ht⟩) hS.2.2 dX5_laid_23
  · skip
    have c_1b := bI_n c_1
    have h1n := c_1b
    refine lv_iload_n hx hb dX5_laid_7 rfl (lv_at hl 2 rfl) ?_
    refine lv_iconst (v := 1) hx hb dX5_laid_8 (by decide) ?_
    refine lv_bipush (v := 40) hx hb dX5_laid_9 (by decide) ?_
    refine callE (W.runS (As := [.int x1, .int 1, .int 40]) (rest := []) ⟨hx, hb, hml, hown, hts⟩ (k_X5_within l x1 1 40) (va_cwS 3 hts gX5_laid_X5_within rfl rfl rfl (by decide +kernel) ⟨Nat.le_of_ble_eq_true rfl, Nat.le_of_ble_eq_true rfl⟩) ⟨PcP_fb, fun U _ _ => ⟨rfl, trivial⟩⟩ rfl rfl hl.1 rfl (lv_room (Nat.le_of_ble_eq_true rfl)) dX5_laid_11 ⟨Nat.zero_le _, Nat.zero_le _⟩) ?_
    refine lv_if_ne (tgt := 24) hx hb dX5_laid_14 (by decide) (fun c_4 => ?_) (fun c_4 => ?_)
    · skip
      have c_4b := bI_n c_4
      have hn := c_4b
      have hcc : vp_in x0 10 ∧ c40 x1 := ⟨h1n, hn⟩
      refine lv_iconst (v := 0) hx hb dX5_laid_24 (by decide) ?_
      refine lv_istore_n (lv' := [(3, .int 0), (0, .ref (b 0 0)), (1, .int x0), (2, .int x1)]) hx hb dX5_laid_25 rfl hl (by decide) rfl (fun ls hl => ?_)
      refine lv_sipush (v := (-1000)) hx hb dX5_laid_26 (by decide) ?_
      refine lv_istore (lv' := [(4, .int (-1000)), (3, .int 0), (0, .ref (b 0 0)), (1, .int x0), (2, .int x1)]) hx hb dX5_laid_29 hl (by decide) rfl (fun ls hl => ?_)
      refine lv_iconst (v := 0) hx hb dX5_laid_31 (by decide) ?_
      refine lv_istore (lv' := [(5, .int 0), (4, .int (-1000)), (3, .int 0), (0, .ref (b 0 0)), (1, .int x0), (2, .int x1)]) hx hb dX5_laid_32 hl (by decide) rfl (fun ls hl => ?_)
      refine lpW (fun n (u : Nat × Int32 × Int32 × Sg × FI × FI × FI) H locs ls => (u.1 + n = 4) ∧ ((u.2.1, u.2.2.1) = argC (fun _ => True) (fLaid s1 x0 x1) 0 (-1000) u.1) ∧ va_P D vwCl (kcw cI cL cS b s1 w1 m1 n1 u.2.2.2.1 u.2.2.2.2.1 u.2.2.2.2.2.1 u.2.2.2.2.2.2 s3 w3 m3 n3 ik bt ln tk sb en nm bits size num fnd) H ∧ va_S A s.heap H locs ∧ lv_has ls 7 [(0, .ref (b 0 0)), (1, .int x0), (2, .int x1), (3, .int u.2.1), (4, .int u.2.2.1), (5, .int (nI u.1))]) (4) ((0, 0, (-1000), s2, w2, m2, n2)) ⟨by omega, argC_0 _ _ _ _, hP, hS, lv_sub hl [3, 4, 5, 2, 1, 0] rfl⟩ (fun n ih u H locs ls hI => ?_)
      obtain ⟨i, bb, mm, sx, wx, mx, nx⟩ := u
      obtain ⟨hi0, hi1, hP, hS, hl⟩ := hI
      have hi0 : i + n = 4 := hi0
      have hi1 : (bb, mm) = argC (fun _ => True) (fLaid s1 x0 x1) 0 (-1000) i := hi1
      have hl : lv_has ls 7 [(0, .ref (b 0 0)), (1, .int x0), (2, .int x1), (3, .int bb), (4, .int mm), (5, .int (nI i))] := hl
      have hP : va_P D vwCl (kcw cI cL cS b s1 w1 m1 n1 sx wx mx nx s3 w3 m3 n3 ik bt ln tk sb en nm bits size num fnd) H := hP
      have hix : ix (nI i) = i := ix_nI (by omega)
      refine lv_iload hx hb dX5_laid_34 (lv_at hl 5 rfl) ?_
      refine lv_iconst (v := 4) hx hb dX5_laid_36 (by decide) ?_
      refine lv_icmp_ge (tgt := 114) hx hb dX5_laid_37 (by decide) (fun c_5 => ?_) (fun c_5 => ?_)
      · skip
        have c_5n := (cmp_le (a := 4) (b := i) rfl rfl (by omega) (by omega)).mp c_5
        refine lv_iload_n hx hb dX5_laid_114 rfl (lv_at hl 3 rfl) ?_
        exact W.iret hx hb hr (fun t ht hW => ⟨⟨_, (sx, wx, mx, nx, fnd), rfl, (by unfold sLaid; rw [iF_t hcc]; rw [argC_end (show (bb, mm) = argC _ _ _ _ 4 by rw [hi1, show i = 4 by omega]) (j := 0) trivial (by decide) (by decide)]), by dsimp only; rw [ht]; exact hP⟩, hS.F ht⟩) hS.2.2 dX5_laid_115
      · skip
        have c_5n := mt (cmp_le (a := 4) (b := i) rfl rfl (by omega) (by omega)).mpr c_5
        refine lv_aload_n hx hb dX5_laid_40 rfl (lv_at hl 0 rfl) ?_
        refine va_get (ci := 3) (v := .ref (b 2 0)) (C := RX5) (T := TX5) (N := 7) hx hb hts inX5 hown hK hP 0 rfl rfl 1 (by decide) f16 (fun _ h9 => h9) rfl dX5_laid_41 ?_
        refine lv_aload_n hx hb dX5_laid_44 rfl (lv_at hl 0 rfl) ?_
        refine va_get (ci := 3) (v := .ref (b 1 0)) (C := RX5) (T := TX5) (N := 7) hx hb hts inX5 hown hK hP 0 rfl rfl 0 (by decide) f10 (fun _ h9 => h9) rfl dX5_laid_45 ?_
        refine callBec (wt := tbw cI (b 2) (sCo sx) (sGu sx) (sKn sx) (sFo sx) (sSp sx) wx (sKi sx) (sPl sx) (sEa sx) (sTo sx) (sQu sx) mx nx) (wo := tbw cI (b 1) (sCo s1) (sGu s1) (sKn s1) (sFo s1) (sSp s1) w1 (sKi s1) (sPl s1) (sEa s1) (sTo s1) (sQu s1) m1 n1) (w1 := tbw cI (b 2) (sCo s1) (sGu s1) (sKn s1) (sFo s1) (sSp s1) w1 (sKi s1) (sPl s1) (sEa s1) (sTo s1) (sQu s1) mx nx) (va_runV (As := [.ref (b 1 0)]) (rest := []) ⟨hx, hb, hml, hown, hts⟩ (k_X3_become l D cI cL cS (b 2) (sCo sx) (sGu sx) (sKn sx) (sFo sx) (sSp sx) wx (sKi sx) (sPl sx) (sEa sx) (sTo sx) (sQu sx) mx nx (b 1) (sCo s1) (sGu s1) (sKn s1) (sFo s1) (sSp s1) w1 (sKi s1) (sPl s1) (sEa s1) (sTo s1) (sQu s1) m1 n1 (va_DT (va_D.sub (ws' := tbw2 cI (b 2) (b 1) (sCo sx) (sGu sx) (sKn sx) (sFo sx) (sSp sx) wx (sKi sx) (sPl sx) (sEa sx) (sTo sx) (sQu sx) mx nx (sCo s1) (sGu s1) (sKn s1) (sFo s1) (sSp s1) w1 (sKi s1) (sPl s1) (sEa s1) (sTo s1) (sQu s1) m1 n1) (hD (kcw cI cL cS b s1 w1 m1 n1 sx wx mx nx s3 w3 m3 n3 ik bt ln tk sb en nm bits size num fnd) rfl) [13, 14, 15, 16, 17, 18, 19, 20, 21, 22, 23, 24, 1, 2, 3, 4, 5, 6, 7, 8, 9, 10, 11, 12] (by decide) rfl) rfl)) (cwV 1 hts gX5_laid_X3_become rfl rfl rfl (by decide +kernel) ⟨Nat.le_of_ble_eq_true rfl, Nat.le_of_ble_eq_true rfl⟩) ⟨PcR_fb, va_recv hK hP (ci := 1) (q0 := 13) rfl rfl, PcR_pre (va_P.sub hP [13, 14, 15, 16, 17, 18, 19, 20, 21, 22, 23, 24, 1, 2, 3, 4, 5, 6, 7, 8, 9, 10, 11, 12] rfl) hK⟩ rfl rfl hl.1 rfl (lv_room (Nat.le_of_ble_eq_true rfl)) dX5_laid_48 ⟨Nat.zero_le _, Nat.zero_le _⟩) hP (hD _ rfl) hS 13 12 1 12 rfl rfl rfl (fun H locs hP hS => ?_)
        have hP : va_P D vwCl (kcw cI cL cS b s1 w1 m1 n1 s1 w1 mx nx s3 w3 m3 n3 ik bt ln tk sb en nm bits size num fnd) H := hP
        refine lv_aload_n hx hb dX5_laid_51 rfl (lv_at hl 0 rfl) ?_
        refine va_get (ci := 3) (v := .ref (b 2 0)) (C := RX5) (T := TX5) (N := 7) hx hb hts inX5 hown hK hP 0 rfl rfl 1 (by decide) f16 (fun _ h9 => h9) rfl dX5_laid_52 ?_
        refine va_get (ci := 1) (v := .ref (b 2 1)) (C := RX3) (T := TX3) (N := 13) hx hb hts inX3 hown hK hP 13 rfl rfl 1 (by decide) f57 (fun _ h9 => h9) rfl dX5_laid_55 ?_
        refine lv_iload_n hx hb dX5_laid_58 rfl (lv_at hl 1 rfl) ?_
        refine lv_iload hx hb dX5_laid_59 (lv_at hl 5 rfl) ?_
        refine lv_iconst (v := 1) hx hb dX5_laid_61 (by decide) ?_
        refine lv_iand hx hb dX5_laid_62 ?_
        refine va_iast hx hb hK hP (hD _ rfl) hS 14 0 rfl rfl h1n dX5_laid_63 (fun H locs hP _ hS => ?_)
        have hP : va_P D vwCl (kcw cI cL cS b s1 w1 m1 n1 (uKn s1 (upd (sKn s1) (ix x0) ((nI i) &&& 1))) w1 mx nx s3 w3 m3 n3 ik bt ln tk sb en nm bits size num fnd) H := hP
        refine lv_aload_n hx hb dX5_laid_64 rfl (lv_at hl 0 rfl) ?_
        refine va_get (ci := 3) (v := .ref (b 2 0)) (C := RX5) (T := TX5) (N := 7) hx hb hts inX5 hown hK hP 0 rfl rfl 1 (by decide) f16 (fun _ h9 => h9) rfl dX5_laid_65 ?_
        refine va_get (ci := 1) (v := .ref (b 2 2)) (C := RX3) (T := TX3) (N := 13) hx hb hts inX3 hown hK hP 13 rfl rfl 2 (by decide) f60 (fun _ h9 => h9) rfl dX5_laid_68 ?_
        refine lv_iload_n hx hb dX5_laid_71 rfl (lv_at hl 1 rfl) ?_
        refine lv_iload hx hb dX5_laid_72 (lv_at hl 5 rfl) ?_
        refine lv_iconst (v := 1) hx hb dX5_laid_74 (by decide) ?_
        refine lv_ishr hx hb dX5_laid_75 ?_
        refine va_iast hx hb hK hP (hD _ rfl) hS 15 0 rfl rfl h1n dX5_laid_76 (fun H locs hP _ hS => ?_)
        have hP : va_P D vwCl (kcw cI cL cS b s1 w1 m1 n1 (uFo (uKn s1 (upd (sKn s1) (ix x0) ((nI i) &&& 1))) (upd (sFo (uKn s1 (upd (sKn s1) (ix x0) ((nI i) &&& 1)))) (ix x0) ((nI i) >>> (1 &&& 31)))) w1 mx nx s3 w3 m3 n3 ik bt ln tk sb en nm bits size num fnd) H := hP
        have hP : va_P D vwCl (kcw cI cL cS b s1 w1 m1 n1 (tLaid s1 x0 i) w1 mx nx s3 w3 m3 n3 ik bt ln tk sb en nm bits size num fnd) H := by rw [way_a i (by omega), way_b i (by omega)] at hP; exact hP
        refine lv_aload_n hx hb dX5_laid_77 rfl (lv_at hl 0 rfl) ?_
        refine va_get (ci := 3) (v := .ref (b 2 0)) (C := RX5) (T := TX5) (N := 7) hx hb hts inX5 hown hK hP 0 rfl rfl 1 (by decide) f16 (fun _ h9 => h9) rfl dX5_laid_78 ?_
        refine lv_iload_n hx hb dX5_laid_81 rfl (lv_at hl 2 rfl) ?_
        refine callMv (va_runV (As := [.int x1]) (rest := []) ⟨hx, hb, hml, hown, hts⟩ (k_X3_serve l D cI cL cS (b 2) (sCo (tLaid s1 x0 i)) (sGu (tLaid s1 x0 i)) (sKn (tLaid s1 x0 i)) (sFo (tLaid s1 x0 i)) (sSp (tLaid s1 x0 i)) w1 (sKi (tLaid s1 x0 i)) (sPl (tLaid s1 x0 i)) (sEa (tLaid s1 x0 i)) (sTo (tLaid s1 x0 i)) (sQu (tLaid s1 x0 i)) mx nx x1 (va_DT (va_segD (hD _ rfl) 13 12 rfl) rfl) ((ok_laid o1 x0 (by omega)).1) ((ok_laid o1 x0 (by omega)).2) (wi_in hn (by decide) (by decide))) (cwV 1 hts gX5_laid_X3_serve rfl rfl rfl (by decide +kernel) ⟨Nat.le_of_ble_eq_true rfl, Nat.le_of_ble_eq_true rfl⟩) ⟨PcR_fb, va_recv hK hP (ci := 1) (q0 := 13) rfl rfl, PcR_pre (va_seg hP 13 12 rfl) hK⟩ rfl rfl hl.1 rfl (lv_room (Nat.le_of_ble_eq_true rfl)) dX5_laid_82 ⟨Nat.zero_le _, Nat.zero_le _⟩) hP (hD _ rfl) hS 13 12 rfl (fun u_6 H locs hu_6 hP hS => ?_)
        obtain ⟨mo_8, ne_9⟩ := u_6
        have hP : va_P D vwCl (kcw cI cL cS b s1 w1 m1 n1 (sPass (ix x1) (tLaid s1 x0 i)) w1 mo_8 ne_9 s3 w3 m3 n3 ik bt ln tk sb en nm bits size num fnd) H := hP
        refine lv_aload_n hx hb dX5_laid_85 rfl (lv_at hl 0 rfl) ?_
        refine va_get (ci := 3) (v := .ref (b 2 0)) (C := RX5) (T := TX5) (N := 7) hx hb hts inX5 hown hK hP 0 rfl rfl 1 (by decide) f16 (fun _ h9 => h9) rfl dX5_laid_86 ?_
        refine callE (W.runV (As := []) (rest := []) ⟨hx, hb, hml, hown, hts⟩ (k_X3_easeOfAll l D cI cL cS (b 2) (sCo (sPass (ix x1) (tLaid s1 x0 i))) (sGu (sPass (ix x1) (tLaid s1 x0 i))) (sKn (sPass (ix x1) (tLaid s1 x0 i))) (sFo (sPass (ix x1) (tLaid s1 x0 i))) (sSp (sPass (ix x1) (tLaid s1 x0 i))) w1 (sKi (sPass (ix x1) (tLaid s1 x0 i))) (sPl (sPass (ix x1) (tLaid s1 x0 i))) (sEa (sPass (ix x1) (tLaid s1 x0 i))) (sTo (sPass (ix x1) (tLaid s1 x0 i))) (sQu (sPass (ix x1) (tLaid s1 x0 i))) mo_8 ne_9 ((okS_pass (ok_laid o1 x0 (by omega)) (ix x1)).1.gu)) (cwV 0 hts gX5_laid_X3_easeOfAll rfl rfl rfl (by decide +kernel) ⟨Nat.le_of_ble_eq_true rfl, Nat.le_of_ble_eq_true rfl⟩) ⟨PcR_fb, va_recv hK hP (ci := 1) (q0 := 13) rfl rfl, PcR_pre (va_seg hP 13 12 rfl) hK⟩ rfl rfl hl.1 rfl (lv_room (Nat.le_of_ble_eq_true rfl)) dX5_laid_89 ⟨Nat.zero_le _, Nat.zero_le _⟩) ?_
        refine lv_to (y := fLaid s1 x0 x1 i) (by rw [(pass_st (tLaid s1 x0 i) (ix x1)).1]) ?_
        refine lv_istore (lv' := [(6, .int (fLaid s1 x0 x1 i)), (0, .ref (b 0 0)), (1, .int x0), (2, .int x1), (3, .int bb), (4, .int mm), (5, .int (nI i))]) hx hb dX5_laid_92 hl (by decide) rfl (fun ls hl => ?_)
        refine lv_iload hx hb dX5_laid_94 (lv_at hl 0 rfl) ?_
        refine lv_iload hx hb dX5_laid_96 (lv_at hl 5 rfl) ?_
        refine lv_icmp_le (tgt := 108) hx hb dX5_laid_98 (by decide) (fun c_10 => ?_) (fun c_10 => ?_)
        · skip
          refine lv_iinc (v := nI (i + 1)) (lv' := [(5, .int (nI (i + 1))), (6, .int (fLaid s1 x0 x1 i)), (0, .ref (b 0 0)), (1, .int x0), (2, .int x1), (3, .int bb), (4, .int mm)]) hx hb dX5_laid_108 hl (k := 6) rfl (nI_1 _) (by decide) rfl (fun ls hl => ?_)
          refine lv_goto (tgt := 34) hx hb dX5_laid_111 (by decide) ?_
          exact ih (n - 1) (by omega) ((i + 1, bb, mm, sPass (ix x1) (tLaid s1 x0 i), w1, mo_8, ne_9)) H locs ls ⟨by omega, argC_le hi1 (laid_lo o1 x0 x1 (by omega)) c_10, hP, hS, lv_sub hl [2, 3, 4, 5, 6, 0] rfl⟩
        · skip
          refine lv_iload hx hb dX5_laid_101 (lv_at hl 0 rfl) ?_
          refine lv_istore (lv' := [(4, .int (fLaid s1 x0 x1 i)), (6, .int (fLaid s1 x0 x1 i)), (0, .ref (b 0 0)), (1, .int x0), (2, .int x1), (3, .int bb), (5, .int (nI i))]) hx hb dX5_laid_103 hl (by decide) rfl (fun ls hl => ?_)
          refine lv_iload hx hb dX5_laid_105 (lv_at hl 6 rfl) ?_
          refine lv_istore_n (lv' := [(3, .int (nI i)), (4, .int (fLaid s1 x0 x1 i)), (6, .int (fLaid s1 x0 x1 i)), (0, .ref (b 0 0)), (1, .int x0), (2, .int x1), (5, .int (nI i))]) hx hb dX5_laid_107 rfl hl (by decide) rfl (fun ls hl => ?_)
          refine lv_iinc (v := nI (i + 1)) (lv' := [(5, .int (nI (i + 1))), (3, .int (nI i)), (4, .int (fLaid s1 x0 x1 i)), (6, .int (fLaid s1 x0 x1 i)), (0, .ref (b 0 0)), (1, .int x0), (2, .int x1)]) hx hb dX5_laid_108 hl (k := 6) rfl (nI_1 _) (by decide) rfl (fun ls hl => ?_)
          refine lv_goto (tgt := 34) hx hb dX5_laid_111 (by decide) ?_
          exact ih (n - 1) (by omega) ((i + 1, nI i, (fLaid s1 x0 x1 i), sPass (ix x1) (tLaid s1 x0 i), w1, mo_8, ne_9)) H locs ls ⟨by omega, argC_gt hi1 trivial (by omega) c_10, hP, hS, lv_sub hl [4, 5, 6, 1, 2, 0] rfl⟩
    · skip
      have c_4b := bI_0 c_4
      refine lv_aload_n hx hb dX5_laid_17 rfl (lv_at hl 0 rfl) ?_
      refine lv_ldc hx hb hown k52 dX5_laid_18 ?_
      refine callMi (va_runV (As := [.int (-1000000001)]) (rest := []) ⟨hx, hb, hml, hown, hts⟩ (k_X5_found l D cI cL cS b s1 w1 m1 n1 s2 w2 m2 n2 s3 w3 m3 n3 ik bt ln tk sb en nm bits size num fnd (-1000000001) (va_DT (hD _ rfl) rfl) (vp_in_iff.mpr (by decide))) (cwV 1 hts gX5_laid_X5_found rfl rfl rfl (by decide +kernel) ⟨Nat.le_of_ble_eq_true rfl, Nat.le_of_ble_eq_true rfl⟩) ⟨PcR_fb, va_recv hK hP (ci := 3) (q0 := 0) rfl rfl, PcR_pre hP hK⟩ rfl rfl hl.1 rfl (lv_room (Nat.le_of_ble_eq_true rfl)) dX5_laid_20 ⟨Nat.zero_le _, Nat.zero_le _⟩) hP (hD _ rfl) hS 0 49 rfl (fun r_12 u_11 H locs hu_11 hP hS => ?_)
      obtain ⟨hu_11r, -⟩ := hu_11
      subst hu_11r
      have hP : va_P D vwCl (kcw cI cL cS b s1 w1 m1 n1 s2 w2 m2 n2 s3 w3 m3 n3 ik bt ln tk sb en nm bits size num (bump fnd (-1000000001))) H := hP
      exact W.iret hx hb hr (fun t ht hW => ⟨⟨_, (s2, w2, m2, n2, bump fnd (-1000000001)), rfl, (by exact (iF_f (fun h => by first | exact absurd h.1 c_4b | exact absurd c_4b h.1 | exact absurd h.2 c_4b | exact absurd c_4b h.2)).symm), by dsimp only; rw [ht]; exact hP⟩, hS.F ht⟩) hS.2.2 dX5_laid_23

set_option maxRecDepth 100000 in
set_option maxHeartbeats 4000000 in
theorem k_X5_knife (l : Launch) (D : va_G) (cI cL cS : ClassId) (b : Nat → Nat → Nat) (s1 : Sg) (w1 m1 n1 : FI) (s2 : Sg) (w2 m2 n2 : FI) (s3 : Sg) (w3 m3 n3 : FI) (ik : Int32) (bt : FI) (ln tk sb en nm : Int32) (bits size : FI) (num : Nat → FJ) (fnd : FI) (x0 : Int32) (dj : va_D (fun _ => True) (djk b)) (o1 : okS s1 w1) : Met l yX5_knife wsX5_knife { frames := 5, cells := 0, slots := 0, locals := 111 } (PcR D vwCl (tyG cI cL cS) [.ref (b 0 0), .int x0] (kcw cI cL cS b s1 w1 m1 n1 s2 w2 m2 n2 s3 w3 m3 n3 ik bt ln tk sb en nm bits size num fnd)) (va_Qi (fun (r : Int32) (u : Sg × FI × FI × FI × FI) => (r, u.2.2.2.2) = sKnife s1 fnd x0) (fun u t => va_P D vwCl (kcw cI cL cS b s1 w1 m1 n1 u.1 u.2.1 u.2.2.1 u.2.2.2.1 s3 w3 m3 n3 ik bt ln tk sb en nm bits size num u.2.2.2.2) t.heap) (Aof (kcw cI cL cS b s1 w1 m1 n1 s2 w2 m2 n2 s3 w3 m3 n3 ik bt ln tk sb en nm bits size num fnd))) 0 0 (Aof (kcw cI cL cS b s1 w1 m1 n1 s2 w2 m2 n2 s3 w3 m3 n3 ik bt ln tk sb en nm bits size num fnd)) := by
  refine Met.ofW (cc := cX5_knife) (maxL := 6) (ret := (some .int)) (by decide) rfl ?_
  intro p e s m args below meth c s₁ B hml hv
  obtain ⟨rfl, hP, hK⟩ := hv
  have hx := B.exec
  have hb := B.bytes
  have hr := B.returns
  have hts := atoms_spec (ws := wsX5_knife) B.pre
  have hown : s.vm.findClass RX5 = some m.cls := findClass_of_methodNamed B.named
  have hlocks := B.notSynchronized
  obtain ⟨A, hAe⟩ : ∃ A, A = Aof (kcw cI cL cS b s1 w1 m1 n1 s2 w2 m2 n2 s3 w3 m3 n3 ik bt ln tk sb en nm bits size num fnd) := ⟨_, rfl⟩
  rw [← hAe]
  have hD : ∀ ws' : va_W, ws'.map Prod.fst = (kcw cI cL cS b s1 w1 m1 n1 s2 w2 m2 n2 s3 w3 m3 n3 ik bt ln tk sb en nm bits size num fnd).map Prod.fst → va_D A ws' := fun ws' e => by rw [hAe]; exact va_D_adr (va_D_self (va_D_adr dj rfl)) e
  have hS : va_S A s.heap s.heap [] := va_S.rf
  have hP : va_P D vwCl (kcw cI cL cS b s1 w1 m1 n1 s2 w2 m2 n2 s3 w3 m3 n3 ik bt ln tk sb en nm bits size num fnd) s.heap := hP
  have hl := lv_entry ([.ref (b 0 0), .int x0]) (n := 6) (Nat.le_of_ble_eq_true rfl)
  rw [lg_entry_eq]
  generalize (lg_sl ([.ref (b 0 0), .int x0]) ++ List.replicate (6 - (lg_sl ([.ref (b 0 0), .int x0])).length) Slot.unset).toArray = ls at hl ⊢
  have hl : lv_has ls 6 [(0, .ref (b 0 0)), (1, .int x0)] := hl
  have f16 := hts (.fieldLink RX5 16 "KnivesLaid" "trial" "LKnivesLaid$Table;") (List.mem_of_getElem? (i := 2) rfl)
  have inX5 : ∀ w ∈ u_ws RX5 TX5 7, w ∈ wsX5_knife := in_at 119 _ _ rfl
  have f10 := hts (.fieldLink RX5 10 "KnivesLaid" "table" "LKnivesLaid$Table;") (List.mem_of_getElem? (i := 3) rfl)
  have f57 := hts (.fieldLink RX5 57 "KnivesLaid$Table" "knives" "[I") (List.mem_of_getElem? (i := 4) rfl)
  have inX3 : ∀ w ∈ u_ws RX3 TX3 13, w ∈ wsX5_knife := in_at 126 _ _ rfl
  have k52 := hts (.constant RX5 52 (-1000000001)) (List.mem_of_getElem? (i := 1) rfl)
  skip
  refine lv_iload_n hx hb dX5_knife_0 rfl (lv_at hl 1 rfl) ?_
  refine lv_iconst (v := 1) hx hb dX5_knife_1 (by decide) ?_
  refine lv_bipush (v := 40) hx hb dX5_knife_2 (by decide) ?_
  refine callE (W.runS (As := [.int x0, .int 1, .int 40]) (rest := []) ⟨hx, hb, hml, hown, hts⟩ (k_X5_within l x0 1 40) (va_cwS 3 hts gX5_knife_X5_within rfl rfl rfl (by decide +kernel) ⟨Nat.le_of_ble_eq_true rfl, Nat.le_of_ble_eq_true rfl⟩) ⟨PcP_fb, fun U _ _ => ⟨rfl, trivial⟩⟩ rfl rfl hl.1 rfl (lv_room (Nat.le_of_ble_eq_true rfl)) dX5_knife_4 ⟨Nat.zero_le _, Nat.zero_le _⟩) ?_
  refine lv_if_ne (tgt := 17) hx hb dX5_knife_7 (by decide) (fun c_1 => ?_) (fun c_1 => ?_)
  · skip
    have c_1b := bI_n c_1
    have hn := c_1b
    have hcc : c40 x0 := hn
    refine lv_iconst (v := 0) hx hb dX5_knife_17 (by decide) ?_
    refine lv_istore_n (lv' := [(2, .int 0), (0, .ref (b 0 0)), (1, .int x0)]) hx hb dX5_knife_18 rfl hl (by decide) rfl (fun ls hl => ?_)
    refine lv_sipush (v := (-1000)) hx hb dX5_knife_19 (by decide) ?_
    refine lv_istore_n (lv' := [(3, .int (-1000)), (2, .int 0), (0, .ref (b 0 0)), (1, .int x0)]) hx hb dX5_knife_22 rfl hl (by decide) rfl (fun ls hl => ?_)
    refine lv_iconst (v := 0) hx hb dX5_knife_23 (by decide) ?_
    refine lv_istore (lv' := [(4, .int 0), (3, .int (-1000)), (2, .int 0), (0, .ref (b 0 0)), (1, .int x0)]) hx hb dX5_knife_24 hl (by decide) rfl (fun ls hl => ?_)
    refine lpW (fun n (u : Nat × Int32 × Int32 × Sg × FI × FI × FI) H locs ls => (u.1 + n = 10) ∧ ((u.2.1, u.2.2.1) = argC (fun _ => True) (fKnife s1 x0) 0 (-1000) u.1) ∧ va_P D vwCl (kcw cI cL cS b s1 w1 m1 n1 u.2.2.2.1 u.2.2.2.2.1 u.2.2.2.2.2.1 u.2.2.2.2.2.2 s3 w3 m3 n3 ik bt ln tk sb en nm bits size num fnd) H ∧ va_S A s.heap H locs ∧ lv_has ls 6 [(0, .ref (b 0 0)), (1, .int x0), (2, .int u.2.1), (3, .int u.2.2.1), (4, .int (nI u.1))]) (10) ((0, 0, (-1000), s2, w2, m2, n2)) ⟨by omega, argC_0 _ _ _ _, hP, hS, lv_sub hl [3, 4, 2, 1, 0] rfl⟩ (fun n ih u H locs ls hI => ?_)
    obtain ⟨i, bb, mm, sx, wx, mx, nx⟩ := u
    obtain ⟨hi0, hi1, hP, hS, hl⟩ := hI
    have hi0 : i + n = 10 := hi0
    have hi1 : (bb, mm) = argC (fun _ => True) (fKnife s1 x0) 0 (-1000) i := hi1
    have hl : lv_has ls 6 [(0, .ref (b 0 0)), (1, .int x0), (2, .int bb), (3, .int mm), (4, .int (nI i))] := hl
    have hP : va_P D vwCl (kcw cI cL cS b s1 w1 m1 n1 sx wx mx nx s3 w3 m3 n3 ik bt ln tk sb en nm bits size num fnd) H := hP
    have hix : ix (nI i) = i := ix_nI (by omega)
    refine lv_iload hx hb dX5_knife_26 (lv_at hl 4 rfl) ?_
    refine lv_bipush (v := 10) hx hb dX5_knife_28 (by decide) ?_
    refine lv_icmp_ge (tgt := 101) hx hb dX5_knife_30 (by decide) (fun c_2 => ?_) (fun c_2 => ?_)
    · skip
      have c_2n := (cmp_le (a := 10) (b := i) rfl rfl (by omega) (by omega)).mp c_2
      refine lv_iload_n hx hb dX5_knife_101 rfl (lv_at hl 2 rfl) ?_
      exact W.iret hx hb hr (fun t ht hW => ⟨⟨_, (sx, wx, mx, nx, fnd), rfl, (by unfold sKnife; rw [iF_t hcc]; rw [argC_end (show (bb, mm) = argC _ _ _ _ 10 by rw [hi1, show i = 10 by omega]) (j := 0) trivial (by decide) (by decide)]), by dsimp only; rw [ht]; exact hP⟩, hS.F ht⟩) hS.2.2 dX5_knife_102
    · skip
      have c_2n := mt (cmp_le (a := 10) (b := i) rfl rfl (by omega) (by omega)).mpr c_2
      refine lv_aload_n hx hb dX5_knife_33 rfl (lv_at hl 0 rfl) ?_
      refine va_get (ci := 3) (v := .ref (b 2 0)) (C := RX5) (T := TX5) (N := 7) hx hb hts inX5 hown hK hP 0 rfl rfl 1 (by decide) f16 (fun _ h9 => h9) rfl dX5_knife_34 ?_
      refine lv_aload_n hx hb dX5_knife_37 rfl (lv_at hl 0 rfl) ?_
      refine va_get (ci := 3) (v := .ref (b 1 0)) (C := RX5) (T := TX5) (N := 7) hx hb hts inX5 hown hK hP 0 rfl rfl 0 (by decide) f10 (fun _ h9 => h9) rfl dX5_knife_38 ?_
      refine callBec (wt := tbw cI (b 2) (sCo sx) (sGu sx) (sKn sx) (sFo sx) (sSp sx) wx (sKi sx) (sPl sx) (sEa sx) (sTo sx) (sQu sx) mx nx) (wo := tbw cI (b 1) (sCo s1) (sGu s1) (sKn s1) (sFo s1) (sSp s1) w1 (sKi s1) (sPl s1) (sEa s1) (sTo s1) (sQu s1) m1 n1) (w1 := tbw cI (b 2) (sCo s1) (sGu s1) (sKn s1) (sFo s1) (sSp s1) w1 (sKi s1) (sPl s1) (sEa s1) (sTo s1) (sQu s1) mx nx) (va_runV (As := [.ref (b 1 0)]) (rest := []) ⟨hx, hb, hml, hown, hts⟩ (k_X3_become l D cI cL cS (b 2) (sCo sx) (sGu sx) (sKn sx) (sFo sx) (sSp sx) wx (sKi sx) (sPl sx) (sEa sx) (sTo sx) (sQu sx) mx nx (b 1) (sCo s1) (sGu s1) (sKn s1) (sFo s1) (sSp s1) w1 (sKi s1) (sPl s1) (sEa s1) (sTo s1) (sQu s1) m1 n1 (va_DT (va_D.sub (ws' := tbw2 cI (b 2) (b 1) (sCo sx) (sGu sx) (sKn sx) (sFo sx) (sSp sx) wx (sKi sx) (sPl sx) (sEa sx) (sTo sx) (sQu sx) mx nx (sCo s1) (sGu s1) (sKn s1) (sFo s1) (sSp s1) w1 (sKi s1) (sPl s1) (sEa s1) (sTo s1) (sQu s1) m1 n1) (hD (kcw cI cL cS b s1 w1 m1 n1 sx wx mx nx s3 w3 m3 n3 ik bt ln tk sb en nm bits size num fnd) rfl) [13, 14, 15, 16, 17, 18, 19, 20, 21, 22, 23, 24, 1, 2, 3, 4, 5, 6, 7, 8, 9, 10, 11, 12] (by decide) rfl) rfl)) (cwV 1 hts gX5_knife_X3_become rfl rfl rfl (by decide +kernel) ⟨Nat.le_of_ble_eq_true rfl, Nat.le_of_ble_eq_true rfl⟩) ⟨PcR_fb, va_recv hK hP (ci := 1) (q0 := 13) rfl rfl, PcR_pre (va_P.sub hP [13, 14, 15, 16, 17, 18, 19, 20, 21, 22, 23, 24, 1, 2, 3, 4, 5, 6, 7, 8, 9, 10, 11, 12] rfl) hK⟩ rfl rfl hl.1 rfl (lv_room (Nat.le_of_ble_eq_true rfl)) dX5_knife_41 ⟨Nat.zero_le _, Nat.zero_le _⟩) hP (hD _ rfl) hS 13 12 1 12 rfl rfl rfl (fun H locs hP hS => ?_)
      have hP : va_P D vwCl (kcw cI cL cS b s1 w1 m1 n1 s1 w1 mx nx s3 w3 m3 n3 ik bt ln tk sb en nm bits size num fnd) H := hP
      refine lv_aload_n hx hb dX5_knife_44 rfl (lv_at hl 0 rfl) ?_
      refine va_get (ci := 3) (v := .ref (b 2 0)) (C := RX5) (T := TX5) (N := 7) hx hb hts inX5 hown hK hP 0 rfl rfl 1 (by decide) f16 (fun _ h9 => h9) rfl dX5_knife_45 ?_
      refine va_get (ci := 1) (v := .ref (b 2 1)) (C := RX3) (T := TX3) (N := 13) hx hb hts inX3 hown hK hP 13 rfl rfl 1 (by decide) f57 (fun _ h9 => h9) rfl dX5_knife_48 ?_
      refine lv_iload hx hb dX5_knife_51 (lv_at hl 4 rfl) ?_
      refine lv_iconst (v := 1) hx hb dX5_knife_53 (by decide) ?_
      refine lv_aload_n hx hb dX5_knife_54 rfl (lv_at hl 0 rfl) ?_
      refine va_get (ci := 3) (v := .ref (b 2 0)) (C := RX5) (T := TX5) (N := 7) hx hb hts inX5 hown hK hP 0 rfl rfl 1 (by decide) f16 (fun _ h9 => h9) rfl dX5_knife_55 ?_
      refine va_get (ci := 1) (v := .ref (b 2 1)) (C := RX3) (T := TX3) (N := 13) hx hb hts inX3 hown hK hP 13 rfl rfl 1 (by decide) f57 (fun _ h9 => h9) rfl dX5_knife_58 ?_
      refine lv_iload hx hb dX5_knife_61 (lv_at hl 4 rfl) ?_
      refine va_iald hx hb hK hP 14 0 rfl rfl (vp_in_nI (by omega) (by omega)) dX5_knife_63 ?_
      refine lv_isub hx hb dX5_knife_64 ?_
      refine va_iast hx hb hK hP (hD _ rfl) hS 14 0 rfl rfl (vp_in_nI (by omega) (by omega)) dX5_knife_65 (fun H locs hP _ hS => ?_)
      have hP : va_P D vwCl (kcw cI cL cS b s1 w1 m1 n1 (uKn s1 (upd (sKn s1) (ix (nI i)) (1 - ((sKn s1) (ix (nI i)))))) w1 mx nx s3 w3 m3 n3 ik bt ln tk sb en nm bits size num fnd) H := hP
      have hP : va_P D vwCl (kcw cI cL cS b s1 w1 m1 n1 (tKnife s1 i) w1 mx nx s3 w3 m3 n3 ik bt ln tk sb en nm bits size num fnd) H := by rw [hix] at hP; exact hP
      refine lv_aload_n hx hb dX5_knife_66 rfl (lv_at hl 0 rfl) ?_
      refine va_get (ci := 3) (v := .ref (b 2 0)) (C := RX5) (T := TX5) (N := 7) hx hb hts inX5 hown hK hP 0 rfl rfl 1 (by decide) f16 (fun _ h9 => h9) rfl dX5_knife_67 ?_
      refine lv_iload_n hx hb dX5_knife_70 rfl (lv_at hl 1 rfl) ?_
      refine callMv (va_runV (As := [.int x0]) (rest := []) ⟨hx, hb, hml, hown, hts⟩ (k_X3_serve l D cI cL cS (b 2) (sCo (tKnife s1 i)) (sGu (tKnife s1 i)) (sKn (tKnife s1 i)) (sFo (tKnife s1 i)) (sSp (tKnife s1 i)) w1 (sKi (tKnife s1 i)) (sPl (tKnife s1 i)) (sEa (tKnife s1 i)) (sTo (tKnife s1 i)) (sQu (tKnife s1 i)) mx nx x0 (va_DT (va_segD (hD _ rfl) 13 12 rfl) rfl) ((ok_knife o1 (by omega)).1) ((ok_knife o1 (by omega)).2) (wi_in hn (by decide) (by decide))) (cwV 1 hts gX5_knife_X3_serve rfl rfl rfl (by decide +kernel) ⟨Nat.le_of_ble_eq_true rfl, Nat.le_of_ble_eq_true rfl⟩) ⟨PcR_fb, va_recv hK hP (ci := 1) (q0 := 13) rfl rfl, PcR_pre (va_seg hP 13 12 rfl) hK⟩ rfl rfl hl.1 rfl (lv_room (Nat.le_of_ble_eq_true rfl)) dX5_knife_71 ⟨Nat.zero_le _, Nat.zero_le _⟩) hP (hD _ rfl) hS 13 12 rfl (fun u_3 H locs hu_3 hP hS => ?_)
      obtain ⟨mo_5, ne_6⟩ := u_3
      have hP : va_P D vwCl (kcw cI cL cS b s1 w1 m1 n1 (sPass (ix x0) (tKnife s1 i)) w1 mo_5 ne_6 s3 w3 m3 n3 ik bt ln tk sb en nm bits size num fnd) H := hP
      refine lv_aload_n hx hb dX5_knife_74 rfl (lv_at hl 0 rfl) ?_
      refine va_get (ci := 3) (v := .ref (b 2 0)) (C := RX5) (T := TX5) (N := 7) hx hb hts inX5 hown hK hP 0 rfl rfl 1 (by decide) f16 (fun _ h9 => h9) rfl dX5_knife_75 ?_
      refine callE (W.runV (As := []) (rest := []) ⟨hx, hb, hml, hown, hts⟩ (k_X3_easeOfAll l D cI cL cS (b 2) (sCo (sPass (ix x0) (tKnife s1 i))) (sGu (sPass (ix x0) (tKnife s1 i))) (sKn (sPass (ix x0) (tKnife s1 i))) (sFo (sPass (ix x0) (tKnife s1 i))) (sSp (sPass (ix x0) (tKnife s1 i))) w1 (sKi (sPass (ix x0) (tKnife s1 i))) (sPl (sPass (ix x0) (tKnife s1 i))) (sEa (sPass (ix x0) (tKnife s1 i))) (sTo (sPass (ix x0) (tKnife s1 i))) (sQu (sPass (ix x0) (tKnife s1 i))) mo_5 ne_6 ((okS_pass (ok_knife o1 (by omega)) (ix x0)).1.gu)) (cwV 0 hts gX5_knife_X3_easeOfAll rfl rfl rfl (by decide +kernel) ⟨Nat.le_of_ble_eq_true rfl, Nat.le_of_ble_eq_true rfl⟩) ⟨PcR_fb, va_recv hK hP (ci := 1) (q0 := 13) rfl rfl, PcR_pre (va_seg hP 13 12 rfl) hK⟩ rfl rfl hl.1 rfl (lv_room (Nat.le_of_ble_eq_true rfl)) dX5_knife_78 ⟨Nat.zero_le _, Nat.zero_le _⟩) ?_
      refine lv_to (y := fKnife s1 x0 i) (by rw [(pass_st (tKnife s1 i) (ix x0)).1]) ?_
      refine lv_istore (lv' := [(5, .int (fKnife s1 x0 i)), (0, .ref (b 0 0)), (1, .int x0), (2, .int bb), (3, .int mm), (4, .int (nI i))]) hx hb dX5_knife_81 hl (by decide) rfl (fun ls hl => ?_)
      refine lv_iload hx hb dX5_knife_83 (lv_at hl 0 rfl) ?_
      refine lv_iload_n hx hb dX5_knife_85 rfl (lv_at hl 4 rfl) ?_
      refine lv_icmp_le (tgt := 95) hx hb dX5_knife_86 (by decide) (fun c_7 => ?_) (fun c_7 => ?_)
      · skip
        refine lv_iinc (v := nI (i + 1)) (lv' := [(4, .int (nI (i + 1))), (5, .int (fKnife s1 x0 i)), (0, .ref (b 0 0)), (1, .int x0), (2, .int bb), (3, .int mm)]) hx hb dX5_knife_95 hl (k := 5) rfl (nI_1 _) (by decide) rfl (fun ls hl => ?_)
        refine lv_goto (tgt := 26) hx hb dX5_knife_98 (by decide) ?_
        exact ih (n - 1) (by omega) ((i + 1, bb, mm, sPass (ix x0) (tKnife s1 i), w1, mo_5, ne_6)) H locs ls ⟨by omega, argC_le hi1 (knife_lo o1 x0 (by omega)) c_7, hP, hS, lv_sub hl [2, 3, 4, 5, 0] rfl⟩
      · skip
        refine lv_iload hx hb dX5_knife_89 (lv_at hl 0 rfl) ?_
        refine lv_istore_n (lv' := [(3, .int (fKnife s1 x0 i)), (5, .int (fKnife s1 x0 i)), (0, .ref (b 0 0)), (1, .int x0), (2, .int bb), (4, .int (nI i))]) hx hb dX5_knife_91 rfl hl (by decide) rfl (fun ls hl => ?_)
        refine lv_iload hx hb dX5_knife_92 (lv_at hl 5 rfl) ?_
        refine lv_istore_n (lv' := [(2, .int (nI i)), (3, .int (fKnife s1 x0 i)), (5, .int (fKnife s1 x0 i)), (0, .ref (b 0 0)), (1, .int x0), (4, .int (nI i))]) hx hb dX5_knife_94 rfl hl (by decide) rfl (fun ls hl => ?_)
        refine lv_iinc (v := nI (i + 1)) (lv' := [(4, .int (nI (i + 1))), (2, .int (nI i)), (3, .int (fKnife s1 x0 i)), (5, .int (fKnife s1 x0 i)), (0, .ref (b 0 0)), (1, .int x0)]) hx hb dX5_knife_95 hl (k := 5) rfl (nI_1 _) (by decide) rfl (fun ls hl => ?_)
        refine lv_goto (tgt := 26) hx hb dX5_knife_98 (by decide) ?_
        exact ih (n - 1) (by omega) ((i + 1, nI i, (fKnife s1 x0 i), sPass (ix x0) (tKnife s1 i), w1, mo_5, ne_6)) H locs ls ⟨by omega, argC_gt hi1 trivial (by omega) c_7, hP, hS, lv_sub hl [4, 5, 1, 2, 0] rfl⟩
  · skip
    have c_1b := bI_0 c_1
    refine lv_aload_n hx hb dX5_knife_10 rfl (lv_at hl 0 rfl) ?_
    refine lv_ldc hx hb hown k52 dX5_knife_11 ?_
    refine callMi (va_runV (As := [.int (-1000000001)]) (rest := []) ⟨hx, hb, hml, hown, hts⟩ (k_X5_found l D cI cL cS b s1 w1 m1 n1 s2 w2 m2 n2 s3 w3 m3 n3 ik bt ln tk sb en nm bits size num fnd (-1000000001) (va_DT (hD _ rfl) rfl) (vp_in_iff.mpr (by decide))) (cwV 1 hts gX5_knife_X5_found rfl rfl rfl (by decide +kernel) ⟨Nat.le_of_ble_eq_true rfl, Nat.le_of_ble_eq_true rfl⟩) ⟨PcR_fb, va_recv hK hP (ci := 3) (q0 := 0) rfl rfl, PcR_pre hP hK⟩ rfl rfl hl.1 rfl (lv_room (Nat.le_of_ble_eq_true rfl)) dX5_knife_13 ⟨Nat.zero_le _, Nat.zero_le _⟩) hP (hD _ rfl) hS 0 49 rfl (fun r_9 u_8 H locs hu_8 hP hS => ?_)
    obtain ⟨hu_8r, -⟩ := hu_8
    subst hu_8r
    have hP : va_P D vwCl (kcw cI cL cS b s1 w1 m1 n1 s2 w2 m2 n2 s3 w3 m3 n3 ik bt ln tk sb en nm bits size num (bump fnd (-1000000001))) H := hP
    exact W.iret hx hb hr (fun t ht hW => ⟨⟨_, (s2, w2, m2, n2, bump fnd (-1000000001)), rfl, (by exact (iF_f c_1b).symm), by dsimp only; rw [ht]; exact hP⟩, hS.F ht⟩) hS.2.2 dX5_knife_16

set_option maxRecDepth 100000 in
set_option maxHeartbeats 4000000 in
theorem k_X5_kind (l : Launch) (D : va_G) (cI cL cS : ClassId) (b : Nat → Nat → Nat) (s1 : Sg) (w1 m1 n1 : FI) (s2 : Sg) (w2 m2 n2 : FI) (s3 : Sg) (w3 m3 n3 : FI) (ik : Int32) (bt : FI) (ln tk sb en nm : Int32) (bits size : FI) (num : Nat → FJ) (fnd : FI) (x0 : Int32) (x1 : Int32) (dj : va_D (fun _ => True) (djk b)) (o1 : okS s1 w1) : Met l yX5_kind wsX5_kind { frames := 5, cells := 0, slots := 0, locals := 111 } (PcR D vwCl (tyG cI cL cS) [.ref (b 0 0), .int x0, .int x1] (kcw cI cL cS b s1 w1 m1 n1 s2 w2 m2 n2 s3 w3 m3 n3 ik bt ln tk sb en nm bits size num fnd)) (va_Qi (fun (r : Int32) (u : Sg × FI × FI × FI × FI) => (r, u.2.2.2.2) = sKind s1 fnd x0 x1) (fun u t => va_P D vwCl (kcw cI cL cS b s1 w1 m1 n1 u.1 u.2.1 u.2.2.1 u.2.2.2.1 s3 w3 m3 n3 ik bt ln tk sb en nm bits size num u.2.2.2.2) t.heap) (Aof (kcw cI cL cS b s1 w1 m1 n1 s2 w2 m2 n2 s3 w3 m3 n3 ik bt ln tk sb en nm bits size num fnd))) 0 0 (Aof (kcw cI cL cS b s1 w1 m1 n1 s2 w2 m2 n2 s3 w3 m3 n3 ik bt ln tk sb en nm bits size num fnd)) := by
  refine Met.ofW (cc := cX5_kind) (maxL := 6) (ret := (some .int)) (by decide) rfl ?_
  intro p e s m args below meth c s₁ B hml hv
  obtain ⟨rfl, hP, hK⟩ := hv
  have hx := B.exec
  have hb := B.bytes
  have hr := B.returns
  have hts := atoms_spec (ws := wsX5_kind) B.pre
  have hown : s.vm.findClass RX5 = some m.cls := findClass_of_methodNamed B.named
  have hlocks := B.notSynchronized
  obtain ⟨A, hAe⟩ : ∃ A, A = Aof (kcw cI cL cS b s1 w1 m1 n1 s2 w2 m2 n2 s3 w3 m3 n3 ik bt ln tk sb en nm bits size num fnd) := ⟨_, rfl⟩
  rw [← hAe]
  have hD : ∀ ws' : va_W, ws'.map Prod.fst = (kcw cI cL cS b s1 w1 m1 n1 s2 w2 m2 n2 s3 w3 m3 n3 ik bt ln tk sb en nm bits size num fnd).map Prod.fst → va_D A ws' := fun ws' e => by rw [hAe]; exact va_D_adr (va_D_self (va_D_adr dj rfl)) e
  have hS : va_S A s.heap s.heap [] := va_S.rf
  have hP : va_P D vwCl (kcw cI cL cS b s1 w1 m1 n1 s2 w2 m2 n2 s3 w3 m3 n3 ik bt ln tk sb en nm bits size num fnd) s.heap := hP
  have hl := lv_entry ([.ref (b 0 0), .int x0, .int x1]) (n := 6) (Nat.le_of_ble_eq_true rfl)
  rw [lg_entry_eq]
  generalize (lg_sl ([.ref (b 0 0), .int x0, .int x1]) ++ List.replicate (6 - (lg_sl ([.ref (b 0 0), .int x0, .int x1])).length) Slot.unset).toArray = ls at hl ⊢
  have hl : lv_has ls 6 [(0, .ref (b 0 0)), (1, .int x0), (2, .int x1)] := hl
  have f10 := hts (.fieldLink RX5 10 "KnivesLaid" "table" "LKnivesLaid$Table;") (List.mem_of_getElem? (i := 1) rfl)
  have inX5 : ∀ w ∈ u_ws RX5 TX5 7, w ∈ wsX5_kind := in_at 117 _ _ rfl
  have k52 := hts (.constant RX5 52 (-1000000001)) (List.mem_of_getElem? (i := 2) rfl)
  have f16 := hts (.fieldLink RX5 16 "KnivesLaid" "trial" "LKnivesLaid$Table;") (List.mem_of_getElem? (i := 3) rfl)
  have f101 := hts (.fieldLink RX5 101 "KnivesLaid$Table" "kinds" "[I") (List.mem_of_getElem? (i := 4) rfl)
  have inX3 : ∀ w ∈ u_ws RX3 TX3 13, w ∈ wsX5_kind := in_at 124 _ _ rfl
  have f107 := hts (.fieldLink RX5 107 "KnivesLaid$Table" "ease" "[I") (List.mem_of_getElem? (i := 5) rfl)
  skip
  refine lv_aload_n hx hb dX5_kind_0 rfl (lv_at hl 0 rfl) ?_
  refine va_get (ci := 3) (v := .ref (b 1 0)) (C := RX5) (T := TX5) (N := 7) hx hb hts inX5 hown hK hP 0 rfl rfl 0 (by decide) f10 (fun _ h9 => h9) rfl dX5_kind_1 ?_
  refine lv_iload_n hx hb dX5_kind_4 rfl (lv_at hl 1 rfl) ?_
  refine callE (W.runV (As := [.int x0]) (rest := []) ⟨hx, hb, hml, hown, hts⟩ (k_X3_has l D cI cL cS (b 1) (sCo s1) (sGu s1) (sKn s1) (sFo s1) (sSp s1) w1 (sKi s1) (sPl s1) (sEa s1) (sTo s1) (sQu s1) m1 n1 x0 o1.1.gu) (cwV 1 hts gX5_kind_X3_has rfl rfl rfl (by decide +kernel) ⟨Nat.le_of_ble_eq_true rfl, Nat.le_of_ble_eq_true rfl⟩) ⟨PcR_fb, va_recv hK hP (ci := 1) (q0 := 1) rfl rfl, PcR_pre (va_seg hP 1 12 rfl) hK⟩ rfl rfl hl.1 rfl (lv_room (Nat.le_of_ble_eq_true rfl)) dX5_kind_5 ⟨Nat.zero_le _, Nat.zero_le _⟩) ?_
  refine lv_if_eq (tgt := 21) hx hb dX5_kind_8 (by decide) (fun c_1 => ?_) (fun c_1 => ?_)
  · skip
    have c_1b := bI_0 c_1
    refine lv_aload_n hx hb dX5_kind_21 rfl (lv_at hl 0 rfl) ?_
    refine lv_ldc hx hb hown k52 dX5_kind_22 ?_
    refine callMi (va_runV (As := [.int (-1000000001)]) (rest := []) ⟨hx, hb, hml, hown, hts⟩ (k_X5_found l D cI cL cS b s1 w1 m1 n1 s2 w2 m2 n2 s3 w3 m3 n3 ik bt ln tk sb en nm bits size num fnd (-1000000001) (va_DT (hD _ rfl) rfl) (vp_in_iff.mpr (by decide))) (cwV 1 hts gX5_kind_X5_found rfl rfl rfl (by decide +kernel) ⟨Nat.le_of_ble_eq_true rfl, Nat.le_of_ble_eq_true rfl⟩) ⟨PcR_fb, va_recv hK hP (ci := 3) (q0 := 0) rfl rfl, PcR_pre hP hK⟩ rfl rfl hl.1 rfl (lv_room (Nat.le_of_ble_eq_true rfl)) dX5_kind_24 ⟨Nat.zero_le _, Nat.zero_le _⟩) hP (hD _ rfl) hS 0 49 rfl (fun r_3 u_2 H locs hu_2 hP hS => ?_)
    obtain ⟨hu_2r, -⟩ := hu_2
    subst hu_2r
    have hP : va_P D vwCl (kcw cI cL cS b s1 w1 m1 n1 s2 w2 m2 n2 s3 w3 m3 n3 ik bt ln tk sb en nm bits size num (bump fnd (-1000000001))) H := hP
    exact W.iret hx hb hr (fun t ht hW => ⟨⟨_, (s2, w2, m2, n2, bump fnd (-1000000001)), rfl, (by exact (iF_f (fun h => by first | exact absurd h.1 c_1b | exact absurd c_1b h.1 | exact absurd h.2 c_1b | exact absurd c_1b h.2)).symm), by dsimp only; rw [ht]; exact hP⟩, hS.F ht⟩) hS.2.2 dX5_kind_27
  · skip
    have c_1b := bI_n c_1
    have h1n := c_1b
    have h8 : vp_in x0 8 := in_8 o1.1.gu h1n
    refine lv_iload_n hx hb dX5_kind_11 rfl (lv_at hl 2 rfl) ?_
    refine lv_iconst (v := 1) hx hb dX5_kind_12 (by decide) ?_
    refine lv_bipush (v := 40) hx hb dX5_kind_13 (by decide) ?_
    refine callE (W.runS (As := [.int x1, .int 1, .int 40]) (rest := []) ⟨hx, hb, hml, hown, hts⟩ (k_X5_within l x1 1 40) (va_cwS 3 hts gX5_kind_X5_within rfl rfl rfl (by decide +kernel) ⟨Nat.le_of_ble_eq_true rfl, Nat.le_of_ble_eq_true rfl⟩) ⟨PcP_fb, fun U _ _ => ⟨rfl, trivial⟩⟩ rfl rfl hl.1 rfl (lv_room (Nat.le_of_ble_eq_true rfl)) dX5_kind_15 ⟨Nat.zero_le _, Nat.zero_le _⟩) ?_
    refine lv_if_ne (tgt := 28) hx hb dX5_kind_18 (by decide) (fun c_4 => ?_) (fun c_4 => ?_)
    · skip
      have c_4b := bI_n c_4
      have hn := c_4b
      have hcc : sOne s1 x0 ∧ c40 x1 := ⟨h1n, hn⟩
      refine lv_iconst (v := 0) hx hb dX5_kind_28 (by decide) ?_
      refine lv_istore_n (lv' := [(3, .int 0), (0, .ref (b 0 0)), (1, .int x0), (2, .int x1)]) hx hb dX5_kind_29 rfl hl (by decide) rfl (fun ls hl => ?_)
      refine lv_bipush (v := (-100)) hx hb dX5_kind_30 (by decide) ?_
      refine lv_istore (lv' := [(4, .int (-100)), (3, .int 0), (0, .ref (b 0 0)), (1, .int x0), (2, .int x1)]) hx hb dX5_kind_32 hl (by decide) rfl (fun ls hl => ?_)
      refine lv_iconst (v := 0) hx hb dX5_kind_34 (by decide) ?_
      refine lv_istore (lv' := [(5, .int 0), (4, .int (-100)), (3, .int 0), (0, .ref (b 0 0)), (1, .int x0), (2, .int x1)]) hx hb dX5_kind_35 hl (by decide) rfl (fun ls hl => ?_)
      refine lpW (fun n (u : Nat × Int32 × Int32 × Sg × FI × FI × FI) H locs ls => (u.1 + n = 6) ∧ ((u.2.1, u.2.2.1) = argC (fun _ => True) (fKind s1 x0 x1) 0 (-100) u.1) ∧ va_P D vwCl (kcw cI cL cS b s1 w1 m1 n1 u.2.2.2.1 u.2.2.2.2.1 u.2.2.2.2.2.1 u.2.2.2.2.2.2 s3 w3 m3 n3 ik bt ln tk sb en nm bits size num fnd) H ∧ va_S A s.heap H locs ∧ lv_has ls 6 [(0, .ref (b 0 0)), (1, .int x0), (2, .int x1), (3, .int u.2.1), (4, .int u.2.2.1), (5, .int (nI u.1))]) (6) ((0, 0, (-100), s2, w2, m2, n2)) ⟨by omega, argC_0 _ _ _ _, hP, hS, lv_sub hl [3, 4, 5, 2, 1, 0] rfl⟩ (fun n ih u H locs ls hI => ?_)
      obtain ⟨i, bb, mm, sx, wx, mx, nx⟩ := u
      obtain ⟨hi0, hi1, hP, hS, hl⟩ := hI
      have hi0 : i + n = 6 := hi0
      have hi1 : (bb, mm) = argC (fun _ => True) (fKind s1 x0 x1) 0 (-100) i := hi1
      have hl : lv_has ls 6 [(0, .ref (b 0 0)), (1, .int x0), (2, .int x1), (3, .int bb), (4, .int mm), (5, .int (nI i))] := hl
      have hP : va_P D vwCl (kcw cI cL cS b s1 w1 m1 n1 sx wx mx nx s3 w3 m3 n3 ik bt ln tk sb en nm bits size num fnd) H := hP
      have hix : ix (nI i) = i := ix_nI (by omega)
      refine lv_iload hx hb dX5_kind_37 (lv_at hl 5 rfl) ?_
      refine lv_bipush (v := 6) hx hb dX5_kind_39 (by decide) ?_
      refine lv_icmp_ge (tgt := 108) hx hb dX5_kind_41 (by decide) (fun c_5 => ?_) (fun c_5 => ?_)
      · skip
        have c_5n := (cmp_le (a := 6) (b := i) rfl rfl (by omega) (by omega)).mp c_5
        refine lv_iload_n hx hb dX5_kind_108 rfl (lv_at hl 3 rfl) ?_
        exact W.iret hx hb hr (fun t ht hW => ⟨⟨_, (sx, wx, mx, nx, fnd), rfl, (by unfold sKind; rw [iF_t hcc]; rw [argC_end (show (bb, mm) = argC _ _ _ _ 6 by rw [hi1, show i = 6 by omega]) (j := 0) trivial (by decide) (by decide)]), by dsimp only; rw [ht]; exact hP⟩, hS.F ht⟩) hS.2.2 dX5_kind_109
      · skip
        have c_5n := mt (cmp_le (a := 6) (b := i) rfl rfl (by omega) (by omega)).mpr c_5
        refine lv_aload_n hx hb dX5_kind_44 rfl (lv_at hl 0 rfl) ?_
        refine va_get (ci := 3) (v := .ref (b 2 0)) (C := RX5) (T := TX5) (N := 7) hx hb hts inX5 hown hK hP 0 rfl rfl 1 (by decide) f16 (fun _ h9 => h9) rfl dX5_kind_45 ?_
        refine lv_aload_n hx hb dX5_kind_48 rfl (lv_at hl 0 rfl) ?_
        refine va_get (ci := 3) (v := .ref (b 1 0)) (C := RX5) (T := TX5) (N := 7) hx hb hts inX5 hown hK hP 0 rfl rfl 0 (by decide) f10 (fun _ h9 => h9) rfl dX5_kind_49 ?_
        refine callBec (wt := tbw cI (b 2) (sCo sx) (sGu sx) (sKn sx) (sFo sx) (sSp sx) wx (sKi sx) (sPl sx) (sEa sx) (sTo sx) (sQu sx) mx nx) (wo := tbw cI (b 1) (sCo s1) (sGu s1) (sKn s1) (sFo s1) (sSp s1) w1 (sKi s1) (sPl s1) (sEa s1) (sTo s1) (sQu s1) m1 n1) (w1 := tbw cI (b 2) (sCo s1) (sGu s1) (sKn s1) (sFo s1) (sSp s1) w1 (sKi s1) (sPl s1) (sEa s1) (sTo s1) (sQu s1) mx nx) (va_runV (As := [.ref (b 1 0)]) (rest := []) ⟨hx, hb, hml, hown, hts⟩ (k_X3_become l D cI cL cS (b 2) (sCo sx) (sGu sx) (sKn sx) (sFo sx) (sSp sx) wx (sKi sx) (sPl sx) (sEa sx) (sTo sx) (sQu sx) mx nx (b 1) (sCo s1) (sGu s1) (sKn s1) (sFo s1) (sSp s1) w1 (sKi s1) (sPl s1) (sEa s1) (sTo s1) (sQu s1) m1 n1 (va_DT (va_D.sub (ws' := tbw2 cI (b 2) (b 1) (sCo sx) (sGu sx) (sKn sx) (sFo sx) (sSp sx) wx (sKi sx) (sPl sx) (sEa sx) (sTo sx) (sQu sx) mx nx (sCo s1) (sGu s1) (sKn s1) (sFo s1) (sSp s1) w1 (sKi s1) (sPl s1) (sEa s1) (sTo s1) (sQu s1) m1 n1) (hD (kcw cI cL cS b s1 w1 m1 n1 sx wx mx nx s3 w3 m3 n3 ik bt ln tk sb en nm bits size num fnd) rfl) [13, 14, 15, 16, 17, 18, 19, 20, 21, 22, 23, 24, 1, 2, 3, 4, 5, 6, 7, 8, 9, 10, 11, 12] (by decide) rfl) rfl)) (cwV 1 hts gX5_kind_X3_become rfl rfl rfl (by decide +kernel) ⟨Nat.le_of_ble_eq_true rfl, Nat.le_of_ble_eq_true rfl⟩) ⟨PcR_fb, va_recv hK hP (ci := 1) (q0 := 13) rfl rfl, PcR_pre (va_P.sub hP [13, 14, 15, 16, 17, 18, 19, 20, 21, 22, 23, 24, 1, 2, 3, 4, 5, 6, 7, 8, 9, 10, 11, 12] rfl) hK⟩ rfl rfl hl.1 rfl (lv_room (Nat.le_of_ble_eq_true rfl)) dX5_kind_52 ⟨Nat.zero_le _, Nat.zero_le _⟩) hP (hD _ rfl) hS 13 12 1 12 rfl rfl rfl (fun H locs hP hS => ?_)
        have hP : va_P D vwCl (kcw cI cL cS b s1 w1 m1 n1 s1 w1 mx nx s3 w3 m3 n3 ik bt ln tk sb en nm bits size num fnd) H := hP
        refine lv_aload_n hx hb dX5_kind_55 rfl (lv_at hl 0 rfl) ?_
        refine va_get (ci := 3) (v := .ref (b 2 0)) (C := RX5) (T := TX5) (N := 7) hx hb hts inX5 hown hK hP 0 rfl rfl 1 (by decide) f16 (fun _ h9 => h9) rfl dX5_kind_56 ?_
        refine va_get (ci := 1) (v := .ref (b 2 5)) (C := RX3) (T := TX3) (N := 13) hx hb hts inX3 hown hK hP 13 rfl rfl 6 (by decide) f101 (fun _ h9 => h9) rfl dX5_kind_59 ?_
        refine lv_iload_n hx hb dX5_kind_62 rfl (lv_at hl 1 rfl) ?_
        refine lv_iload hx hb dX5_kind_63 (lv_at hl 5 rfl) ?_
        refine va_iast hx hb hK hP (hD _ rfl) hS 18 0 rfl rfl (by assumption) dX5_kind_65 (fun H locs hP _ hS => ?_)
        have hP : va_P D vwCl (kcw cI cL cS b s1 w1 m1 n1 (uKi s1 (upd (sKi s1) (ix x0) (nI i))) w1 mx nx s3 w3 m3 n3 ik bt ln tk sb en nm bits size num fnd) H := hP
        refine lv_aload_n hx hb dX5_kind_66 rfl (lv_at hl 0 rfl) ?_
        refine va_get (ci := 3) (v := .ref (b 2 0)) (C := RX5) (T := TX5) (N := 7) hx hb hts inX5 hown hK hP 0 rfl rfl 1 (by decide) f16 (fun _ h9 => h9) rfl dX5_kind_67 ?_
        refine lv_iload_n hx hb dX5_kind_70 rfl (lv_at hl 2 rfl) ?_
        refine callMv (va_runV (As := [.int x1]) (rest := []) ⟨hx, hb, hml, hown, hts⟩ (k_X3_serve l D cI cL cS (b 2) (sCo (uKi s1 (upd (sKi s1) (ix x0) (nI i)))) (sGu (uKi s1 (upd (sKi s1) (ix x0) (nI i)))) (sKn (uKi s1 (upd (sKi s1) (ix x0) (nI i)))) (sFo (uKi s1 (upd (sKi s1) (ix x0) (nI i)))) (sSp (uKi s1 (upd (sKi s1) (ix x0) (nI i)))) w1 (sKi (uKi s1 (upd (sKi s1) (ix x0) (nI i)))) (sPl (uKi s1 (upd (sKi s1) (ix x0) (nI i)))) (sEa (uKi s1 (upd (sKi s1) (ix x0) (nI i)))) (sTo (uKi s1 (upd (sKi s1) (ix x0) (nI i)))) (sQu (uKi s1 (upd (sKi s1) (ix x0) (nI i)))) mx nx x1 (va_DT (va_segD (hD _ rfl) 13 12 rfl) rfl) ((ok_kind o1 x0 (i := i) (by omega)).1) ((ok_kind o1 x0 (i := i) (by omega)).2) (wi_in hn (by decide) (by decide))) (cwV 1 hts gX5_kind_X3_serve rfl rfl rfl (by decide +kernel) ⟨Nat.le_of_ble_eq_true rfl, Nat.le_of_ble_eq_true rfl⟩) ⟨PcR_fb, va_recv hK hP (ci := 1) (q0 := 13) rfl rfl, PcR_pre (va_seg hP 13 12 rfl) hK⟩ rfl rfl hl.1 rfl (lv_room (Nat.le_of_ble_eq_true rfl)) dX5_kind_71 ⟨Nat.zero_le _, Nat.zero_le _⟩) hP (hD _ rfl) hS 13 12 rfl (fun u_6 H locs hu_6 hP hS => ?_)
        obtain ⟨mo_8, ne_9⟩ := u_6
        have hP : va_P D vwCl (kcw cI cL cS b s1 w1 m1 n1 (sPass (ix x1) (uKi s1 (upd (sKi s1) (ix x0) (nI i)))) w1 mo_8 ne_9 s3 w3 m3 n3 ik bt ln tk sb en nm bits size num fnd) H := hP
        refine lv_aload_n hx hb dX5_kind_74 rfl (lv_at hl 0 rfl) ?_
        refine va_get (ci := 3) (v := .ref (b 2 0)) (C := RX5) (T := TX5) (N := 7) hx hb hts inX5 hown hK hP 0 rfl rfl 1 (by decide) f16 (fun _ h9 => h9) rfl dX5_kind_75 ?_
        refine va_get (ci := 1) (v := .ref (b 2 7)) (C := RX3) (T := TX3) (N := 13) hx hb hts inX3 hown hK hP 13 rfl rfl 8 (by decide) f107 (fun _ h9 => h9) rfl dX5_kind_78 ?_
        refine lv_iload_n hx hb dX5_kind_81 rfl (lv_at hl 1 rfl) ?_
        refine va_iald hx hb hK hP 20 0 rfl rfl (by assumption) dX5_kind_82 ?_
        refine lv_iload hx hb dX5_kind_83 (lv_at hl 4 rfl) ?_
        refine lv_icmp_le (tgt := 102) hx hb dX5_kind_85 (by decide) (fun c_10 => ?_) (fun c_10 => ?_)
        · skip
          refine lv_iinc (v := nI (i + 1)) (lv' := [(5, .int (nI (i + 1))), (0, .ref (b 0 0)), (1, .int x0), (2, .int x1), (3, .int bb), (4, .int mm)]) hx hb dX5_kind_102 hl (k := 5) rfl (nI_1 _) (by decide) rfl (fun ls hl => ?_)
          refine lv_goto (tgt := 37) hx hb dX5_kind_105 (by decide) ?_
          exact ih (n - 1) (by omega) ((i + 1, bb, mm, sPass (ix x1) (uKi s1 (upd (sKi s1) (ix x0) (nI i))), w1, mo_8, ne_9)) H locs ls ⟨by omega, argC_le hi1 (ease_lo (okS_pass (ok_kind o1 x0 (i := i) (by omega)) (ix x1)) h8) c_10, hP, hS, lv_sub hl [1, 2, 3, 4, 5, 0] rfl⟩
        · skip
          refine lv_aload_n hx hb dX5_kind_88 rfl (lv_at hl 0 rfl) ?_
          refine va_get (ci := 3) (v := .ref (b 2 0)) (C := RX5) (T := TX5) (N := 7) hx hb hts inX5 hown hK hP 0 rfl rfl 1 (by decide) f16 (fun _ h9 => h9) rfl dX5_kind_89 ?_
          refine va_get (ci := 1) (v := .ref (b 2 7)) (C := RX3) (T := TX3) (N := 13) hx hb hts inX3 hown hK hP 13 rfl rfl 8 (by decide) f107 (fun _ h9 => h9) rfl dX5_kind_92 ?_
          refine lv_iload_n hx hb dX5_kind_95 rfl (lv_at hl 1 rfl) ?_
          refine va_iald hx hb hK hP 20 0 rfl rfl (by assumption) dX5_kind_96 ?_
          refine lv_istore (lv' := [(4, .int ((sEa (sPass (ix x1) (uKi s1 (upd (sKi s1) (ix x0) (nI i))))) (ix x0))), (0, .ref (b 0 0)), (1, .int x0), (2, .int x1), (3, .int bb), (5, .int (nI i))]) hx hb dX5_kind_97 hl (by decide) rfl (fun ls hl => ?_)
          refine lv_iload hx hb dX5_kind_99 (lv_at hl 5 rfl) ?_
          refine lv_istore_n (lv' := [(3, .int (nI i)), (4, .int ((sEa (sPass (ix x1) (uKi s1 (upd (sKi s1) (ix x0) (nI i))))) (ix x0))), (0, .ref (b 0 0)), (1, .int x0), (2, .int x1), (5, .int (nI i))]) hx hb dX5_kind_101 rfl hl (by decide) rfl (fun ls hl => ?_)
          refine lv_iinc (v := nI (i + 1)) (lv' := [(5, .int (nI (i + 1))), (3, .int (nI i)), (4, .int ((sEa (sPass (ix x1) (uKi s1 (upd (sKi s1) (ix x0) (nI i))))) (ix x0))), (0, .ref (b 0 0)), (1, .int x0), (2, .int x1)]) hx hb dX5_kind_102 hl (k := 5) rfl (nI_1 _) (by decide) rfl (fun ls hl => ?_)
          refine lv_goto (tgt := 37) hx hb dX5_kind_105 (by decide) ?_
          exact ih (n - 1) (by omega) ((i + 1, nI i, ((sEa (sPass (ix x1) (uKi s1 (upd (sKi s1) (ix x0) (nI i))))) (ix x0)), sPass (ix x1) (uKi s1 (upd (sKi s1) (ix x0) (nI i))), w1, mo_8, ne_9)) H locs ls ⟨by omega, argC_gt hi1 trivial (by omega) c_10, hP, hS, lv_sub hl [3, 4, 5, 1, 2, 0] rfl⟩
    · skip
      have c_4b := bI_0 c_4
      refine lv_aload_n hx hb dX5_kind_21 rfl (lv_at hl 0 rfl) ?_
      refine lv_ldc hx hb hown k52 dX5_kind_22 ?_
      refine callMi (va_runV (As := [.int (-1000000001)]) (rest := []) ⟨hx, hb, hml, hown, hts⟩ (k_X5_found l D cI cL cS b s1 w1 m1 n1 s2 w2 m2 n2 s3 w3 m3 n3 ik bt ln tk sb en nm bits size num fnd (-1000000001) (va_DT (hD _ rfl) rfl) (vp_in_iff.mpr (by decide))) (cwV 1 hts gX5_kind_X5_found rfl rfl rfl (by decide +kernel) ⟨Nat.le_of_ble_eq_true rfl, Nat.le_of_ble_eq_true rfl⟩) ⟨PcR_fb, va_recv hK hP (ci := 3) (q0 := 0) rfl rfl, PcR_pre hP hK⟩ rfl rfl hl.1 rfl (lv_room (Nat.le_of_ble_eq_true rfl)) dX5_kind_24 ⟨Nat.zero_le _, Nat.zero_le _⟩) hP (hD _ rfl) hS 0 49 rfl (fun r_12 u_11 H locs hu_11 hP hS => ?_)
      obtain ⟨hu_11r, -⟩ := hu_11
      subst hu_11r
      have hP : va_P D vwCl (kcw cI cL cS b s1 w1 m1 n1 s2 w2 m2 n2 s3 w3 m3 n3 ik bt ln tk sb en nm bits size num (bump fnd (-1000000001))) H := hP
      exact W.iret hx hb hr (fun t ht hW => ⟨⟨_, (s2, w2, m2, n2, bump fnd (-1000000001)), rfl, (by exact (iF_f (fun h => by first | exact absurd h.1 c_4b | exact absurd c_4b h.1 | exact absurd h.2 c_4b | exact absurd c_4b h.2)).symm), by dsimp only; rw [ht]; exact hP⟩, hS.F ht⟩) hS.2.2 dX5_kind_27
