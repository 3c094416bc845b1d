set_option maxRecDepth 100000 in
set_option maxHeartbeats 4000000 in
theorem k_X5_peace (l : Launch) (D : va_G) (cI cL cS : ClassId) (b : Nat → Nat → Nat) (s1 : Sg) (w1 m1 n1 : FI) (s2 : Sg) (w2 m2 n2 : FI) (s3 : Sg) (w3 m3 n3 : FI) (ik : Int32) (bt : FI) (ln tk sb en nm : Int32) (bits size : FI) (num : Nat → FJ) (fnd : FI) (dj : va_D (fun _ => True) (djk b)) (o1 : okS s1 w1) : Met l yX5_peace wsX5_peace { frames := 4, cells := 0, slots := 0, locals := 89 } (PcR D vwCl (tyG cI cL cS) [.ref (b 0 0)] (kcw cI cL cS b s1 w1 m1 n1 s2 w2 m2 n2 s3 w3 m3 n3 ik bt ln tk sb en nm bits size num fnd)) (va_Qi (fun (r : Int32) (u : Sg × FI × FI × FI × FI) => (r, u.2.2.2.2) = sPeace s1 fnd) (fun u t => va_P D vwCl (kcw cI cL cS b s1 w1 m1 n1 u.1 u.2.1 u.2.2.1 u.2.2.2.1 s3 w3 m3 n3 ik bt ln tk sb en nm bits size num u.2.2.2.2) t.heap) (Aof (kcw cI cL cS b s1 w1 m1 n1 s2 w2 m2 n2 s3 w3 m3 n3 ik bt ln tk sb en nm bits size num fnd))) 0 0 (Aof (kcw cI cL cS b s1 w1 m1 n1 s2 w2 m2 n2 s3 w3 m3 n3 ik bt ln tk sb en nm bits size num fnd)) := by
  refine Met.ofW (cc := cX5_peace) (maxL := 2) (ret := (some .int)) (by decide) rfl ?_
  intro p e s m args below meth c s₁ B hml hv
  obtain ⟨rfl, hP, hK⟩ := hv
  have hx := B.exec
  have hb := B.bytes
  have hr := B.returns
  have hts := atoms_spec (ws := wsX5_peace) B.pre
  have hown : s.vm.findClass RX5 = some m.cls := findClass_of_methodNamed B.named
  have hlocks := B.notSynchronized
  obtain ⟨A, hAe⟩ : ∃ A, A = Aof (kcw cI cL cS b s1 w1 m1 n1 s2 w2 m2 n2 s3 w3 m3 n3 ik bt ln tk sb en nm bits size num fnd) := ⟨_, rfl⟩
  rw [← hAe]
  have hD : ∀ ws' : va_W, ws'.map Prod.fst = (kcw cI cL cS b s1 w1 m1 n1 s2 w2 m2 n2 s3 w3 m3 n3 ik bt ln tk sb en nm bits size num fnd).map Prod.fst → va_D A ws' := fun ws' e => by rw [hAe]; exact va_D_adr (va_D_self (va_D_adr dj rfl)) e
  have hS : va_S A s.heap s.heap [] := va_S.rf
  have hP : va_P D vwCl (kcw cI cL cS b s1 w1 m1 n1 s2 w2 m2 n2 s3 w3 m3 n3 ik bt ln tk sb en nm bits size num fnd) s.heap := hP
  have hl := lv_entry ([.ref (b 0 0)]) (n := 2) (Nat.le_of_ble_eq_true rfl)
  rw [lg_entry_eq]
  generalize (lg_sl ([.ref (b 0 0)]) ++ List.replicate (2 - (lg_sl ([.ref (b 0 0)])).length) Slot.unset).toArray = ls at hl ⊢
  have hl : lv_has ls 2 [(0, .ref (b 0 0))] := hl
  have f16 := hts (.fieldLink RX5 16 "KnivesLaid" "trial" "LKnivesLaid$Table;") (List.mem_of_getElem? (i := 1) rfl)
  have inX5 : ∀ w ∈ u_ws RX5 TX5 7, w ∈ wsX5_peace := in_at 106 _ _ rfl
  have f10 := hts (.fieldLink RX5 10 "KnivesLaid" "table" "LKnivesLaid$Table;") (List.mem_of_getElem? (i := 2) rfl)
  have k160 := hts (.constant RX5 160 (-1000000004)) (List.mem_of_getElem? (i := 3) rfl)
  skip
  refine lv_aload_n hx hb dX5_peace_0 rfl (lv_at hl 0 rfl) ?_
  refine va_get (ci := 3) (v := .ref (b 2 0)) (C := RX5) (T := TX5) (N := 7) hx hb hts inX5 hown hK hP 0 rfl rfl 1 (by decide) f16 (fun _ h9 => h9) rfl dX5_peace_1 ?_
  refine lv_aload_n hx hb dX5_peace_4 rfl (lv_at hl 0 rfl) ?_
  refine va_get (ci := 3) (v := .ref (b 1 0)) (C := RX5) (T := TX5) (N := 7) hx hb hts inX5 hown hK hP 0 rfl rfl 0 (by decide) f10 (fun _ h9 => h9) rfl dX5_peace_5 ?_
  refine callBec (wt := tbw cI (b 2) (sCo s2) (sGu s2) (sKn s2) (sFo s2) (sSp s2) w2 (sKi s2) (sPl s2) (sEa s2) (sTo s2) (sQu s2) m2 n2) (wo := tbw cI (b 1) (sCo s1) (sGu s1) (sKn s1) (sFo s1) (sSp s1) w1 (sKi s1) (sPl s1) (sEa s1) (sTo s1) (sQu s1) m1 n1) (w1 := tbw cI (b 2) (sCo s1) (sGu s1) (sKn s1) (sFo s1) (sSp s1) w1 (sKi s1) (sPl s1) (sEa s1) (sTo s1) (sQu s1) m2 n2) (va_runV (As := [.ref (b 1 0)]) (rest := []) ⟨hx, hb, hml, hown, hts⟩ (k_X3_become l D cI cL cS (b 2) (sCo s2) (sGu s2) (sKn s2) (sFo s2) (sSp s2) w2 (sKi s2) (sPl s2) (sEa s2) (sTo s2) (sQu s2) m2 n2 (b 1) (sCo s1) (sGu s1) (sKn s1) (sFo s1) (sSp s1) w1 (sKi s1) (sPl s1) (sEa s1) (sTo s1) (sQu s1) m1 n1 (va_DT (va_D.sub (ws' := tbw2 cI (b 2) (b 1) (sCo s2) (sGu s2) (sKn s2) (sFo s2) (sSp s2) w2 (sKi s2) (sPl s2) (sEa s2) (sTo s2) (sQu s2) m2 n2 (sCo s1) (sGu s1) (sKn s1) (sFo s1) (sSp s1) w1 (sKi s1) (sPl s1) (sEa s1) (sTo s1) (sQu s1) m1 n1) (hD (kcw cI cL cS b s1 w1 m1 n1 s2 w2 m2 n2 s3 w3 m3 n3 ik bt ln tk sb en nm bits size num fnd) rfl) [13, 14, 15, 16, 17, 18, 19, 20, 21, 22, 23, 24, 1, 2, 3, 4, 5, 6, 7, 8, 9, 10, 11, 12] (by decide) rfl) rfl)) (cwV 1 hts gX5_peace_X3_become rfl rfl rfl (by decide +kernel) ⟨Nat.le_of_ble_eq_true rfl, Nat.le_of_ble_eq_true rfl⟩) ⟨PcR_fb, va_recv hK hP (ci := 1) (q0 := 13) rfl rfl, PcR_pre (va_P.sub hP [13, 14, 15, 16, 17, 18, 19, 20, 21, 22, 23, 24, 1, 2, 3, 4, 5, 6, 7, 8, 9, 10, 11, 12] rfl) hK⟩ rfl rfl hl.1 rfl (lv_room (Nat.le_of_ble_eq_true rfl)) dX5_peace_8 ⟨Nat.zero_le _, Nat.zero_le _⟩) hP (hD _ rfl) hS 13 12 1 12 rfl rfl rfl (fun H locs hP hS => ?_)
  have hP : va_P D vwCl (kcw cI cL cS b s1 w1 m1 n1 s1 w1 m2 n2 s3 w3 m3 n3 ik bt ln tk sb en nm bits size num fnd) H := hP
  refine lv_aload_n hx hb dX5_peace_11 rfl (lv_at hl 0 rfl) ?_
  refine va_get (ci := 3) (v := .ref (b 2 0)) (C := RX5) (T := TX5) (N := 7) hx hb hts inX5 hown hK hP 0 rfl rfl 1 (by decide) f16 (fun _ h9 => h9) rfl dX5_peace_12 ?_
  refine callMv (va_runV (As := []) (rest := []) ⟨hx, hb, hml, hown, hts⟩ (k_X3_findMore l D cI cL cS (b 2) (sCo s1) (sGu s1) (sKn s1) (sFo s1) (sSp s1) w1 (sKi s1) (sPl s1) (sEa s1) (sTo s1) (sQu s1) m2 n2 (va_DT (va_segD (hD _ rfl) 13 12 rfl) rfl) o1.1) (cwV 0 hts gX5_peace_X3_findMore rfl rfl rfl (by decide +kernel) ⟨Nat.le_of_ble_eq_true rfl, Nat.le_of_ble_eq_true rfl⟩) ⟨PcR_fb, va_recv hK hP (ci := 1) (q0 := 13) rfl rfl, PcR_pre (va_seg hP 13 12 rfl) hK⟩ rfl rfl hl.1 rfl (lv_room (Nat.le_of_ble_eq_true rfl)) dX5_peace_15 ⟨Nat.zero_le _, Nat.zero_le _⟩) hP (hD _ rfl) hS 13 12 rfl (fun u_1 H locs hu_1 hP hS => ?_)
  obtain ⟨mo_3, ne_4⟩ := u_1
  have hu_1 : (∀ g, g < ix (sGu s1) → mo_3 g = sMore (sGu s1) (sKn s1) (sFo s1) (sSp s1) (sKi s1) (sPl s1) g) ∧ (∀ g, g < ix (sGu s1) → ne_4 g = sNear (sGu s1) (sPl s1) g) := hu_1
  have hMN := hu_1
  have hP : va_P D vwCl (kcw cI cL cS b s1 w1 m1 n1 s1 w1 mo_3 ne_4 s3 w3 m3 n3 ik bt ln tk sb en nm bits size num fnd) H := hP
  have hP : va_P D vwCl (kcw cI cL cS b s1 w1 m1 n1 (sPass 0 s1) w1 mo_3 ne_4 s3 w3 m3 n3 ik bt ln tk sb en nm bits size num fnd) H := by exact hP
  refine lv_iconst (v := 0) hx hb dX5_peace_18 (by decide) ?_
  refine lv_istore_n (lv' := [(1, .int 0), (0, .ref (b 0 0))]) hx hb dX5_peace_19 rfl hl (by decide) rfl (fun ls hl => ?_)
  refine lpW (fun n (u : Nat) H locs ls => (u + n = 101) ∧ (sSeek (pPeace s1) 0 101 = sSeek (pPeace s1) u n) ∧ va_P D vwCl (kcw cI cL cS b s1 w1 m1 n1 (sPass u s1) w1 mo_3 ne_4 s3 w3 m3 n3 ik bt ln tk sb en nm bits size num fnd) H ∧ va_S A s.heap H locs ∧ lv_has ls 2 [(0, .ref (b 0 0)), (1, .int (nI u))]) (101) (0) ⟨rfl, rfl, hP, hS, lv_sub hl [1, 0] rfl⟩ (fun n ih u H locs ls hI => ?_)
  obtain ⟨i, rfl⟩ : ∃ z, z = u := ⟨_, rfl⟩
  obtain ⟨hi0, hi1, hP, hS, hl⟩ := hI
  have hi0 : i + n = 101 := hi0
  have hi1 : sSeek (pPeace s1) 0 101 = sSeek (pPeace s1) i n := hi1
  have hl : lv_has ls 2 [(0, .ref (b 0 0)), (1, .int (nI i))] := hl
  have hP : va_P D vwCl (kcw cI cL cS b s1 w1 m1 n1 (sPass i s1) w1 mo_3 ne_4 s3 w3 m3 n3 ik bt ln tk sb en nm bits size num fnd) H := hP
  refine lv_iload_n hx hb dX5_peace_20 rfl (lv_at hl 1 rfl) ?_
  refine lv_bipush (v := 100) hx hb dX5_peace_21 (by decide) ?_
  refine lv_icmp_gt (tgt := 51) hx hb dX5_peace_23 (by decide) (fun c_5 => ?_) (fun c_5 => ?_)
  · skip
    have c_5n := (cmp_lt (a := 100) (b := i) rfl rfl (by omega) (by omega)).mp c_5
    refine lv_aload_n hx hb dX5_peace_51 rfl (lv_at hl 0 rfl) ?_
    refine lv_ldc hx hb hown k160 dX5_peace_52 ?_
    refine callMi (va_runV (As := [.int (-1000000004)]) (rest := []) ⟨hx, hb, hml, hown, hts⟩ (k_X5_found l D cI cL cS b s1 w1 m1 n1 (sPass i s1) w1 mo_3 ne_4 s3 w3 m3 n3 ik bt ln tk sb en nm bits size num fnd (-1000000004) (va_DT (hD _ rfl) rfl) (vp_in_iff.mpr (by decide))) (cwV 1 hts gX5_peace_X5_found rfl rfl rfl (by decide +kernel) ⟨Nat.le_of_ble_eq_true rfl, Nat.le_of_ble_eq_true rfl⟩) ⟨PcR_fb, va_recv hK hP (ci := 3) (q0 := 0) rfl rfl, PcR_pre hP hK⟩ rfl rfl hl.1 rfl (lv_room (Nat.le_of_ble_eq_true rfl)) dX5_peace_54 ⟨Nat.zero_le _, Nat.zero_le _⟩) hP (hD _ rfl) hS 0 49 rfl (fun r_7 u_6 H locs hu_6 hP hS => ?_)
    obtain ⟨hu_6r, -⟩ := hu_6
    subst hu_6r
    have hP : va_P D vwCl (kcw cI cL cS b s1 w1 m1 n1 (sPass i s1) w1 mo_3 ne_4 s3 w3 m3 n3 ik bt ln tk sb en nm bits size num (bump fnd (-1000000004))) H := hP
    exact W.iret hx hb hr (fun t ht hW => ⟨⟨_, (sPass i s1, w1, mo_3, ne_4, bump fnd (-1000000004)), rfl, (by unfold sPeace; rw [hi1, show n = 0 by omega]; exact end_no _), by dsimp only; rw [ht]; exact hP⟩, hS.F ht⟩) hS.2.2 dX5_peace_57
  · skip
    have c_5n := mt (cmp_lt (a := 100) (b := i) rfl rfl (by omega) (by omega)).mpr c_5
    refine lv_aload_n hx hb dX5_peace_26 rfl (lv_at hl 0 rfl) ?_
    refine va_get (ci := 3) (v := .ref (b 2 0)) (C := RX5) (T := TX5) (N := 7) hx hb hts inX5 hown hK hP 0 rfl rfl 1 (by decide) f16 (fun _ h9 => h9) rfl dX5_peace_27 ?_
    refine callE (W.runV (As := []) (rest := []) ⟨hx, hb, hml, hown, hts⟩ (k_X3_soreSet l D cI cL cS (b 2) (sCo (sPass i s1)) (sGu (sPass i s1)) (sKn (sPass i s1)) (sFo (sPass i s1)) (sSp (sPass i s1)) w1 (sKi (sPass i s1)) (sPl (sPass i s1)) (sEa (sPass i s1)) (sTo (sPass i s1)) (sQu (sPass i s1)) mo_3 ne_4 ((okS_pass o1 i).1.gu)) (cwV 0 hts gX5_peace_X3_soreSet rfl rfl rfl (by decide +kernel) ⟨Nat.le_of_ble_eq_true rfl, Nat.le_of_ble_eq_true rfl⟩) ⟨PcR_fb, va_recv hK hP (ci := 1) (q0 := 13) rfl rfl, PcR_pre (va_seg hP 13 12 rfl) hK⟩ rfl rfl hl.1 rfl (lv_room (Nat.le_of_ble_eq_true rfl)) dX5_peace_30 ⟨Nat.zero_le _, Nat.zero_le _⟩) ?_
    refine lv_if_ne (tgt := 38) hx hb dX5_peace_33 (by decide) (fun c_8 => ?_) (fun c_8 => ?_)
    · skip
      refine lv_aload_n hx hb dX5_peace_38 rfl (lv_at hl 0 rfl) ?_
      refine va_get (ci := 3) (v := .ref (b 2 0)) (C := RX5) (T := TX5) (N := 7) hx hb hts inX5 hown hK hP 0 rfl rfl 1 (by decide) f16 (fun _ h9 => h9) rfl dX5_peace_39 ?_
      refine callMv (va_runV (As := []) (rest := []) ⟨hx, hb, hml, hown, hts⟩ (k_X3_serveOne l D cI cL cS (b 2) (sCo (sPass i s1)) (sGu (sPass i s1)) (sKn (sPass i s1)) (sFo (sPass i s1)) (sSp (sPass i s1)) w1 (sKi (sPass i s1)) (sPl (sPass i s1)) (sEa (sPass i s1)) (sTo (sPass i s1)) (sQu (sPass i s1)) mo_3 ne_4 (va_DT (va_segD (hD _ rfl) 13 12 rfl) rfl) ((okS_pass o1 i).1) ((okS_pass o1 i).2) (pass_more (σ := s1) hMN.1 i) (pass_near (σ := s1) hMN.2 i)) (cwV 0 hts gX5_peace_X3_serveOne rfl rfl rfl (by decide +kernel) ⟨Nat.le_of_ble_eq_true rfl, Nat.le_of_ble_eq_true rfl⟩) ⟨PcR_fb, va_recv hK hP (ci := 1) (q0 := 13) rfl rfl, PcR_pre (va_seg hP 13 12 rfl) hK⟩ rfl rfl hl.1 rfl (lv_room (Nat.le_of_ble_eq_true rfl)) dX5_peace_42 ⟨Nat.zero_le _, Nat.zero_le _⟩) hP (hD _ rfl) hS 13 12 rfl (fun u_9 H locs hu_9 hP hS => ?_)
      have hP : va_P D vwCl (kcw cI cL cS b s1 w1 m1 n1 (uQu (uTo (uEa (uCo (sPass i s1) ((sCo (sPass i s1)) + 1)) (cEa (sGu (sPass i s1)) (sKn (sPass i s1)) (sFo (sPass i s1)) (sSp (sPass i s1)) (sKi (sPass i s1)) (sPl (sPass i s1)) (sEa (sPass i s1)))) (cTo (sGu (sPass i s1)) (sSp (sPass i s1)) (sKi (sPass i s1)) (sPl (sPass i s1)) (sEa (sPass i s1)) (sTo (sPass i s1)))) (cQu (sGu (sPass i s1)) (sKi (sPass i s1)) (sPl (sPass i s1)) (cEa (sGu (sPass i s1)) (sKn (sPass i s1)) (sFo (sPass i s1)) (sSp (sPass i s1)) (sKi (sPass i s1)) (sPl (sPass i s1)) (sEa (sPass i s1))) (sQu (sPass i s1)))) w1 mo_3 ne_4 s3 w3 m3 n3 ik bt ln tk sb en nm bits size num fnd) H := hP
      refine lv_iinc (v := nI (i + 1)) (lv' := [(1, .int (nI (i + 1))), (0, .ref (b 0 0))]) hx hb dX5_peace_45 hl (k := 1) rfl (nI_1 _) (by decide) rfl (fun ls hl => ?_)
      refine lv_goto (tgt := 20) hx hb dX5_peace_48 (by decide) ?_
      have hP : va_P D vwCl (kcw cI cL cS b s1 w1 m1 n1 (sPass (i + 1) s1) w1 mo_3 ne_4 s3 w3 m3 n3 ik bt ln tk sb en nm bits size num fnd) H := by exact hP
      exact ih (n - 1) (by omega) (i + 1) H locs ls ⟨by omega, by rw [hi1]; exact seek_f (by omega) c_8, hP, hS, lv_sub hl [1, 0] rfl⟩
    · skip
      refine lv_iload_n hx hb dX5_peace_36 rfl (lv_at hl 1 rfl) ?_
      exact W.iret hx hb hr (fun t ht hW => ⟨⟨_, (sPass i s1, w1, mo_3, ne_4, fnd), rfl, (by unfold sPeace; rw [hi1, seek_t (by omega) c_8]; exact end_ok (by omega) _), by dsimp only; rw [ht]; exact hP⟩, hS.F ht⟩) hS.2.2 dX5_peace_37

set_option maxRecDepth 100000 in
set_option maxHeartbeats 4000000 in
theorem k_X5_tells (l : Launch) (D : va_G) (cI cL cS : ClassId) (b : Nat → Nat → Nat) (s1 : Sg) (w1 m1 n1 : FI) (s2 : Sg) (w2 m2 n2 : FI) (s3 : Sg) (w3 m3 n3 : FI) (ik : Int32) (bt : FI) (ln tk sb en nm : Int32) (bits size : FI) (num : Nat → FJ) (fnd : FI) (x0 : Int32) (dj : va_D (fun _ => True) (djk b)) (o1 : okS s1 w1) : Met l yX5_tells wsX5_tells { frames := 4, cells := 0, slots := 0, locals := 89 } (PcR D vwCl (tyG cI cL cS) [.ref (b 0 0), .int x0] (kcw cI cL cS b s1 w1 m1 n1 s2 w2 m2 n2 s3 w3 m3 n3 ik bt ln tk sb en nm bits size num fnd)) (va_Qi (fun (r : Int32) (u : Sg × FI × FI × FI × FI) => (r, u.2.2.2.2) = sTellsA s1 fnd x0) (fun u t => va_P D vwCl (kcw cI cL cS b s1 w1 m1 n1 u.1 u.2.1 u.2.2.1 u.2.2.2.1 s3 w3 m3 n3 ik bt ln tk sb en nm bits size num u.2.2.2.2) t.heap) (Aof (kcw cI cL cS b s1 w1 m1 n1 s2 w2 m2 n2 s3 w3 m3 n3 ik bt ln tk sb en nm bits size num fnd))) 0 0 (Aof (kcw cI cL cS b s1 w1 m1 n1 s2 w2 m2 n2 s3 w3 m3 n3 ik bt ln tk sb en nm bits size num fnd)) := by
  refine Met.ofW (cc := cX5_tells) (maxL := 3) (ret := (some .int)) (by decide) rfl ?_
  intro p e s m args below meth c s₁ B hml hv
  obtain ⟨rfl, hP, hK⟩ := hv
  have hx := B.exec
  have hb := B.bytes
  have hr := B.returns
  have hts := atoms_spec (ws := wsX5_tells) B.pre
  have hown : s.vm.findClass RX5 = some m.cls := findClass_of_methodNamed B.named
  have hlocks := B.notSynchronized
  obtain ⟨A, hAe⟩ : ∃ A, A = Aof (kcw cI cL cS b s1 w1 m1 n1 s2 w2 m2 n2 s3 w3 m3 n3 ik bt ln tk sb en nm bits size num fnd) := ⟨_, rfl⟩
  rw [← hAe]
  have hD : ∀ ws' : va_W, ws'.map Prod.fst = (kcw cI cL cS b s1 w1 m1 n1 s2 w2 m2 n2 s3 w3 m3 n3 ik bt ln tk sb en nm bits size num fnd).map Prod.fst → va_D A ws' := fun ws' e => by rw [hAe]; exact va_D_adr (va_D_self (va_D_adr dj rfl)) e
  have hS : va_S A s.heap s.heap [] := va_S.rf
  have hP : va_P D vwCl (kcw cI cL cS b s1 w1 m1 n1 s2 w2 m2 n2 s3 w3 m3 n3 ik bt ln tk sb en nm bits size num fnd) s.heap := hP
  have hl := lv_entry ([.ref (b 0 0), .int x0]) (n := 3) (Nat.le_of_ble_eq_true rfl)
  rw [lg_entry_eq]
  generalize (lg_sl ([.ref (b 0 0), .int x0]) ++ List.replicate (3 - (lg_sl ([.ref (b 0 0), .int x0])).length) Slot.unset).toArray = ls at hl ⊢
  have hl : lv_has ls 3 [(0, .ref (b 0 0)), (1, .int x0)] := hl
  have f10 := hts (.fieldLink RX5 10 "KnivesLaid" "table" "LKnivesLaid$Table;") (List.mem_of_getElem? (i := 1) rfl)
  have inX5 : ∀ w ∈ u_ws RX5 TX5 7, w ∈ wsX5_tells := in_at 110 _ _ rfl
  have f16 := hts (.fieldLink RX5 16 "KnivesLaid" "trial" "LKnivesLaid$Table;") (List.mem_of_getElem? (i := 3) rfl)
  have k160 := hts (.constant RX5 160 (-1000000004)) (List.mem_of_getElem? (i := 4) rfl)
  have k52 := hts (.constant RX5 52 (-1000000001)) (List.mem_of_getElem? (i := 2) rfl)
  skip
  refine lv_aload_n hx hb dX5_tells_0 rfl (lv_at hl 0 rfl) ?_
  refine va_get (ci := 3) (v := .ref (b 1 0)) (C := RX5) (T := TX5) (N := 7) hx hb hts inX5 hown hK hP 0 rfl rfl 0 (by decide) f10 (fun _ h9 => h9) rfl dX5_tells_1 ?_
  refine lv_iload_n hx hb dX5_tells_4 rfl (lv_at hl 1 rfl) ?_
  refine callE (W.runV (As := [.int x0]) (rest := []) ⟨hx, hb, hml, hown, hts⟩ (k_X3_has l D cI cL cS (b 1) (sCo s1) (sGu s1) (sKn s1) (sFo s1) (sSp s1) w1 (sKi s1) (sPl s1) (sEa s1) (sTo s1) (sQu s1) m1 n1 x0 o1.1.gu) (cwV 1 hts gX5_tells_X3_has rfl rfl rfl (by decide +kernel) ⟨Nat.le_of_ble_eq_true rfl, Nat.le_of_ble_eq_true rfl⟩) ⟨PcR_fb, va_recv hK hP (ci := 1) (q0 := 1) rfl rfl, PcR_pre (va_seg hP 1 12 rfl) hK⟩ rfl rfl hl.1 rfl (lv_room (Nat.le_of_ble_eq_true rfl)) dX5_tells_5 ⟨Nat.zero_le _, Nat.zero_le _⟩) ?_
  refine lv_if_ne (tgt := 18) hx hb dX5_tells_8 (by decide) (fun c_1 => ?_) (fun c_1 => ?_)
  · skip
    have c_1b := bI_n c_1
    have h8 : vp_in x0 8 := in_8 o1.1.gu c_1b
    refine lv_aload_n hx hb dX5_tells_18 rfl (lv_at hl 0 rfl) ?_
    refine va_get (ci := 3) (v := .ref (b 2 0)) (C := RX5) (T := TX5) (N := 7) hx hb hts inX5 hown hK hP 0 rfl rfl 1 (by decide) f16 (fun _ h9 => h9) rfl dX5_tells_19 ?_
    refine lv_aload_n hx hb dX5_tells_22 rfl (lv_at hl 0 rfl) ?_
    refine va_get (ci := 3) (v := .ref (b 1 0)) (C := RX5) (T := TX5) (N := 7) hx hb hts inX5 hown hK hP 0 rfl rfl 0 (by decide) f10 (fun _ h9 => h9) rfl dX5_tells_23 ?_
    refine callBec (wt := tbw cI (b 2) (sCo s2) (sGu s2) (sKn s2) (sFo s2) (sSp s2) w2 (sKi s2) (sPl s2) (sEa s2) (sTo s2) (sQu s2) m2 n2) (wo := tbw cI (b 1) (sCo s1) (sGu s1) (sKn s1) (sFo s1) (sSp s1) w1 (sKi s1) (sPl s1) (sEa s1) (sTo s1) (sQu s1) m1 n1) (w1 := tbw cI (b 2) (sCo s1) (sGu s1) (sKn s1) (sFo s1) (sSp s1) w1 (sKi s1) (sPl s1) (sEa s1) (sTo s1) (sQu s1) m2 n2) (va_runV (As := [.ref (b 1 0)]) (rest := []) ⟨hx, hb, hml, hown, hts⟩ (k_X3_become l D cI cL cS (b 2) (sCo s2) (sGu s2) (sKn s2) (sFo s2) (sSp s2) w2 (sKi s2) (sPl s2) (sEa s2) (sTo s2) (sQu s2) m2 n2 (b 1) (sCo s1) (sGu s1) (sKn s1) (sFo s1) (sSp s1) w1 (sKi s1) (sPl s1) (sEa s1) (sTo s1) (sQu s1) m1 n1 (va_DT (va_D.sub (ws' := tbw2 cI (b 2) (b 1) (sCo s2) (sGu s2) (sKn s2) (sFo s2) (sSp s2) w2 (sKi s2) (sPl s2) (sEa s2) (sTo s2) (sQu s2) m2 n2 (sCo s1) (sGu s1) (sKn s1) (sFo s1) (sSp s1) w1 (sKi s1) (sPl s1) (sEa s1) (sTo s1) (sQu s1) m1 n1) (hD (kcw cI cL cS b s1 w1 m1 n1 s2 w2 m2 n2 s3 w3 m3 n3 ik bt ln tk sb en nm bits size num fnd) rfl) [13, 14, 15, 16, 17, 18, 19, 20, 21, 22, 23, 24, 1, 2, 3, 4, 5, 6, 7, 8, 9, 10, 11, 12] (by decide) rfl) rfl)) (cwV 1 hts gX5_tells_X3_become rfl rfl rfl (by decide +kernel) ⟨Nat.le_of_ble_eq_true rfl, Nat.le_of_ble_eq_true rfl⟩) ⟨PcR_fb, va_recv hK hP (ci := 1) (q0 := 13) rfl rfl, PcR_pre (va_P.sub hP [13, 14, 15, 16, 17, 18, 19, 20, 21, 22, 23, 24, 1, 2, 3, 4, 5, 6, 7, 8, 9, 10, 11, 12] rfl) hK⟩ rfl rfl hl.1 rfl (lv_room (Nat.le_of_ble_eq_true rfl)) dX5_tells_26 ⟨Nat.zero_le _, Nat.zero_le _⟩) hP (hD _ rfl) hS 13 12 1 12 rfl rfl rfl (fun H locs hP hS => ?_)
    have hP : va_P D vwCl (kcw cI cL cS b s1 w1 m1 n1 s1 w1 m2 n2 s3 w3 m3 n3 ik bt ln tk sb en nm bits size num fnd) H := hP
    refine lv_aload_n hx hb dX5_tells_29 rfl (lv_at hl 0 rfl) ?_
    refine va_get (ci := 3) (v := .ref (b 2 0)) (C := RX5) (T := TX5) (N := 7) hx hb hts inX5 hown hK hP 0 rfl rfl 1 (by decide) f16 (fun _ h9 => h9) rfl dX5_tells_30 ?_
    refine callMv (va_runV (As := []) (rest := []) ⟨hx, hb, hml, hown, hts⟩ (k_X3_findMore l D cI cL cS (b 2) (sCo s1) (sGu s1) (sKn s1) (sFo s1) (sSp s1) w1 (sKi s1) (sPl s1) (sEa s1) (sTo s1) (sQu s1) m2 n2 (va_DT (va_segD (hD _ rfl) 13 12 rfl) rfl) o1.1) (cwV 0 hts gX5_tells_X3_findMore rfl rfl rfl (by decide +kernel) ⟨Nat.le_of_ble_eq_true rfl, Nat.le_of_ble_eq_true rfl⟩) ⟨PcR_fb, va_recv hK hP (ci := 1) (q0 := 13) rfl rfl, PcR_pre (va_seg hP 13 12 rfl) hK⟩ rfl rfl hl.1 rfl (lv_room (Nat.le_of_ble_eq_true rfl)) dX5_tells_33 ⟨Nat.zero_le _, Nat.zero_le _⟩) hP (hD _ rfl) hS 13 12 rfl (fun u_2 H locs hu_2 hP hS => ?_)
    obtain ⟨mo_4, ne_5⟩ := u_2
    have hu_2 : (∀ g, g < ix (sGu s1) → mo_4 g = sMore (sGu s1) (sKn s1) (sFo s1) (sSp s1) (sKi s1) (sPl s1) g) ∧ (∀ g, g < ix (sGu s1) → ne_5 g = sNear (sGu s1) (sPl s1) g) := hu_2
    have hMN := hu_2
    have hP : va_P D vwCl (kcw cI cL cS b s1 w1 m1 n1 s1 w1 mo_4 ne_5 s3 w3 m3 n3 ik bt ln tk sb en nm bits size num fnd) H := hP
    have hP : va_P D vwCl (kcw cI cL cS b s1 w1 m1 n1 (sPass 0 s1) w1 mo_4 ne_5 s3 w3 m3 n3 ik bt ln tk sb en nm bits size num fnd) H := by exact hP
    refine lv_iconst (v := 1) hx hb dX5_tells_36 (by decide) ?_
    refine lv_istore_n (lv' := [(2, .int 1), (0, .ref (b 0 0)), (1, .int x0)]) hx hb dX5_tells_37 rfl hl (by decide) rfl (fun ls hl => ?_)
    refine lpW (fun n (u : Nat) H locs ls => (u + n = 100) ∧ (sSeek (pTells s1 x0) 1 100 = sSeek (pTells s1 x0) (u + 1) n) ∧ va_P D vwCl (kcw cI cL cS b s1 w1 m1 n1 (sPass u s1) w1 mo_4 ne_5 s3 w3 m3 n3 ik bt ln tk sb en nm bits size num fnd) H ∧ va_S A s.heap H locs ∧ lv_has ls 3 [(0, .ref (b 0 0)), (1, .int x0), (2, .int (nI (u + 1)))]) (100) (0) ⟨rfl, rfl, hP, hS, lv_sub hl [1, 2, 0] rfl⟩ (fun n ih u H locs ls hI => ?_)
    obtain ⟨j, rfl⟩ : ∃ z, z = u := ⟨_, rfl⟩
    obtain ⟨hi0, hi1, hP, hS, hl⟩ := hI
    have hi0 : j + n = 100 := hi0
    have hi1 : sSeek (pTells s1 x0) 1 100 = sSeek (pTells s1 x0) (j + 1) n := hi1
    have hl : lv_has ls 3 [(0, .ref (b 0 0)), (1, .int x0), (2, .int (nI (j + 1)))] := hl
    have hP : va_P D vwCl (kcw cI cL cS b s1 w1 m1 n1 (sPass j s1) w1 mo_4 ne_5 s3 w3 m3 n3 ik bt ln tk sb en nm bits size num fnd) H := hP
    refine lv_iload_n hx hb dX5_tells_38 rfl (lv_at hl 2 rfl) ?_
    refine lv_bipush (v := 100) hx hb dX5_tells_39 (by decide) ?_
    refine lv_icmp_gt (tgt := 70) hx hb dX5_tells_41 (by decide) (fun c_6 => ?_) (fun c_6 => ?_)
    · skip
      have c_6n := (cmp_lt (a := 100) (b := (j + 1)) rfl rfl (by omega) (by omega)).mp c_6
      refine lv_aload_n hx hb dX5_tells_70 rfl (lv_at hl 0 rfl) ?_
      refine lv_ldc hx hb hown k160 dX5_tells_71 ?_
      refine callMi (va_runV (As := [.int (-1000000004)]) (rest := []) ⟨hx, hb, hml, hown, hts⟩ (k_X5_found l D cI cL cS b s1 w1 m1 n1 (sPass j s1) w1 mo_4 ne_5 s3 w3 m3 n3 ik bt ln tk sb en nm bits size num fnd (-1000000004) (va_DT (hD _ rfl) rfl) (vp_in_iff.mpr (by decide))) (cwV 1 hts gX5_tells_X5_found rfl rfl rfl (by decide +kernel) ⟨Nat.le_of_ble_eq_true rfl, Nat.le_of_ble_eq_true rfl⟩) ⟨PcR_fb, va_recv hK hP (ci := 3) (q0 := 0) rfl rfl, PcR_pre hP hK⟩ rfl rfl hl.1 rfl (lv_room (Nat.le_of_ble_eq_true rfl)) dX5_tells_73 ⟨Nat.zero_le _, Nat.zero_le _⟩) hP (hD _ rfl) hS 0 49 rfl (fun r_8 u_7 H locs hu_7 hP hS => ?_)
      obtain ⟨hu_7r, -⟩ := hu_7
      subst hu_7r
      have hP : va_P D vwCl (kcw cI cL cS b s1 w1 m1 n1 (sPass j s1) w1 mo_4 ne_5 s3 w3 m3 n3 ik bt ln tk sb en nm bits size num (bump fnd (-1000000004))) H := hP
      exact W.iret hx hb hr (fun t ht hW => ⟨⟨_, (sPass j s1, w1, mo_4, ne_5, bump fnd (-1000000004)), rfl, (by unfold sTellsA; rw [iF_t c_1b, hi1, show n = 0 by omega]; exact end_no _), by dsimp only; rw [ht]; exact hP⟩, hS.F ht⟩) hS.2.2 dX5_tells_76
    · skip
      have c_6n := mt (cmp_lt (a := 100) (b := (j + 1)) rfl rfl (by omega) (by omega)).mpr c_6
      refine lv_aload_n hx hb dX5_tells_44 rfl (lv_at hl 0 rfl) ?_
      refine va_get (ci := 3) (v := .ref (b 2 0)) (C := RX5) (T := TX5) (N := 7) hx hb hts inX5 hown hK hP 0 rfl rfl 1 (by decide) f16 (fun _ h9 => h9) rfl dX5_tells_45 ?_
      refine lv_iload_n hx hb dX5_tells_48 rfl (lv_at hl 1 rfl) ?_
      refine callE (W.runV (As := [.int x0]) (rest := []) ⟨hx, hb, hml, hown, hts⟩ (k_X3_isTelling l D cI cL cS (b 2) (sCo (sPass j s1)) (sGu (sPass j s1)) (sKn (sPass j s1)) (sFo (sPass j s1)) (sSp (sPass j s1)) w1 (sKi (sPass j s1)) (sPl (sPass j s1)) (sEa (sPass j s1)) (sTo (sPass j s1)) (sQu (sPass j s1)) mo_4 ne_5 x0 ((okS_pass o1 j).1) h8) (cwV 1 hts gX5_tells_X3_isTelling rfl rfl rfl (by decide +kernel) ⟨Nat.le_of_ble_eq_true rfl, Nat.le_of_ble_eq_true rfl⟩) ⟨PcR_fb, va_recv hK hP (ci := 1) (q0 := 13) rfl rfl, PcR_pre (va_seg hP 13 12 rfl) hK⟩ rfl rfl hl.1 rfl (lv_room (Nat.le_of_ble_eq_true rfl)) dX5_tells_49 ⟨Nat.zero_le _, Nat.zero_le _⟩) ?_
      refine lv_if_eq (tgt := 57) hx hb dX5_tells_52 (by decide) (fun c_9 => ?_) (fun c_9 => ?_)
      · skip
        have c_9b := bI_0 c_9
        refine lv_aload_n hx hb dX5_tells_57 rfl (lv_at hl 0 rfl) ?_
        refine va_get (ci := 3) (v := .ref (b 2 0)) (C := RX5) (T := TX5) (N := 7) hx hb hts inX5 hown hK hP 0 rfl rfl 1 (by decide) f16 (fun _ h9 => h9) rfl dX5_tells_58 ?_
        refine callMv (va_runV (As := []) (rest := []) ⟨hx, hb, hml, hown, hts⟩ (k_X3_serveOne l D cI cL cS (b 2) (sCo (sPass j s1)) (sGu (sPass j s1)) (sKn (sPass j s1)) (sFo (sPass j s1)) (sSp (sPass j s1)) w1 (sKi (sPass j s1)) (sPl (sPass j s1)) (sEa (sPass j s1)) (sTo (sPass j s1)) (sQu (sPass j s1)) mo_4 ne_5 (va_DT (va_segD (hD _ rfl) 13 12 rfl) rfl) ((okS_pass o1 j).1) ((okS_pass o1 j).2) (pass_more (σ := s1) hMN.1 j) (pass_near (σ := s1) hMN.2 j)) (cwV 0 hts gX5_tells_X3_serveOne rfl rfl rfl (by decide +kernel) ⟨Nat.le_of_ble_eq_true rfl, Nat.le_of_ble_eq_true rfl⟩) ⟨PcR_fb, va_recv hK hP (ci := 1) (q0 := 13) rfl rfl, PcR_pre (va_seg hP 13 12 rfl) hK⟩ rfl rfl hl.1 rfl (lv_room (Nat.le_of_ble_eq_true rfl)) dX5_tells_61 ⟨Nat.zero_le _, Nat.zero_le _⟩) hP (hD _ rfl) hS 13 12 rfl (fun u_10 H locs hu_10 hP hS => ?_)
        have hP : va_P D vwCl (kcw cI cL cS b s1 w1 m1 n1 (uQu (uTo (uEa (uCo (sPass j s1) ((sCo (sPass j s1)) + 1)) (cEa (sGu (sPass j s1)) (sKn (sPass j s1)) (sFo (sPass j s1)) (sSp (sPass j s1)) (sKi (sPass j s1)) (sPl (sPass j s1)) (sEa (sPass j s1)))) (cTo (sGu (sPass j s1)) (sSp (sPass j s1)) (sKi (sPass j s1)) (sPl (sPass j s1)) (sEa (sPass j s1)) (sTo (sPass j s1)))) (cQu (sGu (sPass j s1)) (sKi (sPass j s1)) (sPl (sPass j s1)) (cEa (sGu (sPass j s1)) (sKn (sPass j s1)) (sFo (sPass j s1)) (sSp (sPass j s1)) (sKi (sPass j s1)) (sPl (sPass j s1)) (sEa (sPass j s1))) (sQu (sPass j s1)))) w1 mo_4 ne_5 s3 w3 m3 n3 ik bt ln tk sb en nm bits size num fnd) H := hP
        refine lv_iinc (v := nI ((j + 1) + 1)) (lv' := [(2, .int (nI ((j + 1) + 1))), (0, .ref (b 0 0)), (1, .int x0)]) hx hb dX5_tells_64 hl (k := 2) rfl (nI_1 _) (by decide) rfl (fun ls hl => ?_)
        refine lv_goto (tgt := 38) hx hb dX5_tells_67 (by decide) ?_
        have hP : va_P D vwCl (kcw cI cL cS b s1 w1 m1 n1 (sPass (j + 1) s1) w1 mo_4 ne_5 s3 w3 m3 n3 ik bt ln tk sb en nm bits size num fnd) H := by exact hP
        exact ih (n - 1) (by omega) (j + 1) H locs ls ⟨by omega, by rw [hi1]; exact seek_f (by omega) (show ¬ pTells s1 x0 (j + 1) from c_9b), hP, hS, lv_sub hl [1, 2, 0] rfl⟩
      · skip
        have c_9b := bI_n c_9
        refine lv_iload_n hx hb dX5_tells_55 rfl (lv_at hl 2 rfl) ?_
        exact W.iret hx hb hr (fun t ht hW => ⟨⟨_, (sPass j s1, w1, mo_4, ne_5, fnd), rfl, (by unfold sTellsA; rw [iF_t c_1b, hi1, seek_t (by omega) (show pTells s1 x0 (j + 1) from c_9b)]; exact end_ok (by omega) _), by dsimp only; rw [ht]; exact hP⟩, hS.F ht⟩) hS.2.2 dX5_tells_56
  · skip
    have c_1b := bI_0 c_1
    refine lv_aload_n hx hb dX5_tells_11 rfl (lv_at hl 0 rfl) ?_
    refine lv_ldc hx hb hown k52 dX5_tells_12 ?_
    refine callMi (va_runV (As := [.int (-1000000001)]) (rest := []) ⟨hx, hb, hml, hown, hts⟩ (k_X5_found l D cI cL cS b s1 w1 m1 n1 s2 w2 m2 n2 s3 w3 m3 n3 ik bt ln tk sb en nm bits size num fnd (-1000000001) (va_DT (hD _ rfl) rfl) (vp_in_iff.mpr (by decide))) (cwV 1 hts gX5_tells_X5_found rfl rfl rfl (by decide +kernel) ⟨Nat.le_of_ble_eq_true rfl, Nat.le_of_ble_eq_true rfl⟩) ⟨PcR_fb, va_recv hK hP (ci := 3) (q0 := 0) rfl rfl, PcR_pre hP hK⟩ rfl rfl hl.1 rfl (lv_room (Nat.le_of_ble_eq_true rfl)) dX5_tells_14 ⟨Nat.zero_le _, Nat.zero_le _⟩) hP (hD _ rfl) hS 0 49 rfl (fun r_13 u_12 H locs hu_12 hP hS => ?_)
    obtain ⟨hu_12r, -⟩ := hu_12
    subst hu_12r
    have hP : va_P D vwCl (kcw cI cL cS b s1 w1 m1 n1 s2 w2 m2 n2 s3 w3 m3 n3 ik bt ln tk sb en nm bits size num (bump fnd (-1000000001))) H := hP
    exact W.iret hx hb hr (fun t ht hW => ⟨⟨_, (s2, w2, m2, n2, bump fnd (-1000000001)), rfl, (by exact (iF_f c_1b).symm), by dsimp only; rw [ht]; exact hP⟩, hS.F ht⟩) hS.2.2 dX5_tells_17

set_option maxRecDepth 100000 in
set_option maxHeartbeats 4000000 in
theorem k_X5_quarrels (l : Launch) (D : va_G) (cI cL cS : ClassId) (b : Nat → Nat → Nat) (s1 : Sg) (w1 m1 n1 : FI) (s2 : Sg) (w2 m2 n2 : FI) (s3 : Sg) (w3 m3 n3 : FI) (ik : Int32) (bt : FI) (ln tk sb en nm : Int32) (bits size : FI) (num : Nat → FJ) (fnd : FI) (x0 : Int32) (dj : va_D (fun _ => True) (djk b)) (o1 : okS s1 w1) : Met l yX5_quarrels wsX5_quarrels { frames := 4, cells := 0, slots := 0, locals := 89 } (PcR D vwCl (tyG cI cL cS) [.ref (b 0 0), .int x0] (kcw cI cL cS b s1 w1 m1 n1 s2 w2 m2 n2 s3 w3 m3 n3 ik bt ln tk sb en nm bits size num fnd)) (va_Qi (fun (r : Int32) (u : Sg × FI × FI × FI × FI) => (r, u.2.2.2.2) = sQuar s1 fnd x0) (fun u t => va_P D vwCl (kcw cI cL cS b s1 w1 m1 n1 u.1 u.2.1 u.2.2.1 u.2.2.2.1 s3 w3 m3 n3 ik bt ln tk sb en nm bits size num u.2.2.2.2) t.heap) (Aof (kcw cI cL cS b s1 w1 m1 n1 s2 w2 m2 n2 s3 w3 m3 n3 ik bt ln tk sb en nm bits size num fnd))) 0 0 (Aof (kcw cI cL cS b s1 w1 m1 n1 s2 w2 m2 n2 s3 w3 m3 n3 ik bt ln tk sb en nm bits size num fnd)) := by
  refine Met.ofW (cc := cX5_quarrels) (maxL := 3) (ret := (some .int)) (by decide) rfl ?_
  intro p e s m args below meth c s₁ B hml hv
  obtain ⟨rfl, hP, hK⟩ := hv
  have hx := B.exec
  have hb := B.bytes
  have hr := B.returns
  have hts := atoms_spec (ws := wsX5_quarrels) B.pre
  have hown : s.vm.findClass RX5 = some m.cls := findClass_of_methodNamed B.named
  have hlocks := B.notSynchronized
  obtain ⟨A, hAe⟩ : ∃ A, A = Aof (kcw cI cL cS b s1 w1 m1 n1 s2 w2 m2 n2 s3 w3 m3 n3 ik bt ln tk sb en nm bits size num fnd) := ⟨_, rfl⟩
  rw [← hAe]
  have hD : ∀ ws' : va_W, ws'.map Prod.fst = (kcw cI cL cS b s1 w1 m1 n1 s2 w2 m2 n2 s3 w3 m3 n3 ik bt ln tk sb en nm bits size num fnd).map Prod.fst → va_D A ws' := fun ws' e => by rw [hAe]; exact va_D_adr (va_D_self (va_D_adr dj rfl)) e
  have hS : va_S A s.heap s.heap [] := va_S.rf
  have hP : va_P D vwCl (kcw cI cL cS b s1 w1 m1 n1 s2 w2 m2 n2 s3 w3 m3 n3 ik bt ln tk sb en nm bits size num fnd) s.heap := hP
  have hl := lv_entry ([.ref (b 0 0), .int x0]) (n := 3) (Nat.le_of_ble_eq_true rfl)
  rw [lg_entry_eq]
  generalize (lg_sl ([.ref (b 0 0), .int x0]) ++ List.replicate (3 - (lg_sl ([.ref (b 0 0), .int x0])).length) Slot.unset).toArray = ls at hl ⊢
  have hl : lv_has ls 3 [(0, .ref (b 0 0)), (1, .int x0)] := hl
  have f10 := hts (.fieldLink RX5 10 "KnivesLaid" "table" "LKnivesLaid$Table;") (List.mem_of_getElem? (i := 1) rfl)
  have inX5 : ∀ w ∈ u_ws RX5 TX5 7, w ∈ wsX5_quarrels := in_at 110 _ _ rfl
  have f16 := hts (.fieldLink RX5 16 "KnivesLaid" "trial" "LKnivesLaid$Table;") (List.mem_of_getElem? (i := 3) rfl)
  have k160 := hts (.constant RX5 160 (-1000000004)) (List.mem_of_getElem? (i := 5) rfl)
  have f113 := hts (.fieldLink RX5 113 "KnivesLaid$Table" "quarrelled" "[I") (List.mem_of_getElem? (i := 4) rfl)
  have inX3 : ∀ w ∈ u_ws RX3 TX3 13, w ∈ wsX5_quarrels := in_at 117 _ _ rfl
  have k52 := hts (.constant RX5 52 (-1000000001)) (List.mem_of_getElem? (i := 2) rfl)
  skip
  refine lv_aload_n hx hb dX5_quarrels_0 rfl (lv_at hl 0 rfl) ?_
  refine va_get (ci := 3) (v := .ref (b 1 0)) (C := RX5) (T := TX5) (N := 7) hx hb hts inX5 hown hK hP 0 rfl rfl 0 (by decide) f10 (fun _ h9 => h9) rfl dX5_quarrels_1 ?_
  refine lv_iload_n hx hb dX5_quarrels_4 rfl (lv_at hl 1 rfl) ?_
  refine callE (W.runV (As := [.int x0]) (rest := []) ⟨hx, hb, hml, hown, hts⟩ (k_X3_has l D cI cL cS (b 1) (sCo s1) (sGu s1) (sKn s1) (sFo s1) (sSp s1) w1 (sKi s1) (sPl s1) (sEa s1) (sTo s1) (sQu s1) m1 n1 x0 o1.1.gu) (cwV 1 hts gX5_quarrels_X3_has rfl rfl rfl (by decide +kernel) ⟨Nat.le_of_ble_eq_true rfl, Nat.le_of_ble_eq_true rfl⟩) ⟨PcR_fb, va_recv hK hP (ci := 1) (q0 := 1) rfl rfl, PcR_pre (va_seg hP 1 12 rfl) hK⟩ rfl rfl hl.1 rfl (lv_room (Nat.le_of_ble_eq_true rfl)) dX5_quarrels_5 ⟨Nat.zero_le _, Nat.zero_le _⟩) ?_
  refine lv_if_ne (tgt := 18) hx hb dX5_quarrels_8 (by decide) (fun c_1 => ?_) (fun c_1 => ?_)
  · skip
    have c_1b := bI_n c_1
    have h8 : vp_in x0 8 := in_8 o1.1.gu c_1b
    refine lv_aload_n hx hb dX5_quarrels_18 rfl (lv_at hl 0 rfl) ?_
    refine va_get (ci := 3) (v := .ref (b 2 0)) (C := RX5) (T := TX5) (N := 7) hx hb hts inX5 hown hK hP 0 rfl rfl 1 (by decide) f16 (fun _ h9 => h9) rfl dX5_quarrels_19 ?_
    refine lv_aload_n hx hb dX5_quarrels_22 rfl (lv_at hl 0 rfl) ?_
    refine va_get (ci := 3) (v := .ref (b 1 0)) (C := RX5) (T := TX5) (N := 7) hx hb hts inX5 hown hK hP 0 rfl rfl 0 (by decide) f10 (fun _ h9 => h9) rfl dX5_quarrels_23 ?_
    refine callBec (wt := tbw cI (b 2) (sCo s2) (sGu s2) (sKn s2) (sFo s2) (sSp s2) w2 (sKi s2) (sPl s2) (sEa s2) (sTo s2) (sQu s2) m2 n2) (wo := tbw cI (b 1) (sCo s1) (sGu s1) (sKn s1) (sFo s1) (sSp s1) w1 (sKi s1) (sPl s1) (sEa s1) (sTo s1) (sQu s1) m1 n1) (w1 := tbw cI (b 2) (sCo s1) (sGu s1) (sKn s1) (sFo s1) (sSp s1) w1 (sKi s1) (sPl s1) (sEa s1) (sTo s1) (sQu s1) m2 n2) (va_runV (As := [.ref (b 1 0)]) (rest := []) ⟨hx, hb, hml, hown, hts⟩ (k_X3_become l D cI cL cS (b 2) (sCo s2) (sGu s2) (sKn s2) (sFo s2) (sSp s2) w2 (sKi s2) (sPl s2) (sEa s2) (sTo s2) (sQu s2) m2 n2 (b 1) (sCo s1) (sGu s1) (sKn s1) (sFo s1) (sSp s1) w1 (sKi s1) (sPl s1) (sEa s1) (sTo s1) (sQu s1) m1 n1 (va_DT (va_D.sub (ws' := tbw2 cI (b 2) (b 1) (sCo s2) (sGu s2) (sKn s2) (sFo s2) (sSp s2) w2 (sKi s2) (sPl s2) (sEa s2) (sTo s2) (sQu s2) m2 n2 (sCo s1) (sGu s1) (sKn s1) (sFo s1) (sSp s1) w1 (sKi s1) (sPl s1) (sEa s1) (sTo s1) (sQu s1) m1 n1) (hD (kcw cI cL cS b s1 w1 m1 n1 s2 w2 m2 n2 s3 w3 m3 n3 ik bt ln tk sb en nm bits size num fnd) rfl) [13, 14, 15, 16, 17, 18, 19, 20, 21, 22, 23, 24, 1, 2, 3, 4, 5, 6, 7, 8, 9, 10, 11, 12] (by decide) rfl) rfl)) (cwV 1 hts gX5_quarrels_X3_become rfl rfl rfl (by decide +kernel) ⟨Nat.le_of_ble_eq_true rfl, Nat.le_of_ble_eq_true rfl⟩) ⟨PcR_fb, va_recv hK hP (ci := 1) (q0 := 13) rfl rfl, PcR_pre (va_P.sub hP [13, 14, 15, 16, 17, 18, 19, 20, 21, 22, 23, 24, 1, 2, 3, 4, 5, 6, 7, 8, 9, 10, 11, 12] rfl) hK⟩ rfl rfl hl.1 rfl (lv_room (Nat.le_of_ble_eq_true rfl)) dX5_quarrels_26 ⟨Nat.zero_le _, Nat.zero_le _⟩) hP (hD _ rfl) hS 13 12 1 12 rfl rfl rfl (fun H locs hP hS => ?_)
    have hP : va_P D vwCl (kcw cI cL cS b s1 w1 m1 n1 s1 w1 m2 n2 s3 w3 m3 n3 ik bt ln tk sb en nm bits size num fnd) H := hP
    refine lv_aload_n hx hb dX5_quarrels_29 rfl (lv_at hl 0 rfl) ?_
    refine va_get (ci := 3) (v := .ref (b 2 0)) (C := RX5) (T := TX5) (N := 7) hx hb hts inX5 hown hK hP 0 rfl rfl 1 (by decide) f16 (fun _ h9 => h9) rfl dX5_quarrels_30 ?_
    refine callMv (va_runV (As := []) (rest := []) ⟨hx, hb, hml, hown, hts⟩ (k_X3_findMore l D cI cL cS (b 2) (sCo s1) (sGu s1) (sKn s1) (sFo s1) (sSp s1) w1 (sKi s1) (sPl s1) (sEa s1) (sTo s1) (sQu s1) m2 n2 (va_DT (va_segD (hD _ rfl) 13 12 rfl) rfl) o1.1) (cwV 0 hts gX5_quarrels_X3_findMore rfl rfl rfl (by decide +kernel) ⟨Nat.le_of_ble_eq_true rfl, Nat.le_of_ble_eq_true rfl⟩) ⟨PcR_fb, va_recv hK hP (ci := 1) (q0 := 13) rfl rfl, PcR_pre (va_seg hP 13 12 rfl) hK⟩ rfl rfl hl.1 rfl (lv_room (Nat.le_of_ble_eq_true rfl)) dX5_quarrels_33 ⟨Nat.zero_le _, Nat.zero_le _⟩) hP (hD _ rfl) hS 13 12 rfl (fun u_2 H locs hu_2 hP hS => ?_)
    obtain ⟨mo_4, ne_5⟩ := u_2
    have hu_2 : (∀ g, g < ix (sGu s1) → mo_4 g = sMore (sGu s1) (sKn s1) (sFo s1) (sSp s1) (sKi s1) (sPl s1) g) ∧ (∀ g, g < ix (sGu s1) → ne_5 g = sNear (sGu s1) (sPl s1) g) := hu_2
    have hMN := hu_2
    have hP : va_P D vwCl (kcw cI cL cS b s1 w1 m1 n1 s1 w1 mo_4 ne_5 s3 w3 m3 n3 ik bt ln tk sb en nm bits size num fnd) H := hP
    have hP : va_P D vwCl (kcw cI cL cS b s1 w1 m1 n1 (sPass 0 s1) w1 mo_4 ne_5 s3 w3 m3 n3 ik bt ln tk sb en nm bits size num fnd) H := by exact hP
    refine lv_iconst (v := 1) hx hb dX5_quarrels_36 (by decide) ?_
    refine lv_istore_n (lv' := [(2, .int 1), (0, .ref (b 0 0)), (1, .int x0)]) hx hb dX5_quarrels_37 rfl hl (by decide) rfl (fun ls hl => ?_)
    refine lpW (fun n (u : Nat) H locs ls => (u + n = 100) ∧ (sSeek (pQuar s1 x0) 1 100 = sSeek (pQuar s1 x0) (u + 1) n) ∧ va_P D vwCl (kcw cI cL cS b s1 w1 m1 n1 (sPass u s1) w1 mo_4 ne_5 s3 w3 m3 n3 ik bt ln tk sb en nm bits size num fnd) H ∧ va_S A s.heap H locs ∧ lv_has ls 3 [(0, .ref (b 0 0)), (1, .int x0), (2, .int (nI (u + 1)))]) (100) (0) ⟨rfl, rfl, hP, hS, lv_sub hl [1, 2, 0] rfl⟩ (fun n ih u H locs ls hI => ?_)
    obtain ⟨j, rfl⟩ : ∃ z, z = u := ⟨_, rfl⟩
    obtain ⟨hi0, hi1, hP, hS, hl⟩ := hI
    have hi0 : j + n = 100 := hi0
    have hi1 : sSeek (pQuar s1 x0) 1 100 = sSeek (pQuar s1 x0) (j + 1) n := hi1
    have hl : lv_has ls 3 [(0, .ref (b 0 0)), (1, .int x0), (2, .int (nI (j + 1)))] := hl
    have hP : va_P D vwCl (kcw cI cL cS b s1 w1 m1 n1 (sPass j s1) w1 mo_4 ne_5 s3 w3 m3 n3 ik bt ln tk sb en nm bits size num fnd) H := hP
    refine lv_iload_n hx hb dX5_quarrels_38 rfl (lv_at hl 2 rfl) ?_
    refine lv_bipush (v := 100) hx hb dX5_quarrels_39 (by decide) ?_
    refine lv_icmp_gt (tgt := 80) hx hb dX5_quarrels_41 (by decide) (fun c_6 => ?_) (fun c_6 => ?_)
    · skip
      have c_6n := (cmp_lt (a := 100) (b := (j + 1)) rfl rfl (by omega) (by omega)).mp c_6
      refine lv_aload_n hx hb dX5_quarrels_80 rfl (lv_at hl 0 rfl) ?_
      refine lv_ldc hx hb hown k160 dX5_quarrels_81 ?_
      refine callMi (va_runV (As := [.int (-1000000004)]) (rest := []) ⟨hx, hb, hml, hown, hts⟩ (k_X5_found l D cI cL cS b s1 w1 m1 n1 (sPass j s1) w1 mo_4 ne_5 s3 w3 m3 n3 ik bt ln tk sb en nm bits size num fnd (-1000000004) (va_DT (hD _ rfl) rfl) (vp_in_iff.mpr (by decide))) (cwV 1 hts gX5_quarrels_X5_found rfl rfl rfl (by decide +kernel) ⟨Nat.le_of_ble_eq_true rfl, Nat.le_of_ble_eq_true rfl⟩) ⟨PcR_fb, va_recv hK hP (ci := 3) (q0 := 0) rfl rfl, PcR_pre hP hK⟩ rfl rfl hl.1 rfl (lv_room (Nat.le_of_ble_eq_true rfl)) dX5_quarrels_83 ⟨Nat.zero_le _, Nat.zero_le _⟩) hP (hD _ rfl) hS 0 49 rfl (fun r_8 u_7 H locs hu_7 hP hS => ?_)
      obtain ⟨hu_7r, -⟩ := hu_7
      subst hu_7r
      have hP : va_P D vwCl (kcw cI cL cS b s1 w1 m1 n1 (sPass j s1) w1 mo_4 ne_5 s3 w3 m3 n3 ik bt ln tk sb en nm bits size num (bump fnd (-1000000004))) H := hP
      exact W.iret hx hb hr (fun t ht hW => ⟨⟨_, (sPass j s1, w1, mo_4, ne_5, bump fnd (-1000000004)), rfl, (by unfold sQuar; rw [iF_t c_1b, hi1, show n = 0 by omega]; exact end_no _), by dsimp only; rw [ht]; exact hP⟩, hS.F ht⟩) hS.2.2 dX5_quarrels_86
    · skip
      have c_6n := mt (cmp_lt (a := 100) (b := (j + 1)) rfl rfl (by omega) (by omega)).mpr c_6
      refine lv_aload_n hx hb dX5_quarrels_44 rfl (lv_at hl 0 rfl) ?_
      refine va_get (ci := 3) (v := .ref (b 2 0)) (C := RX5) (T := TX5) (N := 7) hx hb hts inX5 hown hK hP 0 rfl rfl 1 (by decide) f16 (fun _ h9 => h9) rfl dX5_quarrels_45 ?_
      refine callMv (va_runV (As := []) (rest := []) ⟨hx, hb, hml, hown, hts⟩ (k_X3_serveOne l D cI cL cS (b 2) (sCo (sPass j s1)) (sGu (sPass j s1)) (sKn (sPass j s1)) (sFo (sPass j s1)) (sSp (sPass j s1)) w1 (sKi (sPass j s1)) (sPl (sPass j s1)) (sEa (sPass j s1)) (sTo (sPass j s1)) (sQu (sPass j s1)) mo_4 ne_5 (va_DT (va_segD (hD _ rfl) 13 12 rfl) rfl) ((okS_pass o1 j).1) ((okS_pass o1 j).2) (pass_more (σ := s1) hMN.1 j) (pass_near (σ := s1) hMN.2 j)) (cwV 0 hts gX5_quarrels_X3_serveOne rfl rfl rfl (by decide +kernel) ⟨Nat.le_of_ble_eq_true rfl, Nat.le_of_ble_eq_true rfl⟩) ⟨PcR_fb, va_recv hK hP (ci := 1) (q0 := 13) rfl rfl, PcR_pre (va_seg hP 13 12 rfl) hK⟩ rfl rfl hl.1 rfl (lv_room (Nat.le_of_ble_eq_true rfl)) dX5_quarrels_48 ⟨Nat.zero_le _, Nat.zero_le _⟩) hP (hD _ rfl) hS 13 12 rfl (fun u_9 H locs hu_9 hP hS => ?_)
      have hP : va_P D vwCl (kcw cI cL cS b s1 w1 m1 n1 (uQu (uTo (uEa (uCo (sPass j s1) ((sCo (sPass j s1)) + 1)) (cEa (sGu (sPass j s1)) (sKn (sPass j s1)) (sFo (sPass j s1)) (sSp (sPass j s1)) (sKi (sPass j s1)) (sPl (sPass j s1)) (sEa (sPass j s1)))) (cTo (sGu (sPass j s1)) (sSp (sPass j s1)) (sKi (sPass j s1)) (sPl (sPass j s1)) (sEa (sPass j s1)) (sTo (sPass j s1)))) (cQu (sGu (sPass j s1)) (sKi (sPass j s1)) (sPl (sPass j s1)) (cEa (sGu (sPass j s1)) (sKn (sPass j s1)) (sFo (sPass j s1)) (sSp (sPass j s1)) (sKi (sPass j s1)) (sPl (sPass j s1)) (sEa (sPass j s1))) (sQu (sPass j s1)))) w1 mo_4 ne_5 s3 w3 m3 n3 ik bt ln tk sb en nm bits size num fnd) H := hP
      have hP : va_P D vwCl (kcw cI cL cS b s1 w1 m1 n1 (sPass (j + 1) s1) w1 mo_4 ne_5 s3 w3 m3 n3 ik bt ln tk sb en nm bits size num fnd) H := by exact hP
      refine lv_aload_n hx hb dX5_quarrels_51 rfl (lv_at hl 0 rfl) ?_
      refine va_get (ci := 3) (v := .ref (b 2 0)) (C := RX5) (T := TX5) (N := 7) hx hb hts inX5 hown hK hP 0 rfl rfl 1 (by decide) f16 (fun _ h9 => h9) rfl dX5_quarrels_52 ?_
      refine va_get (ci := 1) (v := .ref (b 2 9)) (C := RX3) (T := TX3) (N := 13) hx hb hts inX3 hown hK hP 13 rfl rfl 10 (by decide) f113 (fun _ h9 => h9) rfl dX5_quarrels_55 ?_
      refine lv_iload_n hx hb dX5_quarrels_58 rfl (lv_at hl 1 rfl) ?_
      refine va_iald hx hb hK hP 22 0 rfl rfl (by assumption) dX5_quarrels_59 ?_
      refine lv_aload_n hx hb dX5_quarrels_60 rfl (lv_at hl 0 rfl) ?_
      refine va_get (ci := 3) (v := .ref (b 1 0)) (C := RX5) (T := TX5) (N := 7) hx hb hts inX5 hown hK hP 0 rfl rfl 0 (by decide) f10 (fun _ h9 => h9) rfl dX5_quarrels_61 ?_
      refine va_get (ci := 1) (v := .ref (b 1 9)) (C := RX3) (T := TX3) (N := 13) hx hb hts inX3 hown hK hP 1 rfl rfl 10 (by decide) f113 (fun _ h9 => h9) rfl dX5_quarrels_64 ?_
      refine lv_iload_n hx hb dX5_quarrels_67 rfl (lv_at hl 1 rfl) ?_
      refine va_iald hx hb hK hP 10 0 rfl rfl (by assumption) dX5_quarrels_68 ?_
      refine lv_icmp_le (tgt := 74) hx hb dX5_quarrels_69 (by decide) (fun c_11 => ?_) (fun c_11 => ?_)
      · skip
        refine lv_iinc (v := nI ((j + 1) + 1)) (lv' := [(2, .int (nI ((j + 1) + 1))), (0, .ref (b 0 0)), (1, .int x0)]) hx hb dX5_quarrels_74 hl (k := 2) rfl (nI_1 _) (by decide) rfl (fun ls hl => ?_)
        refine lv_goto (tgt := 38) hx hb dX5_quarrels_77 (by decide) ?_
        exact ih (n - 1) (by omega) (j + 1) H locs ls ⟨by omega, by rw [hi1]; exact seek_f (by omega) (fun h => h ((quar_le o1 h8 (j + 1)).mp c_11)), hP, hS, lv_sub hl [1, 2, 0] rfl⟩
      · skip
        refine lv_iload_n hx hb dX5_quarrels_72 rfl (lv_at hl 2 rfl) ?_
        exact W.iret hx hb hr (fun t ht hW => ⟨⟨_, (sPass (j + 1) s1, w1, mo_4, ne_5, fnd), rfl, (by unfold sQuar; rw [iF_t c_1b, hi1, seek_t (by omega) (fun e => c_11 ((quar_le o1 h8 (j + 1)).mpr e))]; exact end_ok (by omega) _), by dsimp only; rw [ht]; exact hP⟩, hS.F ht⟩) hS.2.2 dX5_quarrels_73
  · skip
    have c_1b := bI_0 c_1
    refine lv_aload_n hx hb dX5_quarrels_11 rfl (lv_at hl 0 rfl) ?_
    refine lv_ldc hx hb hown k52 dX5_quarrels_12 ?_
    refine callMi (va_runV (As := [.int (-1000000001)]) (rest := []) ⟨hx, hb, hml, hown, hts⟩ (k_X5_found l D cI cL cS b s1 w1 m1 n1 s2 w2 m2 n2 s3 w3 m3 n3 ik bt ln tk sb en nm bits size num fnd (-1000000001) (va_DT (hD _ rfl) rfl) (vp_in_iff.mpr (by decide))) (cwV 1 hts gX5_quarrels_X5_found rfl rfl rfl (by decide +kernel) ⟨Nat.le_of_ble_eq_true rfl, Nat.le_of_ble_eq_true rfl⟩) ⟨PcR_fb, va_recv hK hP (ci := 3) (q0 := 0) rfl rfl, PcR_pre hP hK⟩ rfl rfl hl.1 rfl (lv_room (Nat.le_of_ble_eq_true rfl)) dX5_quarrels_14 ⟨Nat.zero_le _, Nat.zero_le _⟩) hP (hD _ rfl) hS 0 49 rfl (fun r_13 u_12 H locs hu_12 hP hS => ?_)
    obtain ⟨hu_12r, -⟩ := hu_12
    subst hu_12r
    have hP : va_P D vwCl (kcw cI cL cS b s1 w1 m1 n1 s2 w2 m2 n2 s3 w3 m3 n3 ik bt ln tk sb en nm bits size num (bump fnd (-1000000001))) H := hP
    exact W.iret hx hb hr (fun t ht hW => ⟨⟨_, (s2, w2, m2, n2, bump fnd (-1000000001)), rfl, (by exact (iF_f c_1b).symm), by dsimp only; rw [ht]; exact hP⟩, hS.F ht⟩) hS.2.2 dX5_quarrels_17

set_option maxRecDepth 100000 in
set_option maxHeartbeats 4000000 in
theorem k_X6_peace (l : Launch) (D : va_G) (cI cL cS : ClassId) (b : Nat → Nat) (co gu : Int32) (kn fo sp ki pl ea to qu : FI) (fd : FI) (mo : FI) (tr : FI) (b1 : FI) (tp : FI) (tm : Int32) (so : Int32) (bg : Int32) (te : Int32) (wd : Int64) (va : Int32) (gd : Int32) (bo : FI) (sz : FI) (sh : FJ) (le : FJ) (im : FI) (bf : FI) (ik : Int32) (dj : va_D (fun _ => True) (dj0 b 13)) (ok : okT gu kn fo sp (whC gu pl) ki pl) (oe : okE ea to qu) : Met l yX6_peace wsX6_peace { frames := 6, cells := 0, slots := 0, locals := 138 } (PcR D vwCl (tyG cI cL cS) [.ref (b 0)] (mdw cI cL b (enc co gu kn fo sp ki pl ea to qu) fd mo tr b1 tp tm so bg te wd va gd bo sz sh le im bf ik)) (va_Qi (fun (r : Int32) (u : FI × FI × FI) => (r, u.2.2) = sPeace (co, gu, kn, fo, sp, ki, pl, ea, to, qu) fd) (fun u t => va_P D vwCl (mdw cI cL b (enc co gu kn fo sp ki pl ea to qu) u.2.2 u.1 u.2.1 b1 tp tm so bg te wd va gd bo sz sh le im bf ik) t.heap) (Aof (mdw cI cL b (enc co gu kn fo sp ki pl ea to qu) fd mo tr b1 tp tm so bg te wd va gd bo sz sh le im bf ik))) 0 0 (Aof (mdw cI cL b (enc co gu kn fo sp ki pl ea to qu) fd mo tr b1 tp tm so bg te wd va gd bo sz sh le im bf ik)) := by
  refine Met.ofW (cc := cX6_peace) (maxL := 2) (ret := (some .int)) (by decide) rfl ?_
  intro p e s m args below meth c s₁ B hml hv
  obtain ⟨rfl, hP, hK⟩ := hv
  have hx := B.exec
  have hb := B.bytes
  have hr := B.returns
  have hts := atoms_spec (ws := wsX6_peace) B.pre
  have hown : s.vm.findClass RX6 = some m.cls := findClass_of_methodNamed B.named
  have hlocks := B.notSynchronized
  obtain ⟨A, hAe⟩ : ∃ A, A = Aof (mdw cI cL b (enc co gu kn fo sp ki pl ea to qu) fd mo tr b1 tp tm so bg te wd va gd bo sz sh le im bf ik) := ⟨_, rfl⟩
  rw [← hAe]
  have hD : ∀ ws' : va_W, ws'.map Prod.fst = (mdw cI cL b (enc co gu kn fo sp ki pl ea to qu) fd mo tr b1 tp tm so bg te wd va gd bo sz sh le im bf ik).map Prod.fst → va_D A ws' := fun ws' e => by rw [hAe]; exact va_D_adr (va_D_self (va_D_adr dj rfl)) e
  have hS : va_S A s.heap s.heap [] := va_S.rf
  have hP : va_P D vwCl (mdw cI cL b (enc co gu kn fo sp ki pl ea to qu) fd mo tr b1 tp tm so bg te wd va gd bo sz sh le im bf ik) s.heap := hP
  have hl := lv_entry ([.ref (b 0)]) (n := 2) (Nat.le_of_ble_eq_true rfl)
  rw [lg_entry_eq]
  generalize (lg_sl ([.ref (b 0)]) ++ List.replicate (2 - (lg_sl ([.ref (b 0)])).length) Slot.unset).toArray = ls at hl ⊢
  have hl : lv_has ls 2 [(0, .ref (b 0))] := hl
  have f19 := hts (.fieldLink RX6 19 "KnivesLaidModel" "tried" "[I") (List.mem_of_getElem? (i := 1) rfl)
  have inX6 : ∀ w ∈ u_ws RX6 TX6 20, w ∈ wsX6_peace := in_at 86 _ _ rfl
  have k156 := hts (.constant RX6 156 (-1000000004)) (List.mem_of_getElem? (i := 2) rfl)
  skip
  refine lv_aload_n hx hb dX6_peace_0 rfl (lv_at hl 0 rfl) ?_
  refine lv_iconst (v := 1) hx hb dX6_peace_1 (by decide) ?_
  refine lv_aload_n hx hb dX6_peace_2 rfl (lv_at hl 0 rfl) ?_
  refine va_get (ci := 4) (v := .ref (b 4)) (C := RX6) (T := TX6) (N := 20) hx hb hts inX6 hown hK hP 0 rfl rfl 3 (by decide) f19 (fun _ h9 => h9) rfl dX6_peace_3 ?_
  refine callMv (va_runV (As := [.int 1, .ref (b 4)]) (rest := []) ⟨hx, hb, hml, hown, hts⟩ (k_X6_moveAll_tr1 l D cI cL cS b co gu kn fo sp ki pl ea to qu fd mo tr b1 tp tm so bg te wd va gd bo sz sh le im bf ik (va_DT (hD _ rfl) rfl)) (cwV 2 hts gX6_peace_X6_moveAll rfl rfl rfl (by decide +kernel) ⟨Nat.le_of_ble_eq_true rfl, Nat.le_of_ble_eq_true rfl⟩) ⟨PcR_fb, va_recv hK hP (ci := 4) (q0 := 0) rfl rfl, PcR_pre hP hK⟩ rfl rfl hl.1 rfl (lv_room (Nat.le_of_ble_eq_true rfl)) dX6_peace_6 ⟨Nat.zero_le _, Nat.zero_le _⟩) hP (hD _ rfl) hS 0 13 rfl (fun u_1 H locs hu_1 hP hS => ?_)
  have hP : va_P D vwCl (mdw cI cL b (enc co gu kn fo sp ki pl ea to qu) fd mo (enc co gu kn fo sp ki pl ea to qu) b1 tp tm so bg te wd va gd bo sz sh le im bf ik) H := hP
  have hP : va_P D vwCl (mdw cI cL b (enc (sCo (sPass 0 (co, gu, kn, fo, sp, ki, pl, ea, to, qu))) (sGu (sPass 0 (co, gu, kn, fo, sp, ki, pl, ea, to, qu))) (sKn (sPass 0 (co, gu, kn, fo, sp, ki, pl, ea, to, qu))) (sFo (sPass 0 (co, gu, kn, fo, sp, ki, pl, ea, to, qu))) (sSp (sPass 0 (co, gu, kn, fo, sp, ki, pl, ea, to, qu))) (sKi (sPass 0 (co, gu, kn, fo, sp, ki, pl, ea, to, qu))) (sPl (sPass 0 (co, gu, kn, fo, sp, ki, pl, ea, to, qu))) (sEa (sPass 0 (co, gu, kn, fo, sp, ki, pl, ea, to, qu))) (sTo (sPass 0 (co, gu, kn, fo, sp, ki, pl, ea, to, qu))) (sQu (sPass 0 (co, gu, kn, fo, sp, ki, pl, ea, to, qu)))) fd mo (enc co gu kn fo sp ki pl ea to qu) b1 tp tm so bg te wd va gd bo sz sh le im bf ik) H := by exact hP
  refine lv_iconst (v := 0) hx hb dX6_peace_9 (by decide) ?_
  refine lv_istore_n (lv' := [(1, .int 0), (0, .ref (b 0))]) hx hb dX6_peace_10 rfl hl (by decide) rfl (fun ls hl => ?_)
  refine lpW (fun n (u : Nat × FI) H locs ls => (u.1 + n = 101) ∧ (sSeek (pPeace (co, gu, kn, fo, sp, ki, pl, ea, to, qu)) 0 101 = sSeek (pPeace (co, gu, kn, fo, sp, ki, pl, ea, to, qu)) u.1 n) ∧ va_P D vwCl (mdw cI cL b (enc (sCo (sPass u.1 (co, gu, kn, fo, sp, ki, pl, ea, to, qu))) (sGu (sPass u.1 (co, gu, kn, fo, sp, ki, pl, ea, to, qu))) (sKn (sPass u.1 (co, gu, kn, fo, sp, ki, pl, ea, to, qu))) (sFo (sPass u.1 (co, gu, kn, fo, sp, ki, pl, ea, to, qu))) (sSp (sPass u.1 (co, gu, kn, fo, sp, ki, pl, ea, to, qu))) (sKi (sPass u.1 (co, gu, kn, fo, sp, ki, pl, ea, to, qu))) (sPl (sPass u.1 (co, gu, kn, fo, sp, ki, pl, ea, to, qu))) (sEa (sPass u.1 (co, gu, kn, fo, sp, ki, pl, ea, to, qu))) (sTo (sPass u.1 (co, gu, kn, fo, sp, ki, pl, ea, to, qu))) (sQu (sPass u.1 (co, gu, kn, fo, sp, ki, pl, ea, to, qu)))) fd u.2 (enc co gu kn fo sp ki pl ea to qu) b1 tp tm so bg te wd va gd bo sz sh le im bf ik) H ∧ va_S A s.heap H locs ∧ lv_has ls 2 [(0, .ref (b 0)), (1, .int (nI u.1))]) (101) ((0, mo)) ⟨by omega, rfl, hP, hS, lv_sub hl [1, 0] rfl⟩ (fun n ih u H locs ls hI => ?_)
  obtain ⟨j, mo1⟩ := u
  obtain ⟨hi0, hi1, hP, hS, hl⟩ := hI
  have hi0 : j + n = 101 := hi0
  have hi1 : sSeek (pPeace (co, gu, kn, fo, sp, ki, pl, ea, to, qu)) 0 101 = sSeek (pPeace (co, gu, kn, fo, sp, ki, pl, ea, to, qu)) j n := hi1
  have hl : lv_has ls 2 [(0, .ref (b 0)), (1, .int (nI j))] := hl
  have hP : va_P D vwCl (mdw cI cL b (enc (sCo (sPass j (co, gu, kn, fo, sp, ki, pl, ea, to, qu))) (sGu (sPass j (co, gu, kn, fo, sp, ki, pl, ea, to, qu))) (sKn (sPass j (co, gu, kn, fo, sp, ki, pl, ea, to, qu))) (sFo (sPass j (co, gu, kn, fo, sp, ki, pl, ea, to, qu))) (sSp (sPass j (co, gu, kn, fo, sp, ki, pl, ea, to, qu))) (sKi (sPass j (co, gu, kn, fo, sp, ki, pl, ea, to, qu))) (sPl (sPass j (co, gu, kn, fo, sp, ki, pl, ea, to, qu))) (sEa (sPass j (co, gu, kn, fo, sp, ki, pl, ea, to, qu))) (sTo (sPass j (co, gu, kn, fo, sp, ki, pl, ea, to, qu))) (sQu (sPass j (co, gu, kn, fo, sp, ki, pl, ea, to, qu)))) fd mo1 (enc co gu kn fo sp ki pl ea to qu) b1 tp tm so bg te wd va gd bo sz sh le im bf ik) H := hP
  refine lv_iload_n hx hb dX6_peace_11 rfl (lv_at hl 1 rfl) ?_
  refine lv_bipush (v := 100) hx hb dX6_peace_12 (by decide) ?_
  refine lv_icmp_gt (tgt := 34) hx hb dX6_peace_14 (by decide) (fun c_3 => ?_) (fun c_3 => ?_)
  · skip
    have c_3n := (cmp_lt (a := 100) (b := j) rfl rfl (by omega) (by omega)).mp c_3
    refine lv_aload_n hx hb dX6_peace_34 rfl (lv_at hl 0 rfl) ?_
    refine lv_iconst (v := 0) hx hb dX6_peace_35 (by decide) ?_
    refine lv_aload_n hx hb dX6_peace_36 rfl (lv_at hl 0 rfl) ?_
    refine va_get (ci := 4) (v := .ref (b 4)) (C := RX6) (T := TX6) (N := 20) hx hb hts inX6 hown hK hP 0 rfl rfl 3 (by decide) f19 (fun _ h9 => h9) rfl dX6_peace_37 ?_
    refine callMv (va_runV (As := [.int 0, .ref (b 4)]) (rest := []) ⟨hx, hb, hml, hown, hts⟩ (k_X6_moveAll_tr0 l D cI cL cS b (sCo (sPass j (co, gu, kn, fo, sp, ki, pl, ea, to, qu))) (sGu (sPass j (co, gu, kn, fo, sp, ki, pl, ea, to, qu))) (sKn (sPass j (co, gu, kn, fo, sp, ki, pl, ea, to, qu))) (sFo (sPass j (co, gu, kn, fo, sp, ki, pl, ea, to, qu))) (sSp (sPass j (co, gu, kn, fo, sp, ki, pl, ea, to, qu))) (sKi (sPass j (co, gu, kn, fo, sp, ki, pl, ea, to, qu))) (sPl (sPass j (co, gu, kn, fo, sp, ki, pl, ea, to, qu))) (sEa (sPass j (co, gu, kn, fo, sp, ki, pl, ea, to, qu))) (sTo (sPass j (co, gu, kn, fo, sp, ki, pl, ea, to, qu))) (sQu (sPass j (co, gu, kn, fo, sp, ki, pl, ea, to, qu))) fd mo1 b1 tp tm so bg te wd va gd bo sz sh le im bf ik co gu kn fo sp ki pl ea to qu (va_DT (hD _ rfl) rfl)) (cwV 2 hts gX6_peace_X6_moveAll rfl rfl rfl (by decide +kernel) ⟨Nat.le_of_ble_eq_true rfl, Nat.le_of_ble_eq_true rfl⟩) ⟨PcR_fb, va_recv hK hP (ci := 4) (q0 := 0) rfl rfl, PcR_pre hP hK⟩ rfl rfl hl.1 rfl (lv_room (Nat.le_of_ble_eq_true rfl)) dX6_peace_40 ⟨Nat.zero_le _, Nat.zero_le _⟩) hP (hD _ rfl) hS 0 13 rfl (fun u_4 H locs hu_4 hP hS => ?_)
    have hP : va_P D vwCl (mdw cI cL b (enc co gu kn fo sp ki pl ea to qu) fd mo1 (enc co gu kn fo sp ki pl ea to qu) b1 tp tm so bg te wd va gd bo sz sh le im bf ik) H := hP
    refine lv_iload_n hx hb dX6_peace_43 rfl (lv_at hl 1 rfl) ?_
    refine lv_bipush (v := 100) hx hb dX6_peace_44 (by decide) ?_
    refine lv_icmp_le (tgt := 58) hx hb dX6_peace_46 (by decide) (fun c_6 => ?_) (fun c_6 => ?_)
    · skip
      have c_6n := (cmp_le (a := j) (b := 100) rfl rfl (by omega) (by omega)).mp c_6
      exfalso; omega
    · skip
      have c_6n := mt (cmp_le (a := j) (b := 100) rfl rfl (by omega) (by omega)).mpr c_6
      refine lv_aload_n hx hb dX6_peace_49 rfl (lv_at hl 0 rfl) ?_
      refine lv_ldc hx hb hown k156 dX6_peace_50 ?_
      refine callMi (va_runV (As := [.int (-1000000004)]) (rest := []) ⟨hx, hb, hml, hown, hts⟩ (k_X6_finds l D cI cL cS b co gu kn fo sp ki pl ea to qu fd mo1 (enc co gu kn fo sp ki pl ea to qu) b1 tp tm so bg te wd va gd bo sz sh le im bf ik (-1000000004) (va_DT (hD _ rfl) rfl) (vp_in_iff.mpr (by decide))) (cwV 1 hts gX6_peace_X6_finds rfl rfl rfl (by decide +kernel) ⟨Nat.le_of_ble_eq_true rfl, Nat.le_of_ble_eq_true rfl⟩) ⟨PcR_fb, va_recv hK hP (ci := 4) (q0 := 0) rfl rfl, PcR_pre hP hK⟩ rfl rfl hl.1 rfl (lv_room (Nat.le_of_ble_eq_true rfl)) dX6_peace_52 ⟨Nat.zero_le _, Nat.zero_le _⟩) hP (hD _ rfl) hS 0 13 rfl (fun r_8 u_7 H locs hu_7 hP hS => ?_)
      obtain ⟨hu_7r, hu_7⟩ := hu_7
      subst hu_7r
      have hP : va_P D vwCl (mdw cI cL b (enc co gu kn fo sp ki pl ea to qu) (bump fd (-1000000004)) mo1 (enc co gu kn fo sp ki pl ea to qu) b1 tp tm so bg te wd va gd bo sz sh le im bf ik) H := hP
      refine lv_goto (tgt := 59) hx hb dX6_peace_55 (by decide) ?_
      exact W.iret hx hb hr (fun t ht hW => ⟨⟨_, (mo1, enc co gu kn fo sp ki pl ea to qu, bump fd (-1000000004)), rfl, (by unfold sPeace; rw [hi1, show n = 0 by omega]; exact end_no _), by dsimp only; rw [ht]; exact hP⟩, hS.F ht⟩) hS.2.2 dX6_peace_59
  · skip
    have c_3n := mt (cmp_lt (a := 100) (b := j) rfl rfl (by omega) (by omega)).mpr c_3
    refine lv_aload_n hx hb dX6_peace_17 rfl (lv_at hl 0 rfl) ?_
    refine callE (W.runV (As := []) (rest := []) ⟨hx, hb, hml, hown, hts⟩ (k_X6_soreSet l D cI cL cS b (sCo (sPass j (co, gu, kn, fo, sp, ki, pl, ea, to, qu))) (sGu (sPass j (co, gu, kn, fo, sp, ki, pl, ea, to, qu))) (sKn (sPass j (co, gu, kn, fo, sp, ki, pl, ea, to, qu))) (sFo (sPass j (co, gu, kn, fo, sp, ki, pl, ea, to, qu))) (sSp (sPass j (co, gu, kn, fo, sp, ki, pl, ea, to, qu))) (sKi (sPass j (co, gu, kn, fo, sp, ki, pl, ea, to, qu))) (sPl (sPass j (co, gu, kn, fo, sp, ki, pl, ea, to, qu))) (sEa (sPass j (co, gu, kn, fo, sp, ki, pl, ea, to, qu))) (sTo (sPass j (co, gu, kn, fo, sp, ki, pl, ea, to, qu))) (sQu (sPass j (co, gu, kn, fo, sp, ki, pl, ea, to, qu))) fd mo1 (enc co gu kn fo sp ki pl ea to qu) b1 tp tm so bg te wd va gd bo sz sh le im bf ik ((okS_pass (σ := (co, gu, kn, fo, sp, ki, pl, ea, to, qu)) ⟨ok, oe⟩ j).1.cC.gu)) (cwV 0 hts gX6_peace_X6_soreSet rfl rfl rfl (by decide +kernel) ⟨Nat.le_of_ble_eq_true rfl, Nat.le_of_ble_eq_true rfl⟩) ⟨PcR_fb, va_recv hK hP (ci := 4) (q0 := 0) rfl rfl, PcR_pre hP hK⟩ rfl rfl hl.1 rfl (lv_room (Nat.le_of_ble_eq_true rfl)) dX6_peace_18 ⟨Nat.zero_le _, Nat.zero_le _⟩) ?_
    refine lv_if_eq (tgt := 34) hx hb dX6_peace_21 (by decide) (fun c_9 => ?_) (fun c_9 => ?_)
    · skip
      refine lv_aload_n hx hb dX6_peace_34 rfl (lv_at hl 0 rfl) ?_
      refine lv_iconst (v := 0) hx hb dX6_peace_35 (by decide) ?_
      refine lv_aload_n hx hb dX6_peace_36 rfl (lv_at hl 0 rfl) ?_
      refine va_get (ci := 4) (v := .ref (b 4)) (C := RX6) (T := TX6) (N := 20) hx hb hts inX6 hown hK hP 0 rfl rfl 3 (by decide) f19 (fun _ h9 => h9) rfl dX6_peace_37 ?_
      refine callMv (va_runV (As := [.int 0, .ref (b 4)]) (rest := []) ⟨hx, hb, hml, hown, hts⟩ (k_X6_moveAll_tr0 l D cI cL cS b (sCo (sPass j (co, gu, kn, fo, sp, ki, pl, ea, to, qu))) (sGu (sPass j (co, gu, kn, fo, sp, ki, pl, ea, to, qu))) (sKn (sPass j (co, gu, kn, fo, sp, ki, pl, ea, to, qu))) (sFo (sPass j (co, gu, kn, fo, sp, ki, pl, ea, to, qu))) (sSp (sPass j (co, gu, kn, fo, sp, ki, pl, ea, to, qu))) (sKi (sPass j (co, gu, kn, fo, sp, ki, pl, ea, to, qu))) (sPl (sPass j (co, gu, kn, fo, sp, ki, pl, ea, to, qu))) (sEa (sPass j (co, gu, kn, fo, sp, ki, pl, ea, to, qu))) (sTo (sPass j (co, gu, kn, fo, sp, ki, pl, ea, to, qu))) (sQu (sPass j (co, gu, kn, fo, sp, ki, pl, ea, to, qu))) fd mo1 b1 tp tm so bg te wd va gd bo sz sh le im bf ik co gu kn fo sp ki pl ea to qu (va_DT (hD _ rfl) rfl)) (cwV 2 hts gX6_peace_X6_moveAll rfl rfl rfl (by decide +kernel) ⟨Nat.le_of_ble_eq_true rfl, Nat.le_of_ble_eq_true rfl⟩) ⟨PcR_fb, va_recv hK hP (ci := 4) (q0 := 0) rfl rfl, PcR_pre hP hK⟩ rfl rfl hl.1 rfl (lv_room (Nat.le_of_ble_eq_true rfl)) dX6_peace_40 ⟨Nat.zero_le _, Nat.zero_le _⟩) hP (hD _ rfl) hS 0 13 rfl (fun u_10 H locs hu_10 hP hS => ?_)
      have hP : va_P D vwCl (mdw cI cL b (enc co gu kn fo sp ki pl ea to qu) fd mo1 (enc co gu kn fo sp ki pl ea to qu) b1 tp tm so bg te wd va gd bo sz sh le im bf ik) H := hP
      refine lv_iload_n hx hb dX6_peace_43 rfl (lv_at hl 1 rfl) ?_
      refine lv_bipush (v := 100) hx hb dX6_peace_44 (by decide) ?_
      refine lv_icmp_le (tgt := 58) hx hb dX6_peace_46 (by decide) (fun c_12 => ?_) (fun c_12 => ?_)
      · skip
        have c_12n := (cmp_le (a := j) (b := 100) rfl rfl (by omega) (by omega)).mp c_12
        refine lv_iload_n hx hb dX6_peace_58 rfl (lv_at hl 1 rfl) ?_
        exact W.iret hx hb hr (fun t ht hW => ⟨⟨_, (mo1, enc co gu kn fo sp ki pl ea to qu, fd), rfl, (by unfold sPeace; rw [hi1, seek_t (by omega) c_9]; exact end_ok (by omega) _), by dsimp only; rw [ht]; exact hP⟩, hS.F ht⟩) hS.2.2 dX6_peace_59
      · skip
        have c_12n := mt (cmp_le (a := j) (b := 100) rfl rfl (by omega) (by omega)).mpr c_12
        exfalso; omega
    · skip
      refine lv_aload_n hx hb dX6_peace_24 rfl (lv_at hl 0 rfl) ?_
      refine callMv (va_runV (As := []) (rest := []) ⟨hx, hb, hml, hown, hts⟩ (k_X6_oneCourse l D cI cL cS b (sCo (sPass j (co, gu, kn, fo, sp, ki, pl, ea, to, qu))) (sGu (sPass j (co, gu, kn, fo, sp, ki, pl, ea, to, qu))) (sKn (sPass j (co, gu, kn, fo, sp, ki, pl, ea, to, qu))) (sFo (sPass j (co, gu, kn, fo, sp, ki, pl, ea, to, qu))) (sSp (sPass j (co, gu, kn, fo, sp, ki, pl, ea, to, qu))) (sKi (sPass j (co, gu, kn, fo, sp, ki, pl, ea, to, qu))) (sPl (sPass j (co, gu, kn, fo, sp, ki, pl, ea, to, qu))) (sEa (sPass j (co, gu, kn, fo, sp, ki, pl, ea, to, qu))) (sTo (sPass j (co, gu, kn, fo, sp, ki, pl, ea, to, qu))) (sQu (sPass j (co, gu, kn, fo, sp, ki, pl, ea, to, qu))) fd mo1 (enc co gu kn fo sp ki pl ea to qu) b1 tp tm so bg te wd va gd bo sz sh le im bf ik (va_DT (hD _ rfl) rfl) ((okS_pass (σ := (co, gu, kn, fo, sp, ki, pl, ea, to, qu)) ⟨ok, oe⟩ j).1.cC) ((okS_pass (σ := (co, gu, kn, fo, sp, ki, pl, ea, to, qu)) ⟨ok, oe⟩ j).2)) (cwV 0 hts gX6_peace_X6_oneCourse rfl rfl rfl (by decide +kernel) ⟨Nat.le_of_ble_eq_true rfl, Nat.le_of_ble_eq_true rfl⟩) ⟨PcR_fb, va_recv hK hP (ci := 4) (q0 := 0) rfl rfl, PcR_pre hP hK⟩ rfl rfl hl.1 rfl (lv_room (Nat.le_of_ble_eq_true rfl)) dX6_peace_25 ⟨Nat.zero_le _, Nat.zero_le _⟩) hP (hD _ rfl) hS 0 13 rfl (fun u_13 H locs hu_13 hP hS => ?_)
      obtain ⟨mo_15, rfl⟩ : ∃ z, z = u_13 := ⟨_, rfl⟩
      have hP : va_P D vwCl (mdw cI cL b (enc ((sCo (sPass j (co, gu, kn, fo, sp, ki, pl, ea, to, qu))) + 1) (sGu (sPass j (co, gu, kn, fo, sp, ki, pl, ea, to, qu))) (sKn (sPass j (co, gu, kn, fo, sp, ki, pl, ea, to, qu))) (sFo (sPass j (co, gu, kn, fo, sp, ki, pl, ea, to, qu))) (sSp (sPass j (co, gu, kn, fo, sp, ki, pl, ea, to, qu))) (sKi (sPass j (co, gu, kn, fo, sp, ki, pl, ea, to, qu))) (sPl (sPass j (co, gu, kn, fo, sp, ki, pl, ea, to, qu))) (cEa (sGu (sPass j (co, gu, kn, fo, sp, ki, pl, ea, to, qu))) (sKn (sPass j (co, gu, kn, fo, sp, ki, pl, ea, to, qu))) (sFo (sPass j (co, gu, kn, fo, sp, ki, pl, ea, to, qu))) (sSp (sPass j (co, gu, kn, fo, sp, ki, pl, ea, to, qu))) (sKi (sPass j (co, gu, kn, fo, sp, ki, pl, ea, to, qu))) (sPl (sPass j (co, gu, kn, fo, sp, ki, pl, ea, to, qu))) (sEa (sPass j (co, gu, kn, fo, sp, ki, pl, ea, to, qu)))) (cTo (sGu (sPass j (co, gu, kn, fo, sp, ki, pl, ea, to, qu))) (sSp (sPass j (co, gu, kn, fo, sp, ki, pl, ea, to, qu))) (sKi (sPass j (co, gu, kn, fo, sp, ki, pl, ea, to, qu))) (sPl (sPass j (co, gu, kn, fo, sp, ki, pl, ea, to, qu))) (sEa (sPass j (co, gu, kn, fo, sp, ki, pl, ea, to, qu))) (sTo (sPass j (co, gu, kn, fo, sp, ki, pl, ea, to, qu)))) (cQu (sGu (sPass j (co, gu, kn, fo, sp, ki, pl, ea, to, qu))) (sKi (sPass j (co, gu, kn, fo, sp, ki, pl, ea, to, qu))) (sPl (sPass j (co, gu, kn, fo, sp, ki, pl, ea, to, qu))) (cEa (sGu (sPass j (co, gu, kn, fo, sp, ki, pl, ea, to, qu))) (sKn (sPass j (co, gu, kn, fo, sp, ki, pl, ea, to, qu))) (sFo (sPass j (co, gu, kn, fo, sp, ki, pl, ea, to, qu))) (sSp (sPass j (co, gu, kn, fo, sp, ki, pl, ea, to, qu))) (sKi (sPass j (co, gu, kn, fo, sp, ki, pl, ea, to, qu))) (sPl (sPass j (co, gu, kn, fo, sp, ki, pl, ea, to, qu))) (sEa (sPass j (co, gu, kn, fo, sp, ki, pl, ea, to, qu)))) (sQu (sPass j (co, gu, kn, fo, sp, ki, pl, ea, to, qu))))) fd mo_15 (enc co gu kn fo sp ki pl ea to qu) b1 tp tm so bg te wd va gd bo sz sh le im bf ik) H := hP
      refine lv_iinc (v := nI (j + 1)) (lv' := [(1, .int (nI (j + 1))), (0, .ref (b 0))]) hx hb dX6_peace_28 hl (k := 1) rfl (nI_1 _) (by decide) rfl (fun ls hl => ?_)
      refine lv_goto (tgt := 11) hx hb dX6_peace_31 (by decide) ?_
      have hP : va_P D vwCl (mdw cI cL b (enc (sCo (sPass (j + 1) (co, gu, kn, fo, sp, ki, pl, ea, to, qu))) (sGu (sPass (j + 1) (co, gu, kn, fo, sp, ki, pl, ea, to, qu))) (sKn (sPass (j + 1) (co, gu, kn, fo, sp, ki, pl, ea, to, qu))) (sFo (sPass (j + 1) (co, gu, kn, fo, sp, ki, pl, ea, to, qu))) (sSp (sPass (j + 1) (co, gu, kn, fo, sp, ki, pl, ea, to, qu))) (sKi (sPass (j + 1) (co, gu, kn, fo, sp, ki, pl, ea, to, qu))) (sPl (sPass (j + 1) (co, gu, kn, fo, sp, ki, pl, ea, to, qu))) (sEa (sPass (j + 1) (co, gu, kn, fo, sp, ki, pl, ea, to, qu))) (sTo (sPass (j + 1) (co, gu, kn, fo, sp, ki, pl, ea, to, qu))) (sQu (sPass (j + 1) (co, gu, kn, fo, sp, ki, pl, ea, to, qu)))) fd mo_15 (enc co gu kn fo sp ki pl ea to qu) b1 tp tm so bg te wd va gd bo sz sh le im bf ik) H := by exact hP
      exact ih (n - 1) (by omega) ((j + 1, mo_15)) H locs ls ⟨by omega, by rw [hi1]; exact seek_f (by omega) c_9, hP, hS, lv_sub hl [1, 0] rfl⟩

set_option maxRecDepth 100000 in
set_option maxHeartbeats 4000000 in
theorem k_X6_tells (l : Launch) (D : va_G) (cI cL cS : ClassId) (b : Nat → Nat) (co gu : Int32) (kn fo sp ki pl ea to qu : FI) (fd : FI) (mo : FI) (tr : FI) (b1 : FI) (tp : FI) (tm : Int32) (so : Int32) (bg : Int32) (te : Int32) (wd : Int64) (va : Int32) (gd : Int32) (bo : FI) (sz : FI) (sh : FJ) (le : FJ) (im : FI) (bf : FI) (ik : Int32) (x0 : Int32) (dj : va_D (fun _ => True) (dj0 b 13)) (ok : okT gu kn fo sp (whC gu pl) ki pl) (oe : okE ea to qu) : Met l yX6_tells wsX6_tells { frames := 6, cells := 0, slots := 0, locals := 138 } (PcR D vwCl (tyG cI cL cS) [.ref (b 0), .int x0] (mdw cI cL b (enc co gu kn fo sp ki pl ea to qu) fd mo tr b1 tp tm so bg te wd va gd bo sz sh le im bf ik)) (va_Qi (fun (r : Int32) (u : FI × FI × FI) => (r, u.2.2) = sTellsA (co, gu, kn, fo, sp, ki, pl, ea, to, qu) fd x0) (fun u t => va_P D vwCl (mdw cI cL b (enc co gu kn fo sp ki pl ea to qu) u.2.2 u.1 u.2.1 b1 tp tm so bg te wd va gd bo sz sh le im bf ik) t.heap) (Aof (mdw cI cL b (enc co gu kn fo sp ki pl ea to qu) fd mo tr b1 tp tm so bg te wd va gd bo sz sh le im bf ik))) 0 0 (Aof (mdw cI cL b (enc co gu kn fo sp ki pl ea to qu) fd mo tr b1 tp tm so bg te wd va gd bo sz sh le im bf ik)) := by
  refine Met.ofW (cc := cX6_tells) (maxL := 3) (ret := (some .int)) (by decide) rfl ?_
  intro p e s m args below meth c s₁ B hml hv
  obtain ⟨rfl, hP, hK⟩ := hv
  have hx := B.exec
  have hb := B.bytes
  have hr := B.returns
  have hts := atoms_spec (ws := wsX6_tells) B.pre
  have hown : s.vm.findClass RX6 = some m.cls := findClass_of_methodNamed B.named
  have hlocks := B.notSynchronized
  obtain ⟨A, hAe⟩ : ∃ A, A = Aof (mdw cI cL b (enc co gu kn fo sp ki pl ea to qu) fd mo tr b1 tp tm so bg te wd va gd bo sz sh le im bf ik) := ⟨_, rfl⟩
  rw [← hAe]
  have hD : ∀ ws' : va_W, ws'.map Prod.fst = (mdw cI cL b (enc co gu kn fo sp ki pl ea to qu) fd mo tr b1 tp tm so bg te wd va gd bo sz sh le im bf ik).map Prod.fst → va_D A ws' := fun ws' e => by rw [hAe]; exact va_D_adr (va_D_self (va_D_adr dj rfl)) e
  have hS : va_S A s.heap s.heap [] := va_S.rf
  have hP : va_P D vwCl (mdw cI cL b (enc co gu kn fo sp ki pl ea to qu) fd mo tr b1 tp tm so bg te wd va gd bo sz sh le im bf ik) s.heap := hP
  have hl := lv_entry ([.ref (b 0), .int x0]) (n := 3) (Nat.le_of_ble_eq_true rfl)
  rw [lg_entry_eq]
  generalize (lg_sl ([.ref (b 0), .int x0]) ++ List.replicate (3 - (lg_sl ([.ref (b 0), .int x0])).length) Slot.unset).toArray = ls at hl ⊢
  have hl : lv_has ls 3 [(0, .ref (b 0)), (1, .int x0)] := hl
  have f19 := hts (.fieldLink RX6 19 "KnivesLaidModel" "tried" "[I") (List.mem_of_getElem? (i := 2) rfl)
  have inX6 : ∀ w ∈ u_ws RX6 TX6 20, w ∈ wsX6_tells := in_at 93 _ _ rfl
  have k156 := hts (.constant RX6 156 (-1000000004)) (List.mem_of_getElem? (i := 3) rfl)
  have k47 := hts (.constant RX6 47 (-1000000001)) (List.mem_of_getElem? (i := 1) rfl)
  skip
  refine lv_aload_n hx hb dX6_tells_0 rfl (lv_at hl 0 rfl) ?_
  refine lv_iload_n hx hb dX6_tells_1 rfl (lv_at hl 1 rfl) ?_
  refine callE (W.runV (As := [.int x0]) (rest := []) ⟨hx, hb, hml, hown, hts⟩ (k_X6_isOne l D cI cL cS b co gu kn fo sp ki pl ea to qu fd mo tr b1 tp tm so bg te wd va gd bo sz sh le im bf ik x0 ok.gu) (cwV 1 hts gX6_tells_X6_isOne rfl rfl rfl (by decide +kernel) ⟨Nat.le_of_ble_eq_true rfl, Nat.le_of_ble_eq_true rfl⟩) ⟨PcR_fb, va_recv hK hP (ci := 4) (q0 := 0) rfl rfl, PcR_pre hP hK⟩ rfl rfl hl.1 rfl (lv_room (Nat.le_of_ble_eq_true rfl)) dX6_tells_2 ⟨Nat.zero_le _, Nat.zero_le _⟩) ?_
  refine lv_if_ne (tgt := 15) hx hb dX6_tells_5 (by decide) (fun c_1 => ?_) (fun c_1 => ?_)
  · skip
    have c_1b := bI_n c_1
    have h8 : vp_in x0 8 := in_8 ok.gu c_1b
    refine lv_aload_n hx hb dX6_tells_15 rfl (lv_at hl 0 rfl) ?_
    refine lv_iconst (v := 1) hx hb dX6_tells_16 (by decide) ?_
    refine lv_aload_n hx hb dX6_tells_17 rfl (lv_at hl 0 rfl) ?_
    refine va_get (ci := 4) (v := .ref (b 4)) (C := RX6) (T := TX6) (N := 20) hx hb hts inX6 hown hK hP 0 rfl rfl 3 (by decide) f19 (fun _ h9 => h9) rfl dX6_tells_18 ?_
    refine callMv (va_runV (As := [.int 1, .ref (b 4)]) (rest := []) ⟨hx, hb, hml, hown, hts⟩ (k_X6_moveAll_tr1 l D cI cL cS b co gu kn fo sp ki pl ea to qu fd mo tr b1 tp tm so bg te wd va gd bo sz sh le im bf ik (va_DT (hD _ rfl) rfl)) (cwV 2 hts gX6_tells_X6_moveAll rfl rfl rfl (by decide +kernel) ⟨Nat.le_of_ble_eq_true rfl, Nat.le_of_ble_eq_true rfl⟩) ⟨PcR_fb, va_recv hK hP (ci := 4) (q0 := 0) rfl rfl, PcR_pre hP hK⟩ rfl rfl hl.1 rfl (lv_room (Nat.le_of_ble_eq_true rfl)) dX6_tells_21 ⟨Nat.zero_le _, Nat.zero_le _⟩) hP (hD _ rfl) hS 0 13 rfl (fun u_2 H locs hu_2 hP hS => ?_)
    have hP : va_P D vwCl (mdw cI cL b (enc co gu kn fo sp ki pl ea to qu) fd mo (enc co gu kn fo sp ki pl ea to qu) b1 tp tm so bg te wd va gd bo sz sh le im bf ik) H := hP
    have hP : va_P D vwCl (mdw cI cL b (enc (sCo (sPass 0 (co, gu, kn, fo, sp, ki, pl, ea, to, qu))) (sGu (sPass 0 (co, gu, kn, fo, sp, ki, pl, ea, to, qu))) (sKn (sPass 0 (co, gu, kn, fo, sp, ki, pl, ea, to, qu))) (sFo (sPass 0 (co, gu, kn, fo, sp, ki, pl, ea, to, qu))) (sSp (sPass 0 (co, gu, kn, fo, sp, ki, pl, ea, to, qu))) (sKi (sPass 0 (co, gu, kn, fo, sp, ki, pl, ea, to, qu))) (sPl (sPass 0 (co, gu, kn, fo, sp, ki, pl, ea, to, qu))) (sEa (sPass 0 (co, gu, kn, fo, sp, ki, pl, ea, to, qu))) (sTo (sPass 0 (co, gu, kn, fo, sp, ki, pl, ea, to, qu))) (sQu (sPass 0 (co, gu, kn, fo, sp, ki, pl, ea, to, qu)))) fd mo (enc co gu kn fo sp ki pl ea to qu) b1 tp tm so bg te wd va gd bo sz sh le im bf ik) H := by exact hP
    refine lv_iconst (v := 1) hx hb dX6_tells_24 (by decide) ?_
    refine lv_istore_n (lv' := [(2, .int 1), (0, .ref (b 0)), (1, .int x0)]) hx hb dX6_tells_25 rfl hl (by decide) rfl (fun ls hl => ?_)
    refine lpW (fun n (u : Nat × FI) H locs ls => (u.1 + n = 100) ∧ (sSeek (pTells (co, gu, kn, fo, sp, ki, pl, ea, to, qu) x0) 1 100 = sSeek (pTells (co, gu, kn, fo, sp, ki, pl, ea, to, qu) x0) (u.1 + 1) n) ∧ va_P D vwCl (mdw cI cL b (enc (sCo (sPass u.1 (co, gu, kn, fo, sp, ki, pl, ea, to, qu))) (sGu (sPass u.1 (co, gu, kn, fo, sp, ki, pl, ea, to, qu))) (sKn (sPass u.1 (co, gu, kn, fo, sp, ki, pl, ea, to, qu))) (sFo (sPass u.1 (co, gu, kn, fo, sp, ki, pl, ea, to, qu))) (sSp (sPass u.1 (co, gu, kn, fo, sp, ki, pl, ea, to, qu))) (sKi (sPass u.1 (co, gu, kn, fo, sp, ki, pl, ea, to, qu))) (sPl (sPass u.1 (co, gu, kn, fo, sp, ki, pl, ea, to, qu))) (sEa (sPass u.1 (co, gu, kn, fo, sp, ki, pl, ea, to, qu))) (sTo (sPass u.1 (co, gu, kn, fo, sp, ki, pl, ea, to, qu))) (sQu (sPass u.1 (co, gu, kn, fo, sp, ki, pl, ea, to, qu)))) fd u.2 (enc co gu kn fo sp ki pl ea to qu) b1 tp tm so bg te wd va gd bo sz sh le im bf ik) H ∧ va_S A s.heap H locs ∧ lv_has ls 3 [(0, .ref (b 0)), (1, .int x0), (2, .int (nI (u.1 + 1)))]) (100) ((0, mo)) ⟨by omega, rfl, hP, hS, lv_sub hl [1, 2, 0] rfl⟩ (fun n ih u H locs ls hI => ?_)
    obtain ⟨j, mo1⟩ := u
    obtain ⟨hi0, hi1, hP, hS, hl⟩ := hI
    have hi0 : j + n = 100 := hi0
    have hi1 : sSeek (pTells (co, gu, kn, fo, sp, ki, pl, ea, to, qu) x0) 1 100 = sSeek (pTells (co, gu, kn, fo, sp, ki, pl, ea, to, qu) x0) (j + 1) n := hi1
    have hl : lv_has ls 3 [(0, .ref (b 0)), (1, .int x0), (2, .int (nI (j + 1)))] := hl
    have hP : va_P D vwCl (mdw cI cL b (enc (sCo (sPass j (co, gu, kn, fo, sp, ki, pl, ea, to, qu))) (sGu (sPass j (co, gu, kn, fo, sp, ki, pl, ea, to, qu))) (sKn (sPass j (co, gu, kn, fo, sp, ki, pl, ea, to, qu))) (sFo (sPass j (co, gu, kn, fo, sp, ki, pl, ea, to, qu))) (sSp (sPass j (co, gu, kn, fo, sp, ki, pl, ea, to, qu))) (sKi (sPass j (co, gu, kn, fo, sp, ki, pl, ea, to, qu))) (sPl (sPass j (co, gu, kn, fo, sp, ki, pl, ea, to, qu))) (sEa (sPass j (co, gu, kn, fo, sp, ki, pl, ea, to, qu))) (sTo (sPass j (co, gu, kn, fo, sp, ki, pl, ea, to, qu))) (sQu (sPass j (co, gu, kn, fo, sp, ki, pl, ea, to, qu)))) fd mo1 (enc co gu kn fo sp ki pl ea to qu) b1 tp tm so bg te wd va gd bo sz sh le im bf ik) H := hP
    refine lv_iload_n hx hb dX6_tells_26 rfl (lv_at hl 2 rfl) ?_
    refine lv_bipush (v := 100) hx hb dX6_tells_27 (by decide) ?_
    refine lv_icmp_gt (tgt := 50) hx hb dX6_tells_29 (by decide) (fun c_4 => ?_) (fun c_4 => ?_)
    · skip
      have c_4n := (cmp_lt (a := 100) (b := (j + 1)) rfl rfl (by omega) (by omega)).mp c_4
      refine lv_aload_n hx hb dX6_tells_50 rfl (lv_at hl 0 rfl) ?_
      refine lv_iconst (v := 0) hx hb dX6_tells_51 (by decide) ?_
      refine lv_aload_n hx hb dX6_tells_52 rfl (lv_at hl 0 rfl) ?_
      refine va_get (ci := 4) (v := .ref (b 4)) (C := RX6) (T := TX6) (N := 20) hx hb hts inX6 hown hK hP 0 rfl rfl 3 (by decide) f19 (fun _ h9 => h9) rfl dX6_tells_53 ?_
      refine callMv (va_runV (As := [.int 0, .ref (b 4)]) (rest := []) ⟨hx, hb, hml, hown, hts⟩ (k_X6_moveAll_tr0 l D cI cL cS b (sCo (sPass j (co, gu, kn, fo, sp, ki, pl, ea, to, qu))) (sGu (sPass j (co, gu, kn, fo, sp, ki, pl, ea, to, qu))) (sKn (sPass j (co, gu, kn, fo, sp, ki, pl, ea, to, qu))) (sFo (sPass j (co, gu, kn, fo, sp, ki, pl, ea, to, qu))) (sSp (sPass j (co, gu, kn, fo, sp, ki, pl, ea, to, qu))) (sKi (sPass j (co, gu, kn, fo, sp, ki, pl, ea, to, qu))) (sPl (sPass j (co, gu, kn, fo, sp, ki, pl, ea, to, qu))) (sEa (sPass j (co, gu, kn, fo, sp, ki, pl, ea, to, qu))) (sTo (sPass j (co, gu, kn, fo, sp, ki, pl, ea, to, qu))) (sQu (sPass j (co, gu, kn, fo, sp, ki, pl, ea, to, qu))) fd mo1 b1 tp tm so bg te wd va gd bo sz sh le im bf ik co gu kn fo sp ki pl ea to qu (va_DT (hD _ rfl) rfl)) (cwV 2 hts gX6_tells_X6_moveAll rfl rfl rfl (by decide +kernel) ⟨Nat.le_of_ble_eq_true rfl, Nat.le_of_ble_eq_true rfl⟩) ⟨PcR_fb, va_recv hK hP (ci := 4) (q0 := 0) rfl rfl, PcR_pre hP hK⟩ rfl rfl hl.1 rfl (lv_room (Nat.le_of_ble_eq_true rfl)) dX6_tells_56 ⟨Nat.zero_le _, Nat.zero_le _⟩) hP (hD _ rfl) hS 0 13 rfl (fun u_5 H locs hu_5 hP hS => ?_)
      have hP : va_P D vwCl (mdw cI cL b (enc co gu kn fo sp ki pl ea to qu) fd mo1 (enc co gu kn fo sp ki pl ea to qu) b1 tp tm so bg te wd va gd bo sz sh le im bf ik) H := hP
      refine lv_iload_n hx hb dX6_tells_59 rfl (lv_at hl 2 rfl) ?_
      refine lv_bipush (v := 100) hx hb dX6_tells_60 (by decide) ?_
      refine lv_icmp_le (tgt := 74) hx hb dX6_tells_62 (by decide) (fun c_7 => ?_) (fun c_7 => ?_)
      · skip
        have c_7n := (cmp_le (a := (j + 1)) (b := 100) rfl rfl (by omega) (by omega)).mp c_7
        exfalso; omega
      · skip
        have c_7n := mt (cmp_le (a := (j + 1)) (b := 100) rfl rfl (by omega) (by omega)).mpr c_7
        refine lv_aload_n hx hb dX6_tells_65 rfl (lv_at hl 0 rfl) ?_
        refine lv_ldc hx hb hown k156 dX6_tells_66 ?_
        refine callMi (va_runV (As := [.int (-1000000004)]) (rest := []) ⟨hx, hb, hml, hown, hts⟩ (k_X6_finds l D cI cL cS b co gu kn fo sp ki pl ea to qu fd mo1 (enc co gu kn fo sp ki pl ea to qu) b1 tp tm so bg te wd va gd bo sz sh le im bf ik (-1000000004) (va_DT (hD _ rfl) rfl) (vp_in_iff.mpr (by decide))) (cwV 1 hts gX6_tells_X6_finds rfl rfl rfl (by decide +kernel) ⟨Nat.le_of_ble_eq_true rfl, Nat.le_of_ble_eq_true rfl⟩) ⟨PcR_fb, va_recv hK hP (ci := 4) (q0 := 0) rfl rfl, PcR_pre hP hK⟩ rfl rfl hl.1 rfl (lv_room (Nat.le_of_ble_eq_true rfl)) dX6_tells_68 ⟨Nat.zero_le _, Nat.zero_le _⟩) hP (hD _ rfl) hS 0 13 rfl (fun r_9 u_8 H locs hu_8 hP hS => ?_)
        obtain ⟨hu_8r, hu_8⟩ := hu_8
        subst hu_8r
        have hP : va_P D vwCl (mdw cI cL b (enc co gu kn fo sp ki pl ea to qu) (bump fd (-1000000004)) mo1 (enc co gu kn fo sp ki pl ea to qu) b1 tp tm so bg te wd va gd bo sz sh le im bf ik) H := hP
        refine lv_goto (tgt := 75) hx hb dX6_tells_71 (by decide) ?_
        exact W.iret hx hb hr (fun t ht hW => ⟨⟨_, (mo1, enc co gu kn fo sp ki pl ea to qu, bump fd (-1000000004)), rfl, (by unfold sTellsA; rw [iF_t c_1b, hi1, show n = 0 by omega]; exact end_no _), by dsimp only; rw [ht]; exact hP⟩, hS.F ht⟩) hS.2.2 dX6_tells_75
    · skip
      have c_4n := mt (cmp_lt (a := 100) (b := (j + 1)) rfl rfl (by omega) (by omega)).mpr c_4
      refine lv_aload_n hx hb dX6_tells_32 rfl (lv_at hl 0 rfl) ?_
      refine lv_iload_n hx hb dX6_tells_33 rfl (lv_at hl 1 rfl) ?_
      refine callE (W.runV (As := [.int x0]) (rest := []) ⟨hx, hb, hml, hown, hts⟩ (k_X6_isTelling l D cI cL cS b (sCo (sPass j (co, gu, kn, fo, sp, ki, pl, ea, to, qu))) (sGu (sPass j (co, gu, kn, fo, sp, ki, pl, ea, to, qu))) (sKn (sPass j (co, gu, kn, fo, sp, ki, pl, ea, to, qu))) (sFo (sPass j (co, gu, kn, fo, sp, ki, pl, ea, to, qu))) (sSp (sPass j (co, gu, kn, fo, sp, ki, pl, ea, to, qu))) (sKi (sPass j (co, gu, kn, fo, sp, ki, pl, ea, to, qu))) (sPl (sPass j (co, gu, kn, fo, sp, ki, pl, ea, to, qu))) (sEa (sPass j (co, gu, kn, fo, sp, ki, pl, ea, to, qu))) (sTo (sPass j (co, gu, kn, fo, sp, ki, pl, ea, to, qu))) (sQu (sPass j (co, gu, kn, fo, sp, ki, pl, ea, to, qu))) fd mo1 (enc co gu kn fo sp ki pl ea to qu) b1 tp tm so bg te wd va gd bo sz sh le im bf ik x0 ((okS_pass (σ := (co, gu, kn, fo, sp, ki, pl, ea, to, qu)) ⟨ok, oe⟩ j).1.cC) h8) (cwV 1 hts gX6_tells_X6_isTelling rfl rfl rfl (by decide +kernel) ⟨Nat.le_of_ble_eq_true rfl, Nat.le_of_ble_eq_true rfl⟩) ⟨PcR_fb, va_recv hK hP (ci := 4) (q0 := 0) rfl rfl, PcR_pre hP hK⟩ rfl rfl hl.1 rfl (lv_room (Nat.le_of_ble_eq_true rfl)) dX6_tells_34 ⟨Nat.zero_le _, Nat.zero_le _⟩) ?_
      refine lv_if_ne (tgt := 50) hx hb dX6_tells_37 (by decide) (fun c_10 => ?_) (fun c_10 => ?_)
      · skip
        have c_10b := bI_n c_10
        refine lv_aload_n hx hb dX6_tells_50 rfl (lv_at hl 0 rfl) ?_
        refine lv_iconst (v := 0) hx hb dX6_tells_51 (by decide) ?_
        refine lv_aload_n hx hb dX6_tells_52 rfl (lv_at hl 0 rfl) ?_
        refine va_get (ci := 4) (v := .ref (b 4)) (C := RX6) (T := TX6) (N := 20) hx hb hts inX6 hown hK hP 0 rfl rfl 3 (by decide) f19 (fun _ h9 => h9) rfl dX6_tells_53 ?_
        refine callMv (va_runV (As := [.int 0, .ref (b 4)]) (rest := []) ⟨hx, hb, hml, hown, hts⟩ (k_X6_moveAll_tr0 l D cI cL cS b (sCo (sPass j (co, gu, kn, fo, sp, ki, pl, ea, to, qu))) (sGu (sPass j (co, gu, kn, fo, sp, ki, pl, ea, to, qu))) (sKn (sPass j (co, gu, kn, fo, sp, ki, pl, ea, to, qu))) (sFo (sPass j (co, gu, kn, fo, sp, ki, pl, ea, to, qu))) (sSp (sPass j (co, gu, kn, fo, sp, ki, pl, ea, to, qu))) (sKi (sPass j (co, gu, kn, fo, sp, ki, pl, ea, to, qu))) (sPl (sPass j (co, gu, kn, fo, sp, ki, pl, ea, to, qu))) (sEa (sPass j (co, gu, kn, fo, sp, ki, pl, ea, to, qu))) (sTo (sPass j (co, gu, kn, fo, sp, ki, pl, ea, to, qu))) (sQu (sPass j (co, gu, kn, fo, sp, ki, pl, ea, to, qu))) fd mo1 b1 tp tm so bg te wd va gd bo sz sh le im bf ik co gu kn fo sp ki pl ea to qu (va_DT (hD _ rfl) rfl)) (cwV 2 hts gX6_tells_X6_moveAll rfl rfl rfl (by decide +kernel) ⟨Nat.le_of_ble_eq_true rfl, Nat.le_of_ble_eq_true rfl⟩) ⟨PcR_fb, va_recv hK hP (ci := 4) (q0 := 0) rfl rfl, PcR_pre hP hK⟩ rfl rfl hl.1 rfl (lv_room (Nat.le_of_ble_eq_true rfl)) dX6_tells_56 ⟨Nat.zero_le _, Nat.zero_le _⟩) hP (hD _ rfl) hS 0 13 rfl (fun u_11 H locs hu_11 hP hS => ?_)
        have hP : va_P D vwCl (mdw cI cL b (enc co gu kn fo sp ki pl ea to qu) fd mo1 (enc co gu kn fo sp ki pl ea to qu) b1 tp tm so bg te wd va gd bo sz sh le im bf ik) H := hP
        refine lv_iload_n hx hb dX6_tells_59 rfl (lv_at hl 2 rfl) ?_
        refine lv_bipush (v := 100) hx hb dX6_tells_60 (by decide) ?_
        refine lv_icmp_le (tgt := 74) hx hb dX6_tells_62 (by decide) (fun c_13 => ?_) (fun c_13 => ?_)
        · skip
          have c_13n := (cmp_le (a := (j + 1)) (b := 100) rfl rfl (by omega) (by omega)).mp c_13
          refine lv_iload_n hx hb dX6_tells_74 rfl (lv_at hl 2 rfl) ?_
          exact W.iret hx hb hr (fun t ht hW => ⟨⟨_, (mo1, enc co gu kn fo sp ki pl ea to qu, fd), rfl, (by unfold sTellsA; rw [iF_t c_1b, hi1, seek_t (by omega) (show pTells (co, gu, kn, fo, sp, ki, pl, ea, to, qu) x0 (j + 1) from c_10b)]; exact end_ok (by omega) _), by dsimp only; rw [ht]; exact hP⟩, hS.F ht⟩) hS.2.2 dX6_tells_75
        · skip
          have c_13n := mt (cmp_le (a := (j + 1)) (b := 100) rfl rfl (by omega) (by omega)).mpr c_13
          exfalso; omega
      · skip
        have c_10b := bI_0 c_10
        refine lv_aload_n hx hb dX6_tells_40 rfl (lv_at hl 0 rfl) ?_
        refine callMv (va_runV (As := []) (rest := []) ⟨hx, hb, hml, hown, hts⟩ (k_X6_oneCourse l D cI cL cS b (sCo (sPass j (co, gu, kn, fo, sp, ki, pl, ea, to, qu))) (sGu (sPass j (co, gu, kn, fo, sp, ki, pl, ea, to, qu))) (sKn (sPass j (co, gu, kn, fo, sp, ki, pl, ea, to, qu))) (sFo (sPass j (co, gu, kn, fo, sp, ki, pl, ea, to, qu))) (sSp (sPass j (co, gu, kn, fo, sp, ki, pl, ea, to, qu))) (sKi (sPass j (co, gu, kn, fo, sp, ki, pl, ea, to, qu))) (sPl (sPass j (co, gu, kn, fo, sp, ki, pl, ea, to, qu))) (sEa (sPass j (co, gu, kn, fo, sp, ki, pl, ea, to, qu))) (sTo (sPass j (co, gu, kn, fo, sp, ki, pl, ea, to, qu))) (sQu (sPass j (co, gu, kn, fo, sp, ki, pl, ea, to, qu))) fd mo1 (enc co gu kn fo sp ki pl ea to qu) b1 tp tm so bg te wd va gd bo sz sh le im bf ik (va_DT (hD _ rfl) rfl) ((okS_pass (σ := (co, gu, kn, fo, sp, ki, pl, ea, to, qu)) ⟨ok, oe⟩ j).1.cC) ((okS_pass (σ := (co, gu, kn, fo, sp, ki, pl, ea, to, qu)) ⟨ok, oe⟩ j).2)) (cwV 0 hts gX6_tells_X6_oneCourse rfl rfl rfl (by decide +kernel) ⟨Nat.le_of_ble_eq_true rfl, Nat.le_of_ble_eq_true rfl⟩) ⟨PcR_fb, va_recv hK hP (ci := 4) (q0 := 0) rfl rfl, PcR_pre hP hK⟩ rfl rfl hl.1 rfl (lv_room (Nat.le_of_ble_eq_true rfl)) dX6_tells_41 ⟨Nat.zero_le _, Nat.zero_le _⟩) hP (hD _ rfl) hS 0 13 rfl (fun u_14 H locs hu_14 hP hS => ?_)
        obtain ⟨mo_16, rfl⟩ : ∃ z, z = u_14 := ⟨_, rfl⟩
        have hP : va_P D vwCl (mdw cI cL b (enc ((sCo (sPass j (co, gu, kn, fo, sp, ki, pl, ea, to, qu))) + 1) (sGu (sPass j (co, gu, kn, fo, sp, ki, pl, ea, to, qu))) (sKn (sPass j (co, gu, kn, fo, sp, ki, pl, ea, to, qu))) (sFo (sPass j (co, gu, kn, fo, sp, ki, pl, ea, to, qu))) (sSp (sPass j (co, gu, kn, fo, sp, ki, pl, ea, to, qu))) (sKi (sPass j (co, gu, kn, fo, sp, ki, pl, ea, to, qu))) (sPl (sPass j (co, gu, kn, fo, sp, ki, pl, ea, to, qu))) (cEa (sGu (sPass j (co, gu, kn, fo, sp, ki, pl, ea, to, qu))) (sKn (sPass j (co, gu, kn, fo, sp, ki, pl, ea, to, qu))) (sFo (sPass j (co, gu, kn, fo, sp, ki, pl, ea, to, qu))) (sSp (sPass j (co, gu, kn, fo, sp, ki, pl, ea, to, qu))) (sKi (sPass j (co, gu, kn, fo, sp, ki, pl, ea, to, qu))) (sPl (sPass j (co, gu, kn, fo, sp, ki, pl, ea, to, qu))) (sEa (sPass j (co, gu, kn, fo, sp, ki, pl, ea, to, qu)))) (cTo (sGu (sPass j (co, gu, kn, fo, sp, ki, pl, ea, to, qu))) (sSp (sPass j (co, gu, kn, fo, sp, ki, pl, ea, to, qu))) (sKi (sPass j (co, gu, kn, fo, sp, ki, pl, ea, to, qu))) (sPl (sPass j (co, gu, kn, fo, sp, ki, pl, ea, to, qu))) (sEa (sPass j (co, gu, kn, fo, sp, ki, pl, ea, to, qu))) (sTo (sPass j (co, gu, kn, fo, sp, ki, pl, ea, to, qu)))) (cQu (sGu (sPass j (co, gu, kn, fo, sp, ki, pl, ea, to, qu))) (sKi (sPass j (co, gu, kn, fo, sp, ki, pl, ea, to, qu))) (sPl (sPass j (co, gu, kn, fo, sp, ki, pl, ea, to, qu))) (cEa (sGu (sPass j (co, gu, kn, fo, sp, ki, pl, ea, to, qu))) (sKn (sPass j (co, gu, kn, fo, sp, ki, pl, ea, to, qu))) (sFo (sPass j (co, gu, kn, fo, sp, ki, pl, ea, to, qu))) (sSp (sPass j (co, gu, kn, fo, sp, ki, pl, ea, to, qu))) (sKi (sPass j (co, gu, kn, fo, sp, ki, pl, ea, to, qu))) (sPl (sPass j (co, gu, kn, fo, sp, ki, pl, ea, to, qu))) (sEa (sPass j (co, gu, kn, fo, sp, ki, pl, ea, to, qu)))) (sQu (sPass j (co, gu, kn, fo, sp, ki, pl, ea, to, qu))))) fd mo_16 (enc co gu kn fo sp ki pl ea to qu) b1 tp tm so bg te wd va gd bo sz sh le im bf ik) H := hP
        refine lv_iinc (v := nI ((j + 1) + 1)) (lv' := [(2, .int (nI ((j + 1) + 1))), (0, .ref (b 0)), (1, .int x0)]) hx hb dX6_tells_44 hl (k := 2) rfl (nI_1 _) (by decide) rfl (fun ls hl => ?_)
        refine lv_goto (tgt := 26) hx hb dX6_tells_47 (by decide) ?_
        have hP : va_P D vwCl (mdw cI cL b (enc (sCo (sPass (j + 1) (co, gu, kn, fo, sp, ki, pl, ea, to, qu))) (sGu (sPass (j + 1) (co, gu, kn, fo, sp, ki, pl, ea, to, qu))) (sKn (sPass (j + 1) (co, gu, kn, fo, sp, ki, pl, ea, to, qu))) (sFo (sPass (j + 1) (co, gu, kn, fo, sp, ki, pl, ea, to, qu))) (sSp (sPass (j + 1) (co, gu, kn, fo, sp, ki, pl, ea, to, qu))) (sKi (sPass (j + 1) (co, gu, kn, fo, sp, ki, pl, ea, to, qu))) (sPl (sPass (j + 1) (co, gu, kn, fo, sp, ki, pl, ea, to, qu))) (sEa (sPass (j + 1) (co, gu, kn, fo, sp, ki, pl, ea, to, qu))) (sTo (sPass (j + 1) (co, gu, kn, fo, sp, ki, pl, ea, to, qu))) (sQu (sPass (j + 1) (co, gu, kn, fo, sp, ki, pl, ea, to, qu)))) fd mo_16 (enc co gu kn fo sp ki pl ea to qu) b1 tp tm so bg te wd va gd bo sz sh le im bf ik) H := by exact hP
        exact ih (n - 1) (by omega) ((j + 1, mo_16)) H locs ls ⟨by omega, by rw [hi1]; exact seek_f (by omega) (show ¬ pTells (co, gu, kn, fo, sp, ki, pl, ea, to, qu) x0 (j + 1) from c_10b), hP, hS, lv_sub hl [1, 2, 0] rfl⟩
  · skip
    have c_1b := bI_0 c_1
    refine lv_aload_n hx hb dX6_tells_8 rfl (lv_at hl 0 rfl) ?_
    refine lv_ldc hx hb hown k47 dX6_tells_9 ?_
    refine callMi (va_runV (As := [.int (-1000000001)]) (rest := []) ⟨hx, hb, hml, hown, hts⟩ (k_X6_finds l D cI cL cS b co gu kn fo sp ki pl ea to qu fd mo tr b1 tp tm so bg te wd va gd bo sz sh le im bf ik (-1000000001) (va_DT (hD _ rfl) rfl) (vp_in_iff.mpr (by decide))) (cwV 1 hts gX6_tells_X6_finds rfl rfl rfl (by decide +kernel) ⟨Nat.le_of_ble_eq_true rfl, Nat.le_of_ble_eq_true rfl⟩) ⟨PcR_fb, va_recv hK hP (ci := 4) (q0 := 0) rfl rfl, PcR_pre hP hK⟩ rfl rfl hl.1 rfl (lv_room (Nat.le_of_ble_eq_true rfl)) dX6_tells_11 ⟨Nat.zero_le _, Nat.zero_le _⟩) hP (hD _ rfl) hS 0 13 rfl (fun r_18 u_17 H locs hu_17 hP hS => ?_)
    obtain ⟨hu_17r, hu_17⟩ := hu_17
    subst hu_17r
    have hP : va_P D vwCl (mdw cI cL b (enc co gu kn fo sp ki pl ea to qu) (bump fd (-1000000001)) mo tr b1 tp tm so bg te wd va gd bo sz sh le im bf ik) H := hP
    exact W.iret hx hb hr (fun t ht hW => ⟨⟨_, (mo, tr, bump fd (-1000000001)), rfl, (by exact (iF_f c_1b).symm), by dsimp only; rw [ht]; exact hP⟩, hS.F ht⟩) hS.2.2 dX6_tells_14

set_option maxRecDepth 100000 in
set_option maxHeartbeats 4000000 in
theorem k_X6_quarrels (l : Launch) (D : va_G) (cI cL cS : ClassId) (b : Nat → Nat) (co gu : Int32) (kn fo sp ki pl ea to qu : FI) (fd : FI) (mo : FI) (tr : FI) (b1 : FI) (tp : FI) (tm : Int32) (so : Int32) (bg : Int32) (te : Int32) (wd : Int64) (va : Int32) (gd : Int32) (bo : FI) (sz : FI) (sh : FJ) (le : FJ) (im : FI) (bf : FI) (ik : Int32) (x0 : Int32) (dj : va_D (fun _ => True) (dj0 b 13)) (ok : okT gu kn fo sp (whC gu pl) ki pl) (oe : okE ea to qu) : Met l yX6_quarrels wsX6_quarrels { frames := 6, cells := 0, slots := 0, locals := 138 } (PcR D vwCl (tyG cI cL cS) [.ref (b 0), .int x0] (mdw cI cL b (enc co gu kn fo sp ki pl ea to qu) fd mo tr b1 tp tm so bg te wd va gd bo sz sh le im bf ik)) (va_Qi (fun (r : Int32) (u : FI × FI × FI) => (r, u.2.2) = sQuar (co, gu, kn, fo, sp, ki, pl, ea, to, qu) fd x0) (fun u t => va_P D vwCl (mdw cI cL b (enc co gu kn fo sp ki pl ea to qu) u.2.2 u.1 u.2.1 b1 tp tm so bg te wd va gd bo sz sh le im bf ik) t.heap) (Aof (mdw cI cL b (enc co gu kn fo sp ki pl ea to qu) fd mo tr b1 tp tm so bg te wd va gd bo sz sh le im bf ik))) 0 0 (Aof (mdw cI cL b (enc co gu kn fo sp ki pl ea to qu) fd mo tr b1 tp tm so bg te wd va gd bo sz sh le im bf ik)) := by
  refine Met.ofW (cc := cX6_quarrels) (maxL := 4) (ret := (some .int)) (by decide) rfl ?_
  intro p e s m args below meth c s₁ B hml hv
  obtain ⟨rfl, hP, hK⟩ := hv
  have hx := B.exec
  have hb := B.bytes
  have hr := B.returns
  have hts := atoms_spec (ws := wsX6_quarrels) B.pre
  have hown : s.vm.findClass RX6 = some m.cls := findClass_of_methodNamed B.named
  have hlocks := B.notSynchronized
  obtain ⟨A, hAe⟩ : ∃ A, A = Aof (mdw cI cL b (enc co gu kn fo sp ki pl ea to qu) fd mo tr b1 tp tm so bg te wd va gd bo sz sh le im bf ik) := ⟨_, rfl⟩
  rw [← hAe]
  have hD : ∀ ws' : va_W, ws'.map Prod.fst = (mdw cI cL b (enc co gu kn fo sp ki pl ea to qu) fd mo tr b1 tp tm so bg te wd va gd bo sz sh le im bf ik).map Prod.fst → va_D A ws' := fun ws' e => by rw [hAe]; exact va_D_adr (va_D_self (va_D_adr dj rfl)) e
  have hS : va_S A s.heap s.heap [] := va_S.rf
  have hP : va_P D vwCl (mdw cI cL b (enc co gu kn fo sp ki pl ea to qu) fd mo tr b1 tp tm so bg te wd va gd bo sz sh le im bf ik) s.heap := hP
  have hl := lv_entry ([.ref (b 0), .int x0]) (n := 4) (Nat.le_of_ble_eq_true rfl)
  rw [lg_entry_eq]
  generalize (lg_sl ([.ref (b 0), .int x0]) ++ List.replicate (4 - (lg_sl ([.ref (b 0), .int x0])).length) Slot.unset).toArray = ls at hl ⊢
  have hl : lv_has ls 4 [(0, .ref (b 0)), (1, .int x0)] := hl
  have f19 := hts (.fieldLink RX6 19 "KnivesLaidModel" "tried" "[I") (List.mem_of_getElem? (i := 2) rfl)
  have inX6 : ∀ w ∈ u_ws RX6 TX6 20, w ∈ wsX6_quarrels := in_at 93 _ _ rfl
  have k156 := hts (.constant RX6 156 (-1000000004)) (List.mem_of_getElem? (i := 3) rfl)
  have k47 := hts (.constant RX6 47 (-1000000001)) (List.mem_of_getElem? (i := 1) rfl)
  skip
  refine lv_aload_n hx hb dX6_quarrels_0 rfl (lv_at hl 0 rfl) ?_
  refine lv_iload_n hx hb dX6_quarrels_1 rfl (lv_at hl 1 rfl) ?_
  refine callE (W.runV (As := [.int x0]) (rest := []) ⟨hx, hb, hml, hown, hts⟩ (k_X6_isOne l D cI cL cS b co gu kn fo sp ki pl ea to qu fd mo tr b1 tp tm so bg te wd va gd bo sz sh le im bf ik x0 ok.gu) (cwV 1 hts gX6_quarrels_X6_isOne rfl rfl rfl (by decide +kernel) ⟨Nat.le_of_ble_eq_true rfl, Nat.le_of_ble_eq_true rfl⟩) ⟨PcR_fb, va_recv hK hP (ci := 4) (q0 := 0) rfl rfl, PcR_pre hP hK⟩ rfl rfl hl.1 rfl (lv_room (Nat.le_of_ble_eq_true rfl)) dX6_quarrels_2 ⟨Nat.zero_le _, Nat.zero_le _⟩) ?_
  refine lv_if_ne (tgt := 15) hx hb dX6_quarrels_5 (by decide) (fun c_1 => ?_) (fun c_1 => ?_)
  · skip
    have c_1b := bI_n c_1
    have h8 : vp_in x0 8 := in_8 ok.gu c_1b
    refine lv_aload_n hx hb dX6_quarrels_15 rfl (lv_at hl 0 rfl) ?_
    refine lv_iconst (v := 1) hx hb dX6_quarrels_16 (by decide) ?_
    refine lv_aload_n hx hb dX6_quarrels_17 rfl (lv_at hl 0 rfl) ?_
    refine va_get (ci := 4) (v := .ref (b 4)) (C := RX6) (T := TX6) (N := 20) hx hb hts inX6 hown hK hP 0 rfl rfl 3 (by decide) f19 (fun _ h9 => h9) rfl dX6_quarrels_18 ?_
    refine callMv (va_runV (As := [.int 1, .ref (b 4)]) (rest := []) ⟨hx, hb, hml, hown, hts⟩ (k_X6_moveAll_tr1 l D cI cL cS b co gu kn fo sp ki pl ea to qu fd mo tr b1 tp tm so bg te wd va gd bo sz sh le im bf ik (va_DT (hD _ rfl) rfl)) (cwV 2 hts gX6_quarrels_X6_moveAll rfl rfl rfl (by decide +kernel) ⟨Nat.le_of_ble_eq_true rfl, Nat.le_of_ble_eq_true rfl⟩) ⟨PcR_fb, va_recv hK hP (ci := 4) (q0 := 0) rfl rfl, PcR_pre hP hK⟩ rfl rfl hl.1 rfl (lv_room (Nat.le_of_ble_eq_true rfl)) dX6_quarrels_21 ⟨Nat.zero_le _, Nat.zero_le _⟩) hP (hD _ rfl) hS 0 13 rfl (fun u_2 H locs hu_2 hP hS => ?_)
    have hP : va_P D vwCl (mdw cI cL b (enc co gu kn fo sp ki pl ea to qu) fd mo (enc co gu kn fo sp ki pl ea to qu) b1 tp tm so bg te wd va gd bo sz sh le im bf ik) H := hP
    refine lv_aload_n hx hb dX6_quarrels_24 rfl (lv_at hl 0 rfl) ?_
    refine lv_iload_n hx hb dX6_quarrels_25 rfl (lv_at hl 1 rfl) ?_
    refine lv_iconst (v := 4) hx hb dX6_quarrels_26 (by decide) ?_
    refine callE (W.runV (As := [.int x0, .int 4]) (rest := []) ⟨hx, hb, hml, hown, hts⟩ (k_X6_its4 l D cI cL cS b co gu kn fo sp ki pl ea to qu fd mo (enc co gu kn fo sp ki pl ea to qu) b1 tp tm so bg te wd va gd bo sz sh le im bf ik x0 (by assumption)) (cwV 2 hts gX6_quarrels_X6_its rfl rfl rfl (by decide +kernel) ⟨Nat.le_of_ble_eq_true rfl, Nat.le_of_ble_eq_true rfl⟩) ⟨PcR_fb, va_recv hK hP (ci := 4) (q0 := 0) rfl rfl, PcR_pre hP hK⟩ rfl rfl hl.1 rfl (lv_room (Nat.le_of_ble_eq_true rfl)) dX6_quarrels_27 ⟨Nat.zero_le _, Nat.zero_le _⟩) ?_
    refine lv_istore_n (lv' := [(2, .int (qu (ix x0))), (0, .ref (b 0)), (1, .int x0)]) hx hb dX6_quarrels_30 rfl hl (by decide) rfl (fun ls hl => ?_)
    have hP : va_P D vwCl (mdw cI cL b (enc (sCo (sPass 0 (co, gu, kn, fo, sp, ki, pl, ea, to, qu))) (sGu (sPass 0 (co, gu, kn, fo, sp, ki, pl, ea, to, qu))) (sKn (sPass 0 (co, gu, kn, fo, sp, ki, pl, ea, to, qu))) (sFo (sPass 0 (co, gu, kn, fo, sp, ki, pl, ea, to, qu))) (sSp (sPass 0 (co, gu, kn, fo, sp, ki, pl, ea, to, qu))) (sKi (sPass 0 (co, gu, kn, fo, sp, ki, pl, ea, to, qu))) (sPl (sPass 0 (co, gu, kn, fo, sp, ki, pl, ea, to, qu))) (sEa (sPass 0 (co, gu, kn, fo, sp, ki, pl, ea, to, qu))) (sTo (sPass 0 (co, gu, kn, fo, sp, ki, pl, ea, to, qu))) (sQu (sPass 0 (co, gu, kn, fo, sp, ki, pl, ea, to, qu)))) fd mo (enc co gu kn fo sp ki pl ea to qu) b1 tp tm so bg te wd va gd bo sz sh le im bf ik) H := by exact hP
    refine lv_iconst (v := 0) hx hb dX6_quarrels_31 (by decide) ?_
    refine lv_istore_n (lv' := [(3, .int 0), (2, .int (qu (ix x0))), (0, .ref (b 0)), (1, .int x0)]) hx hb dX6_quarrels_32 rfl hl (by decide) rfl (fun ls hl => ?_)
    refine lpW (fun n (u : Nat × FI) H locs ls => (u.1 + n = 101) ∧ (sSeek (pQuar (co, gu, kn, fo, sp, ki, pl, ea, to, qu) x0) 0 101 = sSeek (pQuar (co, gu, kn, fo, sp, ki, pl, ea, to, qu) x0) u.1 n) ∧ va_P D vwCl (mdw cI cL b (enc (sCo (sPass u.1 (co, gu, kn, fo, sp, ki, pl, ea, to, qu))) (sGu (sPass u.1 (co, gu, kn, fo, sp, ki, pl, ea, to, qu))) (sKn (sPass u.1 (co, gu, kn, fo, sp, ki, pl, ea, to, qu))) (sFo (sPass u.1 (co, gu, kn, fo, sp, ki, pl, ea, to, qu))) (sSp (sPass u.1 (co, gu, kn, fo, sp, ki, pl, ea, to, qu))) (sKi (sPass u.1 (co, gu, kn, fo, sp, ki, pl, ea, to, qu))) (sPl (sPass u.1 (co, gu, kn, fo, sp, ki, pl, ea, to, qu))) (sEa (sPass u.1 (co, gu, kn, fo, sp, ki, pl, ea, to, qu))) (sTo (sPass u.1 (co, gu, kn, fo, sp, ki, pl, ea, to, qu))) (sQu (sPass u.1 (co, gu, kn, fo, sp, ki, pl, ea, to, qu)))) fd u.2 (enc co gu kn fo sp ki pl ea to qu) b1 tp tm so bg te wd va gd bo sz sh le im bf ik) H ∧ va_S A s.heap H locs ∧ lv_has ls 4 [(0, .ref (b 0)), (1, .int x0), (2, .int (qu (ix x0))), (3, .int (nI u.1))]) (101) ((0, mo)) ⟨by omega, rfl, hP, hS, lv_sub hl [2, 3, 1, 0] rfl⟩ (fun n ih u H locs ls hI => ?_)
    obtain ⟨j, mo1⟩ := u
    obtain ⟨hi0, hi1, hP, hS, hl⟩ := hI
    have hi0 : j + n = 101 := hi0
    have hi1 : sSeek (pQuar (co, gu, kn, fo, sp, ki, pl, ea, to, qu) x0) 0 101 = sSeek (pQuar (co, gu, kn, fo, sp, ki, pl, ea, to, qu) x0) j n := hi1
    have hl : lv_has ls 4 [(0, .ref (b 0)), (1, .int x0), (2, .int (qu (ix x0))), (3, .int (nI j))] := hl
    have hP : va_P D vwCl (mdw cI cL b (enc (sCo (sPass j (co, gu, kn, fo, sp, ki, pl, ea, to, qu))) (sGu (sPass j (co, gu, kn, fo, sp, ki, pl, ea, to, qu))) (sKn (sPass j (co, gu, kn, fo, sp, ki, pl, ea, to, qu))) (sFo (sPass j (co, gu, kn, fo, sp, ki, pl, ea, to, qu))) (sSp (sPass j (co, gu, kn, fo, sp, ki, pl, ea, to, qu))) (sKi (sPass j (co, gu, kn, fo, sp, ki, pl, ea, to, qu))) (sPl (sPass j (co, gu, kn, fo, sp, ki, pl, ea, to, qu))) (sEa (sPass j (co, gu, kn, fo, sp, ki, pl, ea, to, qu))) (sTo (sPass j (co, gu, kn, fo, sp, ki, pl, ea, to, qu))) (sQu (sPass j (co, gu, kn, fo, sp, ki, pl, ea, to, qu)))) fd mo1 (enc co gu kn fo sp ki pl ea to qu) b1 tp tm so bg te wd va gd bo sz sh le im bf ik) H := hP
    refine lv_iload_n hx hb dX6_quarrels_33 rfl (lv_at hl 3 rfl) ?_
    refine lv_bipush (v := 100) hx hb dX6_quarrels_34 (by decide) ?_
    refine lv_icmp_gt (tgt := 59) hx hb dX6_quarrels_36 (by decide) (fun c_4 => ?_) (fun c_4 => ?_)
    · skip
      have c_4n := (cmp_lt (a := 100) (b := j) rfl rfl (by omega) (by omega)).mp c_4
      refine lv_aload_n hx hb dX6_quarrels_59 rfl (lv_at hl 0 rfl) ?_
      refine lv_iconst (v := 0) hx hb dX6_quarrels_60 (by decide) ?_
      refine lv_aload_n hx hb dX6_quarrels_61 rfl (lv_at hl 0 rfl) ?_
      refine va_get (ci := 4) (v := .ref (b 4)) (C := RX6) (T := TX6) (N := 20) hx hb hts inX6 hown hK hP 0 rfl rfl 3 (by decide) f19 (fun _ h9 => h9) rfl dX6_quarrels_62 ?_
      refine callMv (va_runV (As := [.int 0, .ref (b 4)]) (rest := []) ⟨hx, hb, hml, hown, hts⟩ (k_X6_moveAll_tr0 l D cI cL cS b (sCo (sPass j (co, gu, kn, fo, sp, ki, pl, ea, to, qu))) (sGu (sPass j (co, gu, kn, fo, sp, ki, pl, ea, to, qu))) (sKn (sPass j (co, gu, kn, fo, sp, ki, pl, ea, to, qu))) (sFo (sPass j (co, gu, kn, fo, sp, ki, pl, ea, to, qu))) (sSp (sPass j (co, gu, kn, fo, sp, ki, pl, ea, to, qu))) (sKi (sPass j (co, gu, kn, fo, sp, ki, pl, ea, to, qu))) (sPl (sPass j (co, gu, kn, fo, sp, ki, pl, ea, to, qu))) (sEa (sPass j (co, gu, kn, fo, sp, ki, pl, ea, to, qu))) (sTo (sPass j (co, gu, kn, fo, sp, ki, pl, ea, to, qu))) (sQu (sPass j (co, gu, kn, fo, sp, ki, pl, ea, to, qu))) fd mo1 b1 tp tm so bg te wd va gd bo sz sh le im bf ik co gu kn fo sp ki pl ea to qu (va_DT (hD _ rfl) rfl)) (cwV 2 hts gX6_quarrels_X6_moveAll rfl rfl rfl (by decide +kernel) ⟨Nat.le_of_ble_eq_true rfl, Nat.le_of_ble_eq_true rfl⟩) ⟨PcR_fb, va_recv hK hP (ci := 4) (q0 := 0) rfl rfl, PcR_pre hP hK⟩ rfl rfl hl.1 rfl (lv_room (Nat.le_of_ble_eq_true rfl)) dX6_quarrels_65 ⟨Nat.zero_le _, Nat.zero_le _⟩) hP (hD _ rfl) hS 0 13 rfl (fun u_5 H locs hu_5 hP hS => ?_)
      have hP : va_P D vwCl (mdw cI cL b (enc co gu kn fo sp ki pl ea to qu) fd mo1 (enc co gu kn fo sp ki pl ea to qu) b1 tp tm so bg te wd va gd bo sz sh le im bf ik) H := hP
      refine lv_iload_n hx hb dX6_quarrels_68 rfl (lv_at hl 3 rfl) ?_
      refine lv_bipush (v := 100) hx hb dX6_quarrels_69 (by decide) ?_
      refine lv_icmp_le (tgt := 83) hx hb dX6_quarrels_71 (by decide) (fun c_7 => ?_) (fun c_7 => ?_)
      · skip
        have c_7n := (cmp_le (a := j) (b := 100) rfl rfl (by omega) (by omega)).mp c_7
        exfalso; omega
      · skip
        have c_7n := mt (cmp_le (a := j) (b := 100) rfl rfl (by omega) (by omega)).mpr c_7
        refine lv_aload_n hx hb dX6_quarrels_74 rfl (lv_at hl 0 rfl) ?_
        refine lv_ldc hx hb hown k156 dX6_quarrels_75 ?_
        refine callMi (va_runV (As := [.int (-1000000004)]) (rest := []) ⟨hx, hb, hml, hown, hts⟩ (k_X6_finds l D cI cL cS b co gu kn fo sp ki pl ea to qu fd mo1 (enc co gu kn fo sp ki pl ea to qu) b1 tp tm so bg te wd va gd bo sz sh le im bf ik (-1000000004) (va_DT (hD _ rfl) rfl) (vp_in_iff.mpr (by decide))) (cwV 1 hts gX6_quarrels_X6_finds rfl rfl rfl (by decide +kernel) ⟨Nat.le_of_ble_eq_true rfl, Nat.le_of_ble_eq_true rfl⟩) ⟨PcR_fb, va_recv hK hP (ci := 4) (q0 := 0) rfl rfl, PcR_pre hP hK⟩ rfl rfl hl.1 rfl (lv_room (Nat.le_of_ble_eq_true rfl)) dX6_quarrels_77 ⟨Nat.zero_le _, Nat.zero_le _⟩) hP (hD _ rfl) hS 0 13 rfl (fun r_9 u_8 H locs hu_8 hP hS => ?_)
        obtain ⟨hu_8r, hu_8⟩ := hu_8
        subst hu_8r
        have hP : va_P D vwCl (mdw cI cL b (enc co gu kn fo sp ki pl ea to qu) (bump fd (-1000000004)) mo1 (enc co gu kn fo sp ki pl ea to qu) b1 tp tm so bg te wd va gd bo sz sh le im bf ik) H := hP
        refine lv_goto (tgt := 84) hx hb dX6_quarrels_80 (by decide) ?_
        exact W.iret hx hb hr (fun t ht hW => ⟨⟨_, (mo1, enc co gu kn fo sp ki pl ea to qu, bump fd (-1000000004)), rfl, (by unfold sQuar; rw [iF_t c_1b, ← seek_f (P := pQuar (co, gu, kn, fo, sp, ki, pl, ea, to, qu) x0) (a := 0) (n := 101) (by decide) (fun h => h rfl), hi1, show n = 0 by omega]; exact end_no _), by dsimp only; rw [ht]; exact hP⟩, hS.F ht⟩) hS.2.2 dX6_quarrels_84
    · skip
      have c_4n := mt (cmp_lt (a := 100) (b := j) rfl rfl (by omega) (by omega)).mpr c_4
      refine lv_aload_n hx hb dX6_quarrels_39 rfl (lv_at hl 0 rfl) ?_
      refine lv_iload_n hx hb dX6_quarrels_40 rfl (lv_at hl 1 rfl) ?_
      refine lv_iconst (v := 4) hx hb dX6_quarrels_41 (by decide) ?_
      refine callE (W.runV (As := [.int x0, .int 4]) (rest := []) ⟨hx, hb, hml, hown, hts⟩ (k_X6_its4 l D cI cL cS b (sCo (sPass j (co, gu, kn, fo, sp, ki, pl, ea, to, qu))) (sGu (sPass j (co, gu, kn, fo, sp, ki, pl, ea, to, qu))) (sKn (sPass j (co, gu, kn, fo, sp, ki, pl, ea, to, qu))) (sFo (sPass j (co, gu, kn, fo, sp, ki, pl, ea, to, qu))) (sSp (sPass j (co, gu, kn, fo, sp, ki, pl, ea, to, qu))) (sKi (sPass j (co, gu, kn, fo, sp, ki, pl, ea, to, qu))) (sPl (sPass j (co, gu, kn, fo, sp, ki, pl, ea, to, qu))) (sEa (sPass j (co, gu, kn, fo, sp, ki, pl, ea, to, qu))) (sTo (sPass j (co, gu, kn, fo, sp, ki, pl, ea, to, qu))) (sQu (sPass j (co, gu, kn, fo, sp, ki, pl, ea, to, qu))) fd mo1 (enc co gu kn fo sp ki pl ea to qu) b1 tp tm so bg te wd va gd bo sz sh le im bf ik x0 (by assumption)) (cwV 2 hts gX6_quarrels_X6_its rfl rfl rfl (by decide +kernel) ⟨Nat.le_of_ble_eq_true rfl, Nat.le_of_ble_eq_true rfl⟩) ⟨PcR_fb, va_recv hK hP (ci := 4) (q0 := 0) rfl rfl, PcR_pre hP hK⟩ rfl rfl hl.1 rfl (lv_room (Nat.le_of_ble_eq_true rfl)) dX6_quarrels_42 ⟨Nat.zero_le _, Nat.zero_le _⟩) ?_
      refine lv_iload_n hx hb dX6_quarrels_45 rfl (lv_at hl 2 rfl) ?_
      refine lv_icmp_ne (tgt := 59) hx hb dX6_quarrels_46 (by decide) (fun c_10 => ?_) (fun c_10 => ?_)
      · skip
        refine lv_aload_n hx hb dX6_quarrels_59 rfl (lv_at hl 0 rfl) ?_
        refine lv_iconst (v := 0) hx hb dX6_quarrels_60 (by decide) ?_
        refine lv_aload_n hx hb dX6_quarrels_61 rfl (lv_at hl 0 rfl) ?_
        refine va_get (ci := 4) (v := .ref (b 4)) (C := RX6) (T := TX6) (N := 20) hx hb hts inX6 hown hK hP 0 rfl rfl 3 (by decide) f19 (fun _ h9 => h9) rfl dX6_quarrels_62 ?_
        refine callMv (va_runV (As := [.int 0, .ref (b 4)]) (rest := []) ⟨hx, hb, hml, hown, hts⟩ (k_X6_moveAll_tr0 l D cI cL cS b (sCo (sPass j (co, gu, kn, fo, sp, ki, pl, ea, to, qu))) (sGu (sPass j (co, gu, kn, fo, sp, ki, pl, ea, to, qu))) (sKn (sPass j (co, gu, kn, fo, sp, ki, pl, ea, to, qu))) (sFo (sPass j (co, gu, kn, fo, sp, ki, pl, ea, to, qu))) (sSp (sPass j (co, gu, kn, fo, sp, ki, pl, ea, to, qu))) (sKi (sPass j (co, gu, kn, fo, sp, ki, pl, ea, to, qu))) (sPl (sPass j (co, gu, kn, fo, sp, ki, pl, ea, to, qu))) (sEa (sPass j (co, gu, kn, fo, sp, ki, pl, ea, to, qu))) (sTo (sPass j (co, gu, kn, fo, sp, ki, pl, ea, to, qu))) (sQu (sPass j (co, gu, kn, fo, sp, ki, pl, ea, to, qu))) fd mo1 b1 tp tm so bg te wd va gd bo sz sh le im bf ik co gu kn fo sp ki pl ea to qu (va_DT (hD _ rfl) rfl)) (cwV 2 hts gX6_quarrels_X6_moveAll rfl rfl rfl (by decide +kernel) ⟨Nat.le_of_ble_eq_true rfl, Nat.le_of_ble_eq_true rfl⟩) ⟨PcR_fb, va_recv hK hP (ci := 4) (q0 := 0) rfl rfl, PcR_pre hP hK⟩ rfl rfl hl.1 rfl (lv_room (Nat.le_of_ble_eq_true rfl)) dX6_quarrels_65 ⟨Nat.zero_le _, Nat.zero_le _⟩) hP (hD _ rfl) hS 0 13 rfl (fun u_11 H locs hu_11 hP hS => ?_)
        have hP : va_P D vwCl (mdw cI cL b (enc co gu kn fo sp ki pl ea to qu) fd mo1 (enc co gu kn fo sp ki pl ea to qu) b1 tp tm so bg te wd va gd bo sz sh le im bf ik) H := hP
        refine lv_iload_n hx hb dX6_quarrels_68 rfl (lv_at hl 3 rfl) ?_
        refine lv_bipush (v := 100) hx hb dX6_quarrels_69 (by decide) ?_
        refine lv_icmp_le (tgt := 83) hx hb dX6_quarrels_71 (by decide) (fun c_13 => ?_) (fun c_13 => ?_)
        · skip
          have c_13n := (cmp_le (a := j) (b := 100) rfl rfl (by omega) (by omega)).mp c_13
          refine lv_iload_n hx hb dX6_quarrels_83 rfl (lv_at hl 3 rfl) ?_
          exact W.iret hx hb hr (fun t ht hW => ⟨⟨_, (mo1, enc co gu kn fo sp ki pl ea to qu, fd), rfl, (by unfold sQuar; rw [iF_t c_1b, ← seek_f (P := pQuar (co, gu, kn, fo, sp, ki, pl, ea, to, qu) x0) (a := 0) (n := 101) (by decide) (fun h => h rfl), hi1, seek_t (by omega) c_10]; exact end_ok (by omega) _), by dsimp only; rw [ht]; exact hP⟩, hS.F ht⟩) hS.2.2 dX6_quarrels_84
        · skip
          have c_13n := mt (cmp_le (a := j) (b := 100) rfl rfl (by omega) (by omega)).mpr c_13
          exfalso; omega
      · skip
        refine lv_aload_n hx hb dX6_quarrels_49 rfl (lv_at hl 0 rfl) ?_
        refine callMv (va_runV (As := []) (rest := []) ⟨hx, hb, hml, hown, hts⟩ (k_X6_oneCourse l D cI cL cS b (sCo (sPass j (co, gu, kn, fo, sp, ki, pl, ea, to, qu))) (sGu (sPass j (co, gu, kn, fo, sp, ki, pl, ea, to, qu))) (sKn (sPass j (co, gu, kn, fo, sp, ki, pl, ea, to, qu))) (sFo (sPass j (co, gu, kn, fo, sp, ki, pl, ea, to, qu))) (sSp (sPass j (co, gu, kn, fo, sp, ki, pl, ea, to, qu))) (sKi (sPass j (co, gu, kn, fo, sp, ki, pl, ea, to, qu))) (sPl (sPass j (co, gu, kn, fo, sp, ki, pl, ea, to, qu))) (sEa (sPass j (co, gu, kn, fo, sp, ki, pl, ea, to, qu))) (sTo (sPass j (co, gu, kn, fo, sp, ki, pl, ea, to, qu))) (sQu (sPass j (co, gu, kn, fo, sp, ki, pl, ea, to, qu))) fd mo1 (enc co gu kn fo sp ki pl ea to qu) b1 tp tm so bg te wd va gd bo sz sh le im bf ik (va_DT (hD _ rfl) rfl) ((okS_pass (σ := (co, gu, kn, fo, sp, ki, pl, ea, to, qu)) ⟨ok, oe⟩ j).1.cC) ((okS_pass (σ := (co, gu, kn, fo, sp, ki, pl, ea, to, qu)) ⟨ok, oe⟩ j).2)) (cwV 0 hts gX6_quarrels_X6_oneCourse rfl rfl rfl (by decide +kernel) ⟨Nat.le_of_ble_eq_true rfl, Nat.le_of_ble_eq_true rfl⟩) ⟨PcR_fb, va_recv hK hP (ci := 4) (q0 := 0) rfl rfl, PcR_pre hP hK⟩ rfl rfl hl.1 rfl (lv_room (Nat.le_of_ble_eq_true rfl)) dX6_quarrels_50 ⟨Nat.zero_le _, Nat.zero_le _⟩) hP (hD _ rfl) hS 0 13 rfl (fun u_14 H locs hu_14 hP hS => ?_)
        obtain ⟨mo_16, rfl⟩ : ∃ z, z = u_14 := ⟨_, rfl⟩
        have hP : va_P D vwCl (mdw cI cL b (enc ((sCo (sPass j (co, gu, kn, fo, sp, ki, pl, ea, to, qu))) + 1) (sGu (sPass j (co, gu, kn, fo, sp, ki, pl, ea, to, qu))) (sKn (sPass j (co, gu, kn, fo, sp, ki, pl, ea, to, qu))) (sFo (sPass j (co, gu, kn, fo, sp, ki, pl, ea, to, qu))) (sSp (sPass j (co, gu, kn, fo, sp, ki, pl, ea, to, qu))) (sKi (sPass j (co, gu, kn, fo, sp, ki, pl, ea, to, qu))) (sPl (sPass j (co, gu, kn, fo, sp, ki, pl, ea, to, qu))) (cEa (sGu (sPass j (co, gu, kn, fo, sp, ki, pl, ea, to, qu))) (sKn (sPass j (co, gu, kn, fo, sp, ki, pl, ea, to, qu))) (sFo (sPass j (co, gu, kn, fo, sp, ki, pl, ea, to, qu))) (sSp (sPass j (co, gu, kn, fo, sp, ki, pl, ea, to, qu))) (sKi (sPass j (co, gu, kn, fo, sp, ki, pl, ea, to, qu))) (sPl (sPass j (co, gu, kn, fo, sp, ki, pl, ea, to, qu))) (sEa (sPass j (co, gu, kn, fo, sp, ki, pl, ea, to, qu)))) (cTo (sGu (sPass j (co, gu, kn, fo, sp, ki, pl, ea, to, qu))) (sSp (sPass j (co, gu, kn, fo, sp, ki, pl, ea, to, qu))) (sKi (sPass j (co, gu, kn, fo, sp, ki, pl, ea, to, qu))) (sPl (sPass j (co, gu, kn, fo, sp, ki, pl, ea, to, qu))) (sEa (sPass j (co, gu, kn, fo, sp, ki, pl, ea, to, qu))) (sTo (sPass j (co, gu, kn, fo, sp, ki, pl, ea, to, qu)))) (cQu (sGu (sPass j (co, gu, kn, fo, sp, ki, pl, ea, to, qu))) (sKi (sPass j (co, gu, kn, fo, sp, ki, pl, ea, to, qu))) (sPl (sPass j (co, gu, kn, fo, sp, ki, pl, ea, to, qu))) (cEa (sGu (sPass j (co, gu, kn, fo, sp, ki, pl, ea, to, qu))) (sKn (sPass j (co, gu, kn, fo, sp, ki, pl, ea, to, qu))) (sFo (sPass j (co, gu, kn, fo, sp, ki, pl, ea, to, qu))) (sSp (sPass j (co, gu, kn, fo, sp, ki, pl, ea, to, qu))) (sKi (sPass j (co, gu, kn, fo, sp, ki, pl, ea, to, qu))) (sPl (sPass j (co, gu, kn, fo, sp, ki, pl, ea, to, qu))) (sEa (sPass j (co, gu, kn, fo, sp, ki, pl, ea, to, qu)))) (sQu (sPass j (co, gu, kn, fo, sp, ki, pl, ea, to, qu))))) fd mo_16 (enc co gu kn fo sp ki pl ea to qu) b1 tp tm so bg te wd va gd bo sz sh le im bf ik) H := hP
        refine lv_iinc (v := nI (j + 1)) (lv' := [(3, .int (nI (j + 1))), (0, .ref (b 0)), (1, .int x0), (2, .int (qu (ix x0)))]) hx hb dX6_quarrels_53 hl (k := 3) rfl (nI_1 _) (by decide) rfl (fun ls hl => ?_)
        refine lv_goto (tgt := 33) hx hb dX6_quarrels_56 (by decide) ?_
        have hP : va_P D vwCl (mdw cI cL b (enc (sCo (sPass (j + 1) (co, gu, kn, fo, sp, ki, pl, ea, to, qu))) (sGu (sPass (j + 1) (co, gu, kn, fo, sp, ki, pl, ea, to, qu))) (sKn (sPass (j + 1) (co, gu, kn, fo, sp, ki, pl, ea, to, qu))) (sFo (sPass (j + 1) (co, gu, kn, fo, sp, ki, pl, ea, to, qu))) (sSp (sPass (j + 1) (co, gu, kn, fo, sp, ki, pl, ea, to, qu))) (sKi (sPass (j + 1) (co, gu, kn, fo, sp, ki, pl, ea, to, qu))) (sPl (sPass (j + 1) (co, gu, kn, fo, sp, ki, pl, ea, to, qu))) (sEa (sPass (j + 1) (co, gu, kn, fo, sp, ki, pl, ea, to, qu))) (sTo (sPass (j + 1) (co, gu, kn, fo, sp, ki, pl, ea, to, qu))) (sQu (sPass (j + 1) (co, gu, kn, fo, sp, ki, pl, ea, to, qu)))) fd mo_16 (enc co gu kn fo sp ki pl ea to qu) b1 tp tm so bg te wd va gd bo sz sh le im bf ik) H := by exact hP
        exact ih (n - 1) (by omega) ((j + 1, mo_16)) H locs ls ⟨by omega, by rw [hi1]; exact seek_f (by omega) (fun h => h c_10), hP, hS, lv_sub hl [1, 2, 3, 0] rfl⟩
  · skip
    have c_1b := bI_0 c_1
    refine lv_aload_n hx hb dX6_quarrels_8 rfl (lv_at hl 0 rfl) ?_
    refine lv_ldc hx hb hown k47 dX6_quarrels_9 ?_
    refine callMi (va_runV (As := [.int (-1000000001)]) (rest := []) ⟨hx, hb, hml, hown, hts⟩ (k_X6_finds l D cI cL cS b co gu kn fo sp ki pl ea to qu fd mo tr b1 tp tm so bg te wd va gd bo sz sh le im bf ik (-1000000001) (va_DT (hD _ rfl) rfl) (vp_in_iff.mpr (by decide))) (cwV 1 hts gX6_quarrels_X6_finds rfl rfl rfl (by decide +kernel) ⟨Nat.le_of_ble_eq_true rfl, Nat.le_of_ble_eq_true rfl⟩) ⟨PcR_fb, va_recv hK hP (ci := 4) (q0 := 0) rfl rfl, PcR_pre hP hK⟩ rfl rfl hl.1 rfl (lv_room (Nat.le_of_ble_eq_true rfl)) dX6_quarrels_11 ⟨Nat.zero_le _, Nat.zero_le _⟩) hP (hD _ rfl) hS 0 13 rfl (fun r_18 u_17 H locs hu_17 hP hS => ?_)
    obtain ⟨hu_17r, hu_17⟩ := hu_17
    subst hu_17r
    have hP : va_P D vwCl (mdw cI cL b (enc co gu kn fo sp ki pl ea to qu) (bump fd (-1000000001)) mo tr b1 tp tm so bg te wd va gd bo sz sh le im bf ik) H := hP
    exact W.iret hx hb hr (fun t ht hW => ⟨⟨_, (mo, tr, bump fd (-1000000001)), rfl, (by exact (iF_f c_1b).symm), by dsimp only; rw [ht]; exact hP⟩, hS.F ht⟩) hS.2.2 dX6_quarrels_14
