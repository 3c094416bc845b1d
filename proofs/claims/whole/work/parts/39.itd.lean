set_option maxRecDepth 100000 in
set_option maxHeartbeats 4000000 in
theorem k_X0_tellLaying (l : Launch) (D : va_G) (cI cL cS : ClassId) (b : Nat → Nat → Nat) (s1 : Sg) (w1 m1 n1 : FI) (s2 : Sg) (w2 m2 n2 : FI) (s3 : Sg) (w3 m3 n3 : FI) (ik : Int32) (bt : FI) (ln tk sb en nm : Int32) (bits size : FI) (num : Nat → FJ) (fnd : FI) (ad av : Nat → Nat) (fm : Option Nat) (cu : Nat) (dj : va_D (fun _ => True) (djk b)) (o2 : okS s2 w2) (ol : vp_in ln 121) (hT : Tok bt (ix ln) cu tk sb en nm) : Met l yX0_tellLaying wsX0_tellLaying { frames := 6, cells := 0, slots := 0, locals := 128 } (PcQ ad av fm (Aof (kcw cI cL cS b s1 w1 m1 n1 s2 w2 m2 n2 s3 w3 m3 n3 ik bt ln tk sb en nm bits size num fnd)) D vwCl (tyG cI cL cS) [.ref (b 4 0), .ref (b 2 0)] (kcw cI cL cS b s1 w1 m1 n1 s2 w2 m2 n2 s3 w3 m3 n3 ik bt ln tk sb en nm bits size num fnd)) (va_Qi (fun (r : Int32) (u : Sg × FI × Int32 × Int32 × Int32 × Int32) => TI (tLay bt (ix ln) s2 (eN bt (ix ln) cu)) bt (ix ln) r u.1 u.2.1 u.2.2.1 u.2.2.2.1 u.2.2.2.2.1 u.2.2.2.2.2) (fun u t => va_P D vwCl (kcw cI cL cS b s1 w1 m1 n1 u.1 u.2.1 m2 n2 s3 w3 m3 n3 ik bt ln u.2.2.1 u.2.2.2.1 u.2.2.2.2.1 u.2.2.2.2.2 bits size num fnd) t.heap) (Aof (kcw cI cL cS b s1 w1 m1 n1 s2 w2 m2 n2 s3 w3 m3 n3 ik bt ln tk sb en nm bits size num fnd))) 0 0 (Aof (kcw cI cL cS b s1 w1 m1 n1 s2 w2 m2 n2 s3 w3 m3 n3 ik bt ln tk sb en nm bits size num fnd)) := by
  refine Met.ofW (cc := cX0_tellLaying) (maxL := 6) (ret := (some .boolean)) (by decide) rfl ?_
  intro p e s m args below meth c s₁ B hml hv
  obtain ⟨rfl, hv⟩ := hv
  obtain ⟨hP, hK, hZ⟩ := hv
  have hx := B.exec
  have hb := B.bytes
  have hr := B.returns
  have hts := atoms_spec (ws := wsX0_tellLaying) B.pre
  have hown : s.vm.findClass RX0 = some m.cls := findClass_of_methodNamed B.named
  have hlocks := B.notSynchronized
  obtain ⟨A, hAe⟩ : ∃ A, A = Aof (kcw cI cL cS b s1 w1 m1 n1 s2 w2 m2 n2 s3 w3 m3 n3 ik bt ln tk sb en nm bits size num fnd) := ⟨_, rfl⟩
  rw [← hAe]
  have hD : ∀ ws' : va_W, ws'.map Prod.fst = (kcw cI cL cS b s1 w1 m1 n1 s2 w2 m2 n2 s3 w3 m3 n3 ik bt ln tk sb en nm bits size num fnd).map Prod.fst → va_D A ws' := fun ws' e => by rw [hAe]; exact va_D_adr (va_D_self (va_D_adr dj rfl)) e
  have hS : va_S A s.heap s.heap [] := va_S.rf
  have hP : va_P D vwCl (kcw cI cL cS b s1 w1 m1 n1 s2 w2 m2 n2 s3 w3 m3 n3 ik bt ln tk sb en nm bits size num fnd) s.heap := hP
  have hl := lv_entry ([.ref (b 4 0), .ref (b 2 0)]) (n := 6) (Nat.le_of_ble_eq_true rfl)
  rw [lg_entry_eq]
  generalize (lg_sl ([.ref (b 4 0), .ref (b 2 0)]) ++ List.replicate (6 - (lg_sl ([.ref (b 4 0), .ref (b 2 0)])).length) Slot.unset).toArray = ls at hl ⊢
  have hl : lv_has ls 6 [(0, .ref (b 4 0)), (1, .ref (b 2 0))] := hl
  have f81 := hts (.fieldLink RX0 81 "KnivesLaid$Tape" "number" "I") (List.mem_of_getElem? (i := 1) rfl)
  have inX4 : ∀ w ∈ u_ws RX4 TX4 6, w ∈ wsX0_tellLaying := in_at 89 _ _ rfl
  skip
  have hZ : SX ad av fm A s s.heap := by rw [hAe]; exact hZ
  refine lv_aload_n hx hb dX0_tellLaying_0 rfl (lv_at hl 0 rfl) ?_
  refine callMv (va_runV (As := []) (rest := []) ⟨hx, hb, hml, hown, hts⟩ (k_X4_next l D cI cL cS (b 4 0) (b 4 1) bt ln tk sb en nm (va_DT (va_segD (hD (kcw cI cL cS b s1 w1 m1 n1 s2 w2 m2 n2 s3 w3 m3 n3 ik bt ln tk sb en nm bits size num fnd) rfl) 37 2 rfl) rfl) (eN bt (ix ln) cu) ol hT.2.2.1 hT.st.2.1) (cwV 0 hts gX0_tellLaying_X4_next rfl rfl rfl (by decide +kernel) ⟨Nat.le_of_ble_eq_true rfl, Nat.le_of_ble_eq_true rfl⟩) ⟨PcR_fb, va_recv hK hP (ci := 2) (q0 := 37) rfl rfl, PcR_pre (va_seg hP 37 2 rfl) hK⟩ rfl rfl hl.1 rfl (lv_room (Nat.le_of_ble_eq_true rfl)) dX0_tellLaying_1 ⟨Nat.zero_le _, Nat.zero_le _⟩) hP (hD _ rfl) hS 37 2 rfl (fun u_1 H locs hu_1 hP hS => ?_)
  obtain ⟨tk_3, sb_4, en_5, nm_6⟩ := u_1
  have hu_1 : Tok bt (ix ln) (eN bt (ix ln) cu) tk_3 sb_4 en_5 nm_6 := hu_1
  have hT := hu_1
  have hP : va_P D vwCl (kcw cI cL cS b s1 w1 m1 n1 s2 w2 m2 n2 s3 w3 m3 n3 ik bt ln tk_3 sb_4 en_5 nm_6 bits size num fnd) H := hP
  refine lv_aload_n hx hb dX0_tellLaying_4 rfl (lv_at hl 0 rfl) ?_
  refine lv_bipush (v := 10) hx hb dX0_tellLaying_5 (by decide) ?_
  refine callE (W.runV (As := [.int 10]) (rest := []) ⟨hx, hb, hml, hown, hts⟩ (k_X4_isNumberBelow l D cI cL cS (b 4 0) (b 4 1) bt ln tk_3 sb_4 en_5 nm_6 (eN bt (ix ln) cu) 10 hT) (cwV 1 hts gX0_tellLaying_X4_isNumberBelow rfl rfl rfl (by decide +kernel) ⟨Nat.le_of_ble_eq_true rfl, Nat.le_of_ble_eq_true rfl⟩) ⟨PcR_fb, va_recv hK hP (ci := 2) (q0 := 37) rfl rfl, PcR_pre (va_seg hP 37 2 rfl) hK⟩ rfl rfl hl.1 rfl (lv_room (Nat.le_of_ble_eq_true rfl)) dX0_tellLaying_7 ⟨Nat.zero_le _, Nat.zero_le _⟩) ?_
  refine lv_if_ne (tgt := 15) hx hb dX0_tellLaying_10 (by decide) (fun c_7 => ?_) (fun c_7 => ?_)
  · skip
    have c_7b := bI_n c_7
    have hN := c_7b
    have enm := hT.2.2.2.1 (hN).1
    subst enm
    refine lv_aload_n hx hb dX0_tellLaying_15 rfl (lv_at hl 0 rfl) ?_
    refine va_get (ci := 2) (v := .int (nI (nV bt (ix ln) (eN bt (ix ln) cu)))) (C := RX4) (T := TX4) (N := 6) hx hb hts inX4 hown hK hP 37 rfl rfl 5 (by decide) f81 (fun _ h9 => h9) rfl dX0_tellLaying_16 ?_
    refine lv_istore_n (lv' := [(2, .int (nI (nV bt (ix ln) (eN bt (ix ln) cu)))), (0, .ref (b 4 0)), (1, .ref (b 2 0))]) hx hb dX0_tellLaying_19 rfl hl (by decide) rfl (fun ls hl => ?_)
    refine lv_aload_n hx hb dX0_tellLaying_20 rfl (lv_at hl 1 rfl) ?_
    refine callMv (va_runV (As := []) (rest := []) ⟨hx, hb, hml, hown, hts⟩ (k_X4_next l D cI cL cS (b 4 0) (b 4 1) bt ln tk_3 sb_4 en_5 (nI (nV bt (ix ln) (eN bt (ix ln) cu))) (va_DT (va_segD (hD (kcw cI cL cS b s1 w1 m1 n1 s2 w2 m2 n2 s3 w3 m3 n3 ik bt ln tk_3 sb_4 en_5 (nI (nV bt (ix ln) (eN bt (ix ln) cu))) bits size num fnd) rfl) 37 2 rfl) rfl) (eN bt (ix ln) (eN bt (ix ln) cu)) ol hT.2.2.1 hT.st.2.1) (cwV 0 hts gX0_tellLaying_X4_next rfl rfl rfl (by decide +kernel) ⟨Nat.le_of_ble_eq_true rfl, Nat.le_of_ble_eq_true rfl⟩) ⟨PcR_fb, va_recv hK hP (ci := 2) (q0 := 37) rfl rfl, PcR_pre (va_seg hP 37 2 rfl) hK⟩ rfl rfl hl.1 rfl (lv_room (Nat.le_of_ble_eq_true rfl)) dX0_tellLaying_21 ⟨Nat.zero_le _, Nat.zero_le _⟩) hP (hD _ rfl) hS 37 2 rfl (fun u_8 H locs hu_8 hP hS => ?_)
    obtain ⟨tk_10, sb_11, en_12, nm_13⟩ := u_8
    have hu_8 : Tok bt (ix ln) (eN bt (ix ln) (eN bt (ix ln) cu)) tk_10 sb_11 en_12 nm_13 := hu_8
    have hT := hu_8
    have hP : va_P D vwCl (kcw cI cL cS b s1 w1 m1 n1 s2 w2 m2 n2 s3 w3 m3 n3 ik bt ln tk_10 sb_11 en_12 nm_13 bits size num fnd) H := hP
    refine lv_aload_n hx hb dX0_tellLaying_24 rfl (lv_at hl 1 rfl) ?_
    refine va_ldcS hx hb hown (hZ.2.2.2 8 (by decide)) dX0_tellLaying_25 ?_
    refine callMi (va_runS (As := [.ref (b 4 0), .ref (ad 8)]) (rest := []) ⟨hx, hb, hml, hown, hts⟩ (k_X0_tellPerhaps l D cI cL cS b s1 w1 m1 n1 s2 w2 m2 n2 s3 w3 m3 n3 ik bt ln tk_10 sb_11 en_12 nm_13 bits size num fnd ad av fm (eN bt (ix ln) (eN bt (ix ln) cu)) 8 (va_DT (hD _ rfl) rfl) (by decide) ol hT) (va_cwS 2 hts gX0_tellLaying_X0_tellPerhaps rfl rfl rfl (by decide +kernel) ⟨Nat.le_of_ble_eq_true rfl, Nat.le_of_ble_eq_true rfl⟩) ⟨PcQ_fb, PcQ_pre hP hK hZ hS (Aof_in (hD _ rfl))⟩ rfl rfl hl.1 rfl (lv_room (Nat.le_of_ble_eq_true rfl)) dX0_tellLaying_27 ⟨Nat.zero_le _, Nat.zero_le _⟩) hP (hD _ rfl) hS 0 49 rfl (fun r_15 u_14 H locs hu_14 hP hS => ?_)
    obtain ⟨tk_16, sb_17, en_18, nm_19⟩ := u_14
    have hI : r_15 = bI (isW bt (ix ln) (eN bt (ix ln) (eN bt (ix ln) cu)) 8) ∧ Tok bt (ix ln) (tAf bt (ix ln) (eN bt (ix ln) (eN bt (ix ln) cu)) 8) tk_16 sb_17 en_18 nm_19 := hu_14
    obtain ⟨hIr, hT⟩ := hI
    subst hIr
    have hP : va_P D vwCl (kcw cI cL cS b s1 w1 m1 n1 s2 w2 m2 n2 s3 w3 m3 n3 ik bt ln tk_16 sb_17 en_18 nm_19 bits size num fnd) H := hP
    refine lv_istore_n (lv' := [(3, .int (bI (isW bt (ix ln) (eN bt (ix ln) (eN bt (ix ln) cu)) 8))), (2, .int (nI (nV bt (ix ln) (eN bt (ix ln) cu)))), (0, .ref (b 4 0)), (1, .ref (b 2 0))]) hx hb dX0_tellLaying_30 rfl hl (by decide) rfl (fun ls hl => ?_)
    refine lv_aload_n hx hb dX0_tellLaying_31 rfl (lv_at hl 2 rfl) ?_
    refine va_ldcS hx hb hown (hZ.2.2.2 9 (by decide)) dX0_tellLaying_32 ?_
    refine callMi (va_runS (As := [.ref (b 4 0), .ref (ad 9)]) (rest := []) ⟨hx, hb, hml, hown, hts⟩ (k_X0_tellPerhaps l D cI cL cS b s1 w1 m1 n1 s2 w2 m2 n2 s3 w3 m3 n3 ik bt ln tk_16 sb_17 en_18 nm_19 bits size num fnd ad av fm (tAf bt (ix ln) (eN bt (ix ln) (eN bt (ix ln) cu)) 8) 9 (va_DT (hD _ rfl) rfl) (by decide) ol hT) (va_cwS 2 hts gX0_tellLaying_X0_tellPerhaps rfl rfl rfl (by decide +kernel) ⟨Nat.le_of_ble_eq_true rfl, Nat.le_of_ble_eq_true rfl⟩) ⟨PcQ_fb, PcQ_pre hP hK hZ hS (Aof_in (hD _ rfl))⟩ rfl rfl hl.1 rfl (lv_room (Nat.le_of_ble_eq_true rfl)) dX0_tellLaying_34 ⟨Nat.zero_le _, Nat.zero_le _⟩) hP (hD _ rfl) hS 0 49 rfl (fun r_21 u_20 H locs hu_20 hP hS => ?_)
    obtain ⟨tk_22, sb_23, en_24, nm_25⟩ := u_20
    have hI : r_21 = bI (isW bt (ix ln) (tAf bt (ix ln) (eN bt (ix ln) (eN bt (ix ln) cu)) 8) 9) ∧ Tok bt (ix ln) (tAf bt (ix ln) (tAf bt (ix ln) (eN bt (ix ln) (eN bt (ix ln) cu)) 8) 9) tk_22 sb_23 en_24 nm_25 := hu_20
    obtain ⟨hIr, hT⟩ := hI
    subst hIr
    have hP : va_P D vwCl (kcw cI cL cS b s1 w1 m1 n1 s2 w2 m2 n2 s3 w3 m3 n3 ik bt ln tk_22 sb_23 en_24 nm_25 bits size num fnd) H := hP
    refine lv_istore (lv' := [(4, .int (bI (isW bt (ix ln) (tAf bt (ix ln) (eN bt (ix ln) (eN bt (ix ln) cu)) 8) 9))), (3, .int (bI (isW bt (ix ln) (eN bt (ix ln) (eN bt (ix ln) cu)) 8))), (2, .int (nI (nV bt (ix ln) (eN bt (ix ln) cu)))), (0, .ref (b 4 0)), (1, .ref (b 2 0))]) hx hb dX0_tellLaying_37 hl (by decide) rfl (fun ls hl => ?_)
    refine lv_iconst (v := 0) hx hb dX0_tellLaying_39 (by decide) ?_
    refine lv_istore (lv' := [(5, .int 0), (4, .int (bI (isW bt (ix ln) (tAf bt (ix ln) (eN bt (ix ln) (eN bt (ix ln) cu)) 8) 9))), (3, .int (bI (isW bt (ix ln) (eN bt (ix ln) (eN bt (ix ln) cu)) 8))), (2, .int (nI (nV bt (ix ln) (eN bt (ix ln) cu)))), (0, .ref (b 4 0)), (1, .ref (b 2 0))]) hx hb dX0_tellLaying_40 hl (by decide) rfl (fun ls hl => ?_)
    refine lv_aload_n hx hb dX0_tellLaying_42 rfl (lv_at hl 4 rfl) ?_
    refine va_ldcS hx hb hown (hZ.2.2.2 10 (by decide)) dX0_tellLaying_43 ?_
    refine callMi (va_runS (As := [.ref (b 4 0), .ref (ad 10)]) (rest := []) ⟨hx, hb, hml, hown, hts⟩ (k_X0_tellPerhaps l D cI cL cS b s1 w1 m1 n1 s2 w2 m2 n2 s3 w3 m3 n3 ik bt ln tk_22 sb_23 en_24 nm_25 bits size num fnd ad av fm (tAf bt (ix ln) (tAf bt (ix ln) (eN bt (ix ln) (eN bt (ix ln) cu)) 8) 9) 10 (va_DT (hD _ rfl) rfl) (by decide) ol hT) (va_cwS 2 hts gX0_tellLaying_X0_tellPerhaps rfl rfl rfl (by decide +kernel) ⟨Nat.le_of_ble_eq_true rfl, Nat.le_of_ble_eq_true rfl⟩) ⟨PcQ_fb, PcQ_pre hP hK hZ hS (Aof_in (hD _ rfl))⟩ rfl rfl hl.1 rfl (lv_room (Nat.le_of_ble_eq_true rfl)) dX0_tellLaying_45 ⟨Nat.zero_le _, Nat.zero_le _⟩) hP (hD _ rfl) hS 0 49 rfl (fun r_27 u_26 H locs hu_26 hP hS => ?_)
    obtain ⟨tk_28, sb_29, en_30, nm_31⟩ := u_26
    have hI : r_27 = bI (isW bt (ix ln) (tAf bt (ix ln) (tAf bt (ix ln) (eN bt (ix ln) (eN bt (ix ln) cu)) 8) 9) 10) ∧ Tok bt (ix ln) (tAf bt (ix ln) (tAf bt (ix ln) (tAf bt (ix ln) (eN bt (ix ln) (eN bt (ix ln) cu)) 8) 9) 10) tk_28 sb_29 en_30 nm_31 := hu_26
    obtain ⟨hIr, hT⟩ := hI
    subst hIr
    have hP : va_P D vwCl (kcw cI cL cS b s1 w1 m1 n1 s2 w2 m2 n2 s3 w3 m3 n3 ik bt ln tk_28 sb_29 en_30 nm_31 bits size num fnd) H := hP
    refine lv_iconst (v := 1) hx hb dX0_tellLaying_48 (by decide) ?_
    refine lv_icmp_ne (tgt := 73) hx hb dX0_tellLaying_49 (by decide) (fun c_32 => ?_) (fun c_32 => ?_)
    · skip
      have hwd := bI_01 c_32
      rw [tAf_f hwd] at hT
      refine lv_aload_n hx hb dX0_tellLaying_73 rfl (lv_at hl 5 rfl) ?_
      refine lv_iload_n hx hb dX0_tellLaying_74 rfl (lv_at hl 3 rfl) ?_
      refine lv_iload_n hx hb dX0_tellLaying_75 rfl (lv_at hl 2 rfl) ?_
      refine lv_iload hx hb dX0_tellLaying_76 (lv_at hl 1 rfl) ?_
      refine lv_iload hx hb dX0_tellLaying_78 (lv_at hl 0 rfl) ?_
      refine callMv (va_runV (As := [.int (nI (nV bt (ix ln) (eN bt (ix ln) cu))), .int (bI (isW bt (ix ln) (eN bt (ix ln) (eN bt (ix ln) cu)) 8)), .int (bI (isW bt (ix ln) (tAf bt (ix ln) (eN bt (ix ln) (eN bt (ix ln) cu)) 8) 9)), .int 0]) (rest := []) ⟨hx, hb, hml, hown, hts⟩ (k_X3_layJustSo l D cI cL cS (b 2) (sCo s2) (sGu s2) (sKn s2) (sFo s2) (sSp s2) w2 (sKi s2) (sPl s2) (sEa s2) (sTo s2) (sQu s2) m2 n2 (nI (nV bt (ix ln) (eN bt (ix ln) cu))) (bI (isW bt (ix ln) (eN bt (ix ln) (eN bt (ix ln) cu)) 8)) (bI (isW bt (ix ln) (tAf bt (ix ln) (eN bt (ix ln) (eN bt (ix ln) cu)) 8) 9)) 0 (va_DT (va_segD (hD _ rfl) 13 12 rfl) rfl) (isN_10 hN)) (cwV 4 hts gX0_tellLaying_X3_layJustSo rfl rfl rfl (by decide +kernel) ⟨Nat.le_of_ble_eq_true rfl, Nat.le_of_ble_eq_true rfl⟩) ⟨PcR_fb, va_recv hK hP (ci := 1) (q0 := 13) rfl rfl, PcR_pre (va_seg hP 13 12 rfl) hK⟩ rfl rfl hl.1 rfl (lv_room (Nat.le_of_ble_eq_true rfl)) dX0_tellLaying_80 ⟨Nat.zero_le _, Nat.zero_le _⟩) hP (hD _ rfl) hS 13 12 rfl (fun u_33 H locs hu_33 hP hS => ?_)
      have hP : va_P D vwCl (kcw cI cL cS b s1 w1 m1 n1 (uSp (uFo (uKn s2 (upd (sKn s2) (ix (nI (nV bt (ix ln) (eN bt (ix ln) cu)))) (bI (isW bt (ix ln) (eN bt (ix ln) (eN bt (ix ln) cu)) 8)))) (upd (sFo s2) (ix (nI (nV bt (ix ln) (eN bt (ix ln) cu)))) (bI (isW bt (ix ln) (tAf bt (ix ln) (eN bt (ix ln) (eN bt (ix ln) cu)) 8) 9)))) (upd (sSp s2) (ix (nI (nV bt (ix ln) (eN bt (ix ln) cu)))) 0)) w2 m2 n2 s3 w3 m3 n3 ik bt ln tk_28 sb_29 en_30 nm_31 bits size num fnd) H := hP
      refine lv_iconst (v := 1) hx hb dX0_tellLaying_83 (by decide) ?_
      exact W.zret (ty := .boolean) hx hb hr rfl (fun t ht hW => ⟨⟨_, ((uSp (uFo (uKn s2 (upd (sKn s2) (ix (nI (nV bt (ix ln) (eN bt (ix ln) cu)))) (bI (isW bt (ix ln) (eN bt (ix ln) (eN bt (ix ln) cu)) 8)))) (upd (sFo s2) (ix (nI (nV bt (ix ln) (eN bt (ix ln) cu)))) (bI (isW bt (ix ln) (tAf bt (ix ln) (eN bt (ix ln) (eN bt (ix ln) cu)) 8) 9)))) (upd (sSp s2) (ix (nI (nV bt (ix ln) (eN bt (ix ln) cu)))) 0)), w2, tk_28, sb_29, en_30, nm_31), rfl, (by exact TI_t hN (TI_f hwd ⟨rfl, rfl, hT, ok_just o2 (bI_in2 _) (bI_in2 _) (vp_in_iff.mpr (by decide)), Or.inr rfl⟩)), by dsimp only; rw [ht]; exact hP⟩, hS.F ht⟩) hS.2.2 dX0_tellLaying_84
    · skip
      have hwd := bI_n1 c_32
      rw [tAf_t hwd] at hT
      refine lv_aload_n hx hb dX0_tellLaying_52 rfl (lv_at hl 4 rfl) ?_
      refine lv_bipush (v := 10) hx hb dX0_tellLaying_53 (by decide) ?_
      refine callE (W.runV (As := [.int 10]) (rest := []) ⟨hx, hb, hml, hown, hts⟩ (k_X4_isNumberBelow l D cI cL cS (b 4 0) (b 4 1) bt ln tk_28 sb_29 en_30 nm_31 (eN bt (ix ln) (tAf bt (ix ln) (tAf bt (ix ln) (eN bt (ix ln) (eN bt (ix ln) cu)) 8) 9)) 10 hT) (cwV 1 hts gX0_tellLaying_X4_isNumberBelow rfl rfl rfl (by decide +kernel) ⟨Nat.le_of_ble_eq_true rfl, Nat.le_of_ble_eq_true rfl⟩) ⟨PcR_fb, va_recv hK hP (ci := 2) (q0 := 37) rfl rfl, PcR_pre (va_seg hP 37 2 rfl) hK⟩ rfl rfl hl.1 rfl (lv_room (Nat.le_of_ble_eq_true rfl)) dX0_tellLaying_55 ⟨Nat.zero_le _, Nat.zero_le _⟩) ?_
      refine lv_if_ne (tgt := 63) hx hb dX0_tellLaying_58 (by decide) (fun c_35 => ?_) (fun c_35 => ?_)
      · skip
        have c_35b := bI_n c_35
        have hN2 := c_35b
        have enm := hT.2.2.2.1 (hN2).1
        subst enm
        refine lv_aload_n hx hb dX0_tellLaying_63 rfl (lv_at hl 4 rfl) ?_
        refine va_get (ci := 2) (v := .int (nI (nV bt (ix ln) (eN bt (ix ln) (tAf bt (ix ln) (tAf bt (ix ln) (eN bt (ix ln) (eN bt (ix ln) cu)) 8) 9))))) (C := RX4) (T := TX4) (N := 6) hx hb hts inX4 hown hK hP 37 rfl rfl 5 (by decide) f81 (fun _ h9 => h9) rfl dX0_tellLaying_64 ?_
        refine lv_istore (lv' := [(5, .int (nI (nV bt (ix ln) (eN bt (ix ln) (tAf bt (ix ln) (tAf bt (ix ln) (eN bt (ix ln) (eN bt (ix ln) cu)) 8) 9))))), (4, .int (bI (isW bt (ix ln) (tAf bt (ix ln) (eN bt (ix ln) (eN bt (ix ln) cu)) 8) 9))), (3, .int (bI (isW bt (ix ln) (eN bt (ix ln) (eN bt (ix ln) cu)) 8))), (2, .int (nI (nV bt (ix ln) (eN bt (ix ln) cu)))), (0, .ref (b 4 0)), (1, .ref (b 2 0))]) hx hb dX0_tellLaying_67 hl (by decide) rfl (fun ls hl => ?_)
        refine lv_aload_n hx hb dX0_tellLaying_69 rfl (lv_at hl 4 rfl) ?_
        refine callMv (va_runV (As := []) (rest := []) ⟨hx, hb, hml, hown, hts⟩ (k_X4_next l D cI cL cS (b 4 0) (b 4 1) bt ln tk_28 sb_29 en_30 (nI (nV bt (ix ln) (eN bt (ix ln) (tAf bt (ix ln) (tAf bt (ix ln) (eN bt (ix ln) (eN bt (ix ln) cu)) 8) 9)))) (va_DT (va_segD (hD (kcw cI cL cS b s1 w1 m1 n1 s2 w2 m2 n2 s3 w3 m3 n3 ik bt ln tk_28 sb_29 en_30 (nI (nV bt (ix ln) (eN bt (ix ln) (tAf bt (ix ln) (tAf bt (ix ln) (eN bt (ix ln) (eN bt (ix ln) cu)) 8) 9)))) bits size num fnd) rfl) 37 2 rfl) rfl) (eN bt (ix ln) (eN bt (ix ln) (tAf bt (ix ln) (tAf bt (ix ln) (eN bt (ix ln) (eN bt (ix ln) cu)) 8) 9))) ol hT.2.2.1 hT.st.2.1) (cwV 0 hts gX0_tellLaying_X4_next rfl rfl rfl (by decide +kernel) ⟨Nat.le_of_ble_eq_true rfl, Nat.le_of_ble_eq_true rfl⟩) ⟨PcR_fb, va_recv hK hP (ci := 2) (q0 := 37) rfl rfl, PcR_pre (va_seg hP 37 2 rfl) hK⟩ rfl rfl hl.1 rfl (lv_room (Nat.le_of_ble_eq_true rfl)) dX0_tellLaying_70 ⟨Nat.zero_le _, Nat.zero_le _⟩) hP (hD _ rfl) hS 37 2 rfl (fun u_36 H locs hu_36 hP hS => ?_)
        obtain ⟨tk_38, sb_39, en_40, nm_41⟩ := u_36
        have hu_36 : Tok bt (ix ln) (eN bt (ix ln) (eN bt (ix ln) (tAf bt (ix ln) (tAf bt (ix ln) (eN bt (ix ln) (eN bt (ix ln) cu)) 8) 9))) tk_38 sb_39 en_40 nm_41 := hu_36
        have hT := hu_36
        have hP : va_P D vwCl (kcw cI cL cS b s1 w1 m1 n1 s2 w2 m2 n2 s3 w3 m3 n3 ik bt ln tk_38 sb_39 en_40 nm_41 bits size num fnd) H := hP
        refine lv_aload_n hx hb dX0_tellLaying_73 rfl (lv_at hl 5 rfl) ?_
        refine lv_iload_n hx hb dX0_tellLaying_74 rfl (lv_at hl 3 rfl) ?_
        refine lv_iload_n hx hb dX0_tellLaying_75 rfl (lv_at hl 2 rfl) ?_
        refine lv_iload hx hb dX0_tellLaying_76 (lv_at hl 1 rfl) ?_
        refine lv_iload hx hb dX0_tellLaying_78 (lv_at hl 0 rfl) ?_
        refine callMv (va_runV (As := [.int (nI (nV bt (ix ln) (eN bt (ix ln) cu))), .int (bI (isW bt (ix ln) (eN bt (ix ln) (eN bt (ix ln) cu)) 8)), .int (bI (isW bt (ix ln) (tAf bt (ix ln) (eN bt (ix ln) (eN bt (ix ln) cu)) 8) 9)), .int (nI (nV bt (ix ln) (eN bt (ix ln) (tAf bt (ix ln) (tAf bt (ix ln) (eN bt (ix ln) (eN bt (ix ln) cu)) 8) 9))))]) (rest := []) ⟨hx, hb, hml, hown, hts⟩ (k_X3_layJustSo l D cI cL cS (b 2) (sCo s2) (sGu s2) (sKn s2) (sFo s2) (sSp s2) w2 (sKi s2) (sPl s2) (sEa s2) (sTo s2) (sQu s2) m2 n2 (nI (nV bt (ix ln) (eN bt (ix ln) cu))) (bI (isW bt (ix ln) (eN bt (ix ln) (eN bt (ix ln) cu)) 8)) (bI (isW bt (ix ln) (tAf bt (ix ln) (eN bt (ix ln) (eN bt (ix ln) cu)) 8) 9)) (nI (nV bt (ix ln) (eN bt (ix ln) (tAf bt (ix ln) (tAf bt (ix ln) (eN bt (ix ln) (eN bt (ix ln) cu)) 8) 9)))) (va_DT (va_segD (hD _ rfl) 13 12 rfl) rfl) (isN_10 hN)) (cwV 4 hts gX0_tellLaying_X3_layJustSo rfl rfl rfl (by decide +kernel) ⟨Nat.le_of_ble_eq_true rfl, Nat.le_of_ble_eq_true rfl⟩) ⟨PcR_fb, va_recv hK hP (ci := 1) (q0 := 13) rfl rfl, PcR_pre (va_seg hP 13 12 rfl) hK⟩ rfl rfl hl.1 rfl (lv_room (Nat.le_of_ble_eq_true rfl)) dX0_tellLaying_80 ⟨Nat.zero_le _, Nat.zero_le _⟩) hP (hD _ rfl) hS 13 12 rfl (fun u_42 H locs hu_42 hP hS => ?_)
        have hP : va_P D vwCl (kcw cI cL cS b s1 w1 m1 n1 (uSp (uFo (uKn s2 (upd (sKn s2) (ix (nI (nV bt (ix ln) (eN bt (ix ln) cu)))) (bI (isW bt (ix ln) (eN bt (ix ln) (eN bt (ix ln) cu)) 8)))) (upd (sFo s2) (ix (nI (nV bt (ix ln) (eN bt (ix ln) cu)))) (bI (isW bt (ix ln) (tAf bt (ix ln) (eN bt (ix ln) (eN bt (ix ln) cu)) 8) 9)))) (upd (sSp s2) (ix (nI (nV bt (ix ln) (eN bt (ix ln) cu)))) (nI (nV bt (ix ln) (eN bt (ix ln) (tAf bt (ix ln) (tAf bt (ix ln) (eN bt (ix ln) (eN bt (ix ln) cu)) 8) 9)))))) w2 m2 n2 s3 w3 m3 n3 ik bt ln tk_38 sb_39 en_40 nm_41 bits size num fnd) H := hP
        refine lv_iconst (v := 1) hx hb dX0_tellLaying_83 (by decide) ?_
        exact W.zret (ty := .boolean) hx hb hr rfl (fun t ht hW => ⟨⟨_, ((uSp (uFo (uKn s2 (upd (sKn s2) (ix (nI (nV bt (ix ln) (eN bt (ix ln) cu)))) (bI (isW bt (ix ln) (eN bt (ix ln) (eN bt (ix ln) cu)) 8)))) (upd (sFo s2) (ix (nI (nV bt (ix ln) (eN bt (ix ln) cu)))) (bI (isW bt (ix ln) (tAf bt (ix ln) (eN bt (ix ln) (eN bt (ix ln) cu)) 8) 9)))) (upd (sSp s2) (ix (nI (nV bt (ix ln) (eN bt (ix ln) cu)))) (nI (nV bt (ix ln) (eN bt (ix ln) (tAf bt (ix ln) (tAf bt (ix ln) (eN bt (ix ln) (eN bt (ix ln) cu)) 8) 9)))))), w2, tk_38, sb_39, en_40, nm_41), rfl, (by exact TI_t hN (TI_t hwd (TI_t hN2 ⟨rfl, rfl, hT, ok_just o2 (bI_in2 _) (bI_in2 _) (isN_10 hN2), Or.inr rfl⟩))), by dsimp only; rw [ht]; exact hP⟩, hS.F ht⟩) hS.2.2 dX0_tellLaying_84
      · skip
        have c_35b := bI_0 c_35
        refine lv_iconst (v := 0) hx hb dX0_tellLaying_61 (by decide) ?_
        exact W.zret (ty := .boolean) hx hb hr rfl (fun t ht hW => ⟨⟨_, (s2, w2, tk_28, sb_29, en_30, nm_31), rfl, (by exact TI_t hN (TI_t hwd (TI_f c_35b ⟨rfl, rfl, hT, o2, Or.inl rfl⟩))), by dsimp only; rw [ht]; exact hP⟩, hS.F ht⟩) hS.2.2 dX0_tellLaying_62
  · skip
    have c_7b := bI_0 c_7
    refine lv_iconst (v := 0) hx hb dX0_tellLaying_13 (by decide) ?_
    exact W.zret (ty := .boolean) hx hb hr rfl (fun t ht hW => ⟨⟨_, (s2, w2, tk_3, sb_4, en_5, nm_6), rfl, (by exact TI_f c_7b ⟨rfl, rfl, hT, o2, Or.inl rfl⟩), by dsimp only; rw [ht]; exact hP⟩, hS.F ht⟩) hS.2.2 dX0_tellLaying_14

set_option maxRecDepth 100000 in
set_option maxHeartbeats 4000000 in
theorem k_X0_tellChange (l : Launch) (D : va_G) (cI cL cS : ClassId) (b : Nat → Nat → Nat) (s1 : Sg) (w1 m1 n1 : FI) (s2 : Sg) (w2 m2 n2 : FI) (s3 : Sg) (w3 m3 n3 : FI) (ik : Int32) (bt : FI) (ln tk sb en nm : Int32) (bits size : FI) (num : Nat → FJ) (fnd : FI) (ad av : Nat → Nat) (fm : Option Nat) (cu : Nat) (dj : va_D (fun _ => True) (djk b)) (o2 : okS s2 w2) (ol : vp_in ln 121) (hT : Tok bt (ix ln) cu tk sb en nm) : Met l yX0_tellChange wsX0_tellChange { frames := 2, cells := 0, slots := 0, locals := 44 } (PcQ ad av fm (Aof (kcw cI cL cS b s1 w1 m1 n1 s2 w2 m2 n2 s3 w3 m3 n3 ik bt ln tk sb en nm bits size num fnd)) D vwCl (tyG cI cL cS) [.ref (b 4 0), .ref (b 2 0)] (kcw cI cL cS b s1 w1 m1 n1 s2 w2 m2 n2 s3 w3 m3 n3 ik bt ln tk sb en nm bits size num fnd)) (va_Qi (fun (r : Int32) (u : Sg × FI × Int32 × Int32 × Int32 × Int32) => TI (tChg bt (ix ln) s2 (eN bt (ix ln) cu)) bt (ix ln) r u.1 u.2.1 u.2.2.1 u.2.2.2.1 u.2.2.2.2.1 u.2.2.2.2.2) (fun u t => va_P D vwCl (kcw cI cL cS b s1 w1 m1 n1 u.1 u.2.1 m2 n2 s3 w3 m3 n3 ik bt ln u.2.2.1 u.2.2.2.1 u.2.2.2.2.1 u.2.2.2.2.2 bits size num fnd) t.heap) (Aof (kcw cI cL cS b s1 w1 m1 n1 s2 w2 m2 n2 s3 w3 m3 n3 ik bt ln tk sb en nm bits size num fnd))) 0 0 (Aof (kcw cI cL cS b s1 w1 m1 n1 s2 w2 m2 n2 s3 w3 m3 n3 ik bt ln tk sb en nm bits size num fnd)) := by
  refine Met.ofW (cc := cX0_tellChange) (maxL := 3) (ret := (some .boolean)) (by decide) rfl ?_
  intro p e s m args below meth c s₁ B hml hv
  obtain ⟨rfl, hv⟩ := hv
  obtain ⟨hP, hK, hZ⟩ := hv
  have hx := B.exec
  have hb := B.bytes
  have hr := B.returns
  have hts := atoms_spec (ws := wsX0_tellChange) B.pre
  have hown : s.vm.findClass RX0 = some m.cls := findClass_of_methodNamed B.named
  have hlocks := B.notSynchronized
  obtain ⟨A, hAe⟩ : ∃ A, A = Aof (kcw cI cL cS b s1 w1 m1 n1 s2 w2 m2 n2 s3 w3 m3 n3 ik bt ln tk sb en nm bits size num fnd) := ⟨_, rfl⟩
  rw [← hAe]
  have hD : ∀ ws' : va_W, ws'.map Prod.fst = (kcw cI cL cS b s1 w1 m1 n1 s2 w2 m2 n2 s3 w3 m3 n3 ik bt ln tk sb en nm bits size num fnd).map Prod.fst → va_D A ws' := fun ws' e => by rw [hAe]; exact va_D_adr (va_D_self (va_D_adr dj rfl)) e
  have hS : va_S A s.heap s.heap [] := va_S.rf
  have hP : va_P D vwCl (kcw cI cL cS b s1 w1 m1 n1 s2 w2 m2 n2 s3 w3 m3 n3 ik bt ln tk sb en nm bits size num fnd) s.heap := hP
  have hl := lv_entry ([.ref (b 4 0), .ref (b 2 0)]) (n := 3) (Nat.le_of_ble_eq_true rfl)
  rw [lg_entry_eq]
  generalize (lg_sl ([.ref (b 4 0), .ref (b 2 0)]) ++ List.replicate (3 - (lg_sl ([.ref (b 4 0), .ref (b 2 0)])).length) Slot.unset).toArray = ls at hl ⊢
  have hl : lv_has ls 3 [(0, .ref (b 4 0)), (1, .ref (b 2 0))] := hl
  have f48 := hts (.fieldLink RX0 48 "KnivesLaid$Table" "guests" "I") (List.mem_of_getElem? (i := 1) rfl)
  have inX3 : ∀ w ∈ u_ws RX3 TX3 13, w ∈ wsX0_tellChange := in_at 32 _ _ rfl
  have f81 := hts (.fieldLink RX0 81 "KnivesLaid$Tape" "number" "I") (List.mem_of_getElem? (i := 2) rfl)
  have inX4 : ∀ w ∈ u_ws RX4 TX4 6, w ∈ wsX0_tellChange := in_at 45 _ _ rfl
  skip
  have hZ : SX ad av fm A s s.heap := by rw [hAe]; exact hZ
  have hv1 := nV_le bt (ix ln) (eN bt (ix ln) cu)
  have hv2 := nV_le bt (ix ln) (eN bt (ix ln) (eN bt (ix ln) cu))
  refine lv_aload_n hx hb dX0_tellChange_0 rfl (lv_at hl 0 rfl) ?_
  refine callMv (va_runV (As := []) (rest := []) ⟨hx, hb, hml, hown, hts⟩ (k_X4_next l D cI cL cS (b 4 0) (b 4 1) bt ln tk sb en nm (va_DT (va_segD (hD (kcw cI cL cS b s1 w1 m1 n1 s2 w2 m2 n2 s3 w3 m3 n3 ik bt ln tk sb en nm bits size num fnd) rfl) 37 2 rfl) rfl) (eN bt (ix ln) cu) ol hT.2.2.1 hT.st.2.1) (cwV 0 hts gX0_tellChange_X4_next rfl rfl rfl (by decide +kernel) ⟨Nat.le_of_ble_eq_true rfl, Nat.le_of_ble_eq_true rfl⟩) ⟨PcR_fb, va_recv hK hP (ci := 2) (q0 := 37) rfl rfl, PcR_pre (va_seg hP 37 2 rfl) hK⟩ rfl rfl hl.1 rfl (lv_room (Nat.le_of_ble_eq_true rfl)) dX0_tellChange_1 ⟨Nat.zero_le _, Nat.zero_le _⟩) hP (hD _ rfl) hS 37 2 rfl (fun u_1 H locs hu_1 hP hS => ?_)
  obtain ⟨tk_3, sb_4, en_5, nm_6⟩ := u_1
  have hu_1 : Tok bt (ix ln) (eN bt (ix ln) cu) tk_3 sb_4 en_5 nm_6 := hu_1
  have hT := hu_1
  have hP : va_P D vwCl (kcw cI cL cS b s1 w1 m1 n1 s2 w2 m2 n2 s3 w3 m3 n3 ik bt ln tk_3 sb_4 en_5 nm_6 bits size num fnd) H := hP
  refine lv_aload_n hx hb dX0_tellChange_4 rfl (lv_at hl 0 rfl) ?_
  refine lv_aload_n hx hb dX0_tellChange_5 rfl (lv_at hl 1 rfl) ?_
  refine va_get (ci := 1) (v := .int (sGu s2)) (C := RX3) (T := TX3) (N := 13) hx hb hts inX3 hown hK hP 13 rfl rfl 5 (by decide) f48 (fun _ h9 => h9) rfl dX0_tellChange_6 ?_
  refine callE (W.runV (As := [.int (sGu s2)]) (rest := []) ⟨hx, hb, hml, hown, hts⟩ (k_X4_isNumberBelow l D cI cL cS (b 4 0) (b 4 1) bt ln tk_3 sb_4 en_5 nm_6 (eN bt (ix ln) cu) (sGu s2) hT) (cwV 1 hts gX0_tellChange_X4_isNumberBelow rfl rfl rfl (by decide +kernel) ⟨Nat.le_of_ble_eq_true rfl, Nat.le_of_ble_eq_true rfl⟩) ⟨PcR_fb, va_recv hK hP (ci := 2) (q0 := 37) rfl rfl, PcR_pre (va_seg hP 37 2 rfl) hK⟩ rfl rfl hl.1 rfl (lv_room (Nat.le_of_ble_eq_true rfl)) dX0_tellChange_9 ⟨Nat.zero_le _, Nat.zero_le _⟩) ?_
  refine lv_if_ne (tgt := 17) hx hb dX0_tellChange_12 (by decide) (fun c_7 => ?_) (fun c_7 => ?_)
  · skip
    have c_7b := bI_n c_7
    have hN := c_7b
    have q1 := isN_gu o2 hN
    have enm := hT.2.2.2.1 (hN).1
    subst enm
    refine lv_aload_n hx hb dX0_tellChange_17 rfl (lv_at hl 0 rfl) ?_
    refine va_get (ci := 2) (v := .int (nI (nV bt (ix ln) (eN bt (ix ln) cu)))) (C := RX4) (T := TX4) (N := 6) hx hb hts inX4 hown hK hP 37 rfl rfl 5 (by decide) f81 (fun _ h9 => h9) rfl dX0_tellChange_18 ?_
    refine lv_istore_n (lv' := [(2, .int (nI (nV bt (ix ln) (eN bt (ix ln) cu)))), (0, .ref (b 4 0)), (1, .ref (b 2 0))]) hx hb dX0_tellChange_21 rfl hl (by decide) rfl (fun ls hl => ?_)
    refine lv_aload_n hx hb dX0_tellChange_22 rfl (lv_at hl 1 rfl) ?_
    refine callMv (va_runV (As := []) (rest := []) ⟨hx, hb, hml, hown, hts⟩ (k_X4_next l D cI cL cS (b 4 0) (b 4 1) bt ln tk_3 sb_4 en_5 (nI (nV bt (ix ln) (eN bt (ix ln) cu))) (va_DT (va_segD (hD (kcw cI cL cS b s1 w1 m1 n1 s2 w2 m2 n2 s3 w3 m3 n3 ik bt ln tk_3 sb_4 en_5 (nI (nV bt (ix ln) (eN bt (ix ln) cu))) bits size num fnd) rfl) 37 2 rfl) rfl) (eN bt (ix ln) (eN bt (ix ln) cu)) ol hT.2.2.1 hT.st.2.1) (cwV 0 hts gX0_tellChange_X4_next rfl rfl rfl (by decide +kernel) ⟨Nat.le_of_ble_eq_true rfl, Nat.le_of_ble_eq_true rfl⟩) ⟨PcR_fb, va_recv hK hP (ci := 2) (q0 := 37) rfl rfl, PcR_pre (va_seg hP 37 2 rfl) hK⟩ rfl rfl hl.1 rfl (lv_room (Nat.le_of_ble_eq_true rfl)) dX0_tellChange_23 ⟨Nat.zero_le _, Nat.zero_le _⟩) hP (hD _ rfl) hS 37 2 rfl (fun u_8 H locs hu_8 hP hS => ?_)
    obtain ⟨tk_10, sb_11, en_12, nm_13⟩ := u_8
    have hu_8 : Tok bt (ix ln) (eN bt (ix ln) (eN bt (ix ln) cu)) tk_10 sb_11 en_12 nm_13 := hu_8
    have hT := hu_8
    have hP : va_P D vwCl (kcw cI cL cS b s1 w1 m1 n1 s2 w2 m2 n2 s3 w3 m3 n3 ik bt ln tk_10 sb_11 en_12 nm_13 bits size num fnd) H := hP
    refine lv_aload_n hx hb dX0_tellChange_26 rfl (lv_at hl 1 rfl) ?_
    refine lv_aload_n hx hb dX0_tellChange_27 rfl (lv_at hl 2 rfl) ?_
    refine va_get (ci := 1) (v := .int (sGu s2)) (C := RX3) (T := TX3) (N := 13) hx hb hts inX3 hown hK hP 13 rfl rfl 5 (by decide) f48 (fun _ h9 => h9) rfl dX0_tellChange_28 ?_
    refine callE (W.runV (As := [.int (sGu s2)]) (rest := []) ⟨hx, hb, hml, hown, hts⟩ (k_X4_isNumberBelow l D cI cL cS (b 4 0) (b 4 1) bt ln tk_10 sb_11 en_12 nm_13 (eN bt (ix ln) (eN bt (ix ln) cu)) (sGu s2) hT) (cwV 1 hts gX0_tellChange_X4_isNumberBelow rfl rfl rfl (by decide +kernel) ⟨Nat.le_of_ble_eq_true rfl, Nat.le_of_ble_eq_true rfl⟩) ⟨PcR_fb, va_recv hK hP (ci := 2) (q0 := 37) rfl rfl, PcR_pre (va_seg hP 37 2 rfl) hK⟩ rfl rfl hl.1 rfl (lv_room (Nat.le_of_ble_eq_true rfl)) dX0_tellChange_31 ⟨Nat.zero_le _, Nat.zero_le _⟩) ?_
    refine lv_if_eq (tgt := 45) hx hb dX0_tellChange_34 (by decide) (fun c_14 => ?_) (fun c_14 => ?_)
    · skip
      have c_14b := bI_0 c_14
      refine lv_iconst (v := 0) hx hb dX0_tellChange_45 (by decide) ?_
      exact W.zret (ty := .boolean) hx hb hr rfl (fun t ht hW => ⟨⟨_, (s2, w2, tk_10, sb_11, en_12, nm_13), rfl, (by exact TI_t hN (TI_f (fun h => c_14b h.1) ⟨rfl, rfl, hT, o2, Or.inl rfl⟩)), by dsimp only; rw [ht]; exact hP⟩, hS.F ht⟩) hS.2.2 dX0_tellChange_46
    · skip
      have c_14b := bI_n c_14
      have hN2 := c_14b
      have q2 := isN_gu o2 hN2
      have enm := hT.2.2.2.1 (hN2).1
      subst enm
      refine lv_aload_n hx hb dX0_tellChange_37 rfl (lv_at hl 1 rfl) ?_
      refine va_get (ci := 2) (v := .int (nI (nV bt (ix ln) (eN bt (ix ln) (eN bt (ix ln) cu))))) (C := RX4) (T := TX4) (N := 6) hx hb hts inX4 hown hK hP 37 rfl rfl 5 (by decide) f81 (fun _ h9 => h9) rfl dX0_tellChange_38 ?_
      refine lv_iload_n hx hb dX0_tellChange_41 rfl (lv_at hl 0 rfl) ?_
      refine lv_icmp_ne (tgt := 47) hx hb dX0_tellChange_42 (by decide) (fun c_15 => ?_) (fun c_15 => ?_)
      · skip
        have c_15n := mt (cmp_eq (a := (nV bt (ix ln) (eN bt (ix ln) (eN bt (ix ln) cu)))) (b := (nV bt (ix ln) (eN bt (ix ln) cu))) rfl rfl (by omega) (by omega)).mpr c_15
        refine lv_aload_n hx hb dX0_tellChange_47 rfl (lv_at hl 2 rfl) ?_
        refine lv_iload_n hx hb dX0_tellChange_48 rfl (lv_at hl 0 rfl) ?_
        refine lv_aload_n hx hb dX0_tellChange_49 rfl (lv_at hl 1 rfl) ?_
        refine va_get (ci := 2) (v := .int (nI (nV bt (ix ln) (eN bt (ix ln) (eN bt (ix ln) cu))))) (C := RX4) (T := TX4) (N := 6) hx hb hts inX4 hown hK hP 37 rfl rfl 5 (by decide) f81 (fun _ h9 => h9) rfl dX0_tellChange_50 ?_
        refine callMv (va_runV (As := [.int (nI (nV bt (ix ln) (eN bt (ix ln) cu))), .int (nI (nV bt (ix ln) (eN bt (ix ln) (eN bt (ix ln) cu))))]) (rest := []) ⟨hx, hb, hml, hown, hts⟩ (k_X3_exchange l D cI cL cS (b 2) (sCo s2) (sGu s2) (sKn s2) (sFo s2) (sSp s2) w2 (sKi s2) (sPl s2) (sEa s2) (sTo s2) (sQu s2) m2 n2 (nI (nV bt (ix ln) (eN bt (ix ln) cu))) (nI (nV bt (ix ln) (eN bt (ix ln) (eN bt (ix ln) cu)))) (va_DT (va_segD (hD _ rfl) 13 12 rfl) rfl) q1.2 q2.2 (exch_in o2.1.2.1 q1.2 q2.2 _ (ix_lt (by decide) q1.2)) (exch_in o2.1.2.1 q1.2 q2.2 _ (ix_lt (by decide) q2.2))) (cwV 2 hts gX0_tellChange_X3_exchange rfl rfl rfl (by decide +kernel) ⟨Nat.le_of_ble_eq_true rfl, Nat.le_of_ble_eq_true rfl⟩) ⟨PcR_fb, va_recv hK hP (ci := 1) (q0 := 13) rfl rfl, PcR_pre (va_seg hP 13 12 rfl) hK⟩ rfl rfl hl.1 rfl (lv_room (Nat.le_of_ble_eq_true rfl)) dX0_tellChange_53 ⟨Nat.zero_le _, Nat.zero_le _⟩) hP (hD _ rfl) hS 13 12 rfl (fun u_16 H locs hu_16 hP hS => ?_)
        have hP : va_P D vwCl (kcw cI cL cS b s1 w1 m1 n1 (uPl s2 (upd (upd (sPl s2) (ix (nI (nV bt (ix ln) (eN bt (ix ln) cu)))) ((sPl s2) (ix (nI (nV bt (ix ln) (eN bt (ix ln) (eN bt (ix ln) cu))))))) (ix (nI (nV bt (ix ln) (eN bt (ix ln) (eN bt (ix ln) cu))))) ((sPl s2) (ix (nI (nV bt (ix ln) (eN bt (ix ln) cu))))))) (upd (upd w2 (ix ((upd (upd (sPl s2) (ix (nI (nV bt (ix ln) (eN bt (ix ln) cu)))) ((sPl s2) (ix (nI (nV bt (ix ln) (eN bt (ix ln) (eN bt (ix ln) cu))))))) (ix (nI (nV bt (ix ln) (eN bt (ix ln) (eN bt (ix ln) cu))))) ((sPl s2) (ix (nI (nV bt (ix ln) (eN bt (ix ln) cu)))))) (ix (nI (nV bt (ix ln) (eN bt (ix ln) cu)))))) (nI (nV bt (ix ln) (eN bt (ix ln) cu)))) (ix ((upd (upd (sPl s2) (ix (nI (nV bt (ix ln) (eN bt (ix ln) cu)))) ((sPl s2) (ix (nI (nV bt (ix ln) (eN bt (ix ln) (eN bt (ix ln) cu))))))) (ix (nI (nV bt (ix ln) (eN bt (ix ln) (eN bt (ix ln) cu))))) ((sPl s2) (ix (nI (nV bt (ix ln) (eN bt (ix ln) cu)))))) (ix (nI (nV bt (ix ln) (eN bt (ix ln) (eN bt (ix ln) cu))))))) (nI (nV bt (ix ln) (eN bt (ix ln) (eN bt (ix ln) cu))))) m2 n2 s3 w3 m3 n3 ik bt ln tk_10 sb_11 en_12 (nI (nV bt (ix ln) (eN bt (ix ln) (eN bt (ix ln) cu)))) bits size num fnd) H := hP
        refine lv_aload_n hx hb dX0_tellChange_56 rfl (lv_at hl 1 rfl) ?_
        refine callMv (va_runV (As := []) (rest := []) ⟨hx, hb, hml, hown, hts⟩ (k_X4_next l D cI cL cS (b 4 0) (b 4 1) bt ln tk_10 sb_11 en_12 (nI (nV bt (ix ln) (eN bt (ix ln) (eN bt (ix ln) cu)))) (va_DT (va_segD (hD (kcw cI cL cS b s1 w1 m1 n1 (uPl s2 (upd (upd (sPl s2) (ix (nI (nV bt (ix ln) (eN bt (ix ln) cu)))) ((sPl s2) (ix (nI (nV bt (ix ln) (eN bt (ix ln) (eN bt (ix ln) cu))))))) (ix (nI (nV bt (ix ln) (eN bt (ix ln) (eN bt (ix ln) cu))))) ((sPl s2) (ix (nI (nV bt (ix ln) (eN bt (ix ln) cu))))))) (upd (upd w2 (ix ((upd (upd (sPl s2) (ix (nI (nV bt (ix ln) (eN bt (ix ln) cu)))) ((sPl s2) (ix (nI (nV bt (ix ln) (eN bt (ix ln) (eN bt (ix ln) cu))))))) (ix (nI (nV bt (ix ln) (eN bt (ix ln) (eN bt (ix ln) cu))))) ((sPl s2) (ix (nI (nV bt (ix ln) (eN bt (ix ln) cu)))))) (ix (nI (nV bt (ix ln) (eN bt (ix ln) cu)))))) (nI (nV bt (ix ln) (eN bt (ix ln) cu)))) (ix ((upd (upd (sPl s2) (ix (nI (nV bt (ix ln) (eN bt (ix ln) cu)))) ((sPl s2) (ix (nI (nV bt (ix ln) (eN bt (ix ln) (eN bt (ix ln) cu))))))) (ix (nI (nV bt (ix ln) (eN bt (ix ln) (eN bt (ix ln) cu))))) ((sPl s2) (ix (nI (nV bt (ix ln) (eN bt (ix ln) cu)))))) (ix (nI (nV bt (ix ln) (eN bt (ix ln) (eN bt (ix ln) cu))))))) (nI (nV bt (ix ln) (eN bt (ix ln) (eN bt (ix ln) cu))))) m2 n2 s3 w3 m3 n3 ik bt ln tk_10 sb_11 en_12 (nI (nV bt (ix ln) (eN bt (ix ln) (eN bt (ix ln) cu)))) bits size num fnd) rfl) 37 2 rfl) rfl) (eN bt (ix ln) (eN bt (ix ln) (eN bt (ix ln) cu))) ol hT.2.2.1 hT.st.2.1) (cwV 0 hts gX0_tellChange_X4_next rfl rfl rfl (by decide +kernel) ⟨Nat.le_of_ble_eq_true rfl, Nat.le_of_ble_eq_true rfl⟩) ⟨PcR_fb, va_recv hK hP (ci := 2) (q0 := 37) rfl rfl, PcR_pre (va_seg hP 37 2 rfl) hK⟩ rfl rfl hl.1 rfl (lv_room (Nat.le_of_ble_eq_true rfl)) dX0_tellChange_57 ⟨Nat.zero_le _, Nat.zero_le _⟩) hP (hD _ rfl) hS 37 2 rfl (fun u_18 H locs hu_18 hP hS => ?_)
        obtain ⟨tk_20, sb_21, en_22, nm_23⟩ := u_18
        have hu_18 : Tok bt (ix ln) (eN bt (ix ln) (eN bt (ix ln) (eN bt (ix ln) cu))) tk_20 sb_21 en_22 nm_23 := hu_18
        have hT := hu_18
        have hP : va_P D vwCl (kcw cI cL cS b s1 w1 m1 n1 (uPl s2 (upd (upd (sPl s2) (ix (nI (nV bt (ix ln) (eN bt (ix ln) cu)))) ((sPl s2) (ix (nI (nV bt (ix ln) (eN bt (ix ln) (eN bt (ix ln) cu))))))) (ix (nI (nV bt (ix ln) (eN bt (ix ln) (eN bt (ix ln) cu))))) ((sPl s2) (ix (nI (nV bt (ix ln) (eN bt (ix ln) cu))))))) (upd (upd w2 (ix ((upd (upd (sPl s2) (ix (nI (nV bt (ix ln) (eN bt (ix ln) cu)))) ((sPl s2) (ix (nI (nV bt (ix ln) (eN bt (ix ln) (eN bt (ix ln) cu))))))) (ix (nI (nV bt (ix ln) (eN bt (ix ln) (eN bt (ix ln) cu))))) ((sPl s2) (ix (nI (nV bt (ix ln) (eN bt (ix ln) cu)))))) (ix (nI (nV bt (ix ln) (eN bt (ix ln) cu)))))) (nI (nV bt (ix ln) (eN bt (ix ln) cu)))) (ix ((upd (upd (sPl s2) (ix (nI (nV bt (ix ln) (eN bt (ix ln) cu)))) ((sPl s2) (ix (nI (nV bt (ix ln) (eN bt (ix ln) (eN bt (ix ln) cu))))))) (ix (nI (nV bt (ix ln) (eN bt (ix ln) (eN bt (ix ln) cu))))) ((sPl s2) (ix (nI (nV bt (ix ln) (eN bt (ix ln) cu)))))) (ix (nI (nV bt (ix ln) (eN bt (ix ln) (eN bt (ix ln) cu))))))) (nI (nV bt (ix ln) (eN bt (ix ln) (eN bt (ix ln) cu))))) m2 n2 s3 w3 m3 n3 ik bt ln tk_20 sb_21 en_22 nm_23 bits size num fnd) H := hP
        refine lv_iconst (v := 1) hx hb dX0_tellChange_60 (by decide) ?_
        exact W.zret (ty := .boolean) hx hb hr rfl (fun t ht hW => ⟨⟨_, ((uPl s2 (upd (upd (sPl s2) (ix (nI (nV bt (ix ln) (eN bt (ix ln) cu)))) ((sPl s2) (ix (nI (nV bt (ix ln) (eN bt (ix ln) (eN bt (ix ln) cu))))))) (ix (nI (nV bt (ix ln) (eN bt (ix ln) (eN bt (ix ln) cu))))) ((sPl s2) (ix (nI (nV bt (ix ln) (eN bt (ix ln) cu))))))), upd (upd w2 (ix ((upd (upd (sPl s2) (ix (nI (nV bt (ix ln) (eN bt (ix ln) cu)))) ((sPl s2) (ix (nI (nV bt (ix ln) (eN bt (ix ln) (eN bt (ix ln) cu))))))) (ix (nI (nV bt (ix ln) (eN bt (ix ln) (eN bt (ix ln) cu))))) ((sPl s2) (ix (nI (nV bt (ix ln) (eN bt (ix ln) cu)))))) (ix (nI (nV bt (ix ln) (eN bt (ix ln) cu)))))) (nI (nV bt (ix ln) (eN bt (ix ln) cu)))) (ix ((upd (upd (sPl s2) (ix (nI (nV bt (ix ln) (eN bt (ix ln) cu)))) ((sPl s2) (ix (nI (nV bt (ix ln) (eN bt (ix ln) (eN bt (ix ln) cu))))))) (ix (nI (nV bt (ix ln) (eN bt (ix ln) (eN bt (ix ln) cu))))) ((sPl s2) (ix (nI (nV bt (ix ln) (eN bt (ix ln) cu)))))) (ix (nI (nV bt (ix ln) (eN bt (ix ln) (eN bt (ix ln) cu))))))) (nI (nV bt (ix ln) (eN bt (ix ln) (eN bt (ix ln) cu)))), tk_20, sb_21, en_22, nm_23), rfl, (by exact TI_t hN (TI_t ⟨hN2, c_15⟩ ⟨rfl, rfl, hT, ok_exch o2 q1.1 q2.1 (fun e => c_15 e.symm), Or.inr rfl⟩)), by dsimp only; rw [ht]; exact hP⟩, hS.F ht⟩) hS.2.2 dX0_tellChange_61
      · skip
        have c_15n := (cmp_eq (a := (nV bt (ix ln) (eN bt (ix ln) (eN bt (ix ln) cu)))) (b := (nV bt (ix ln) (eN bt (ix ln) cu))) rfl rfl (by omega) (by omega)).mp c_15
        refine lv_iconst (v := 0) hx hb dX0_tellChange_45 (by decide) ?_
        exact W.zret (ty := .boolean) hx hb hr rfl (fun t ht hW => ⟨⟨_, (s2, w2, tk_10, sb_11, en_12, (nI (nV bt (ix ln) (eN bt (ix ln) (eN bt (ix ln) cu))))), rfl, (by exact TI_t hN (TI_f (fun h => h.2 c_15) ⟨rfl, rfl, hT, o2, Or.inl rfl⟩)), by dsimp only; rw [ht]; exact hP⟩, hS.F ht⟩) hS.2.2 dX0_tellChange_46
  · skip
    have c_7b := bI_0 c_7
    refine lv_iconst (v := 0) hx hb dX0_tellChange_15 (by decide) ?_
    exact W.zret (ty := .boolean) hx hb hr rfl (fun t ht hW => ⟨⟨_, (s2, w2, tk_3, sb_4, en_5, nm_6), rfl, (by exact TI_f c_7b ⟨rfl, rfl, hT, o2, Or.inl rfl⟩), by dsimp only; rw [ht]; exact hP⟩, hS.F ht⟩) hS.2.2 dX0_tellChange_16

set_option maxRecDepth 100000 in
set_option maxHeartbeats 4000000 in
theorem k_X0_tellItem (l : Launch) (D : va_G) (cI cL cS : ClassId) (b : Nat → Nat → Nat) (s1 : Sg) (w1 m1 n1 : FI) (s2 : Sg) (w2 m2 n2 : FI) (s3 : Sg) (w3 m3 n3 : FI) (ik : Int32) (bt : FI) (ln tk sb en nm : Int32) (bits size : FI) (num : Nat → FJ) (fnd : FI) (ad av : Nat → Nat) (fm : Option Nat) (cu : Nat) (dj : va_D (fun _ => True) (djk b)) (o2 : okS s2 w2) (ol : vp_in ln 121) (hT : Tok bt (ix ln) cu tk sb en nm) : Met l yX0_tellItem wsX0_tellItem { frames := 7, cells := 0, slots := 0, locals := 153 } (PcQ ad av fm (Aof (kcw cI cL cS b s1 w1 m1 n1 s2 w2 m2 n2 s3 w3 m3 n3 ik bt ln tk sb en nm bits size num fnd)) D vwCl (tyG cI cL cS) [.ref (b 4 0), .ref (b 2 0)] (kcw cI cL cS b s1 w1 m1 n1 s2 w2 m2 n2 s3 w3 m3 n3 ik bt ln tk sb en nm bits size num fnd)) (va_Qi (fun (r : Int32) (u : Sg × FI × Int32 × Int32 × Int32 × Int32) => TI (tItem bt (ix ln) s2 cu) bt (ix ln) r u.1 u.2.1 u.2.2.1 u.2.2.2.1 u.2.2.2.2.1 u.2.2.2.2.2) (fun u t => va_P D vwCl (kcw cI cL cS b s1 w1 m1 n1 u.1 u.2.1 m2 n2 s3 w3 m3 n3 ik bt ln u.2.2.1 u.2.2.2.1 u.2.2.2.2.1 u.2.2.2.2.2 bits size num fnd) t.heap) (Aof (kcw cI cL cS b s1 w1 m1 n1 s2 w2 m2 n2 s3 w3 m3 n3 ik bt ln tk sb en nm bits size num fnd))) 0 0 (Aof (kcw cI cL cS b s1 w1 m1 n1 s2 w2 m2 n2 s3 w3 m3 n3 ik bt ln tk sb en nm bits size num fnd)) := by
  refine Met.ofW (cc := cX0_tellItem) (maxL := 3) (ret := (some .boolean)) (by decide) rfl ?_
  intro p e s m args below meth c s₁ B hml hv
  obtain ⟨rfl, hv⟩ := hv
  obtain ⟨hP, hK, hZ⟩ := hv
  have hx := B.exec
  have hb := B.bytes
  have hr := B.returns
  have hts := atoms_spec (ws := wsX0_tellItem) B.pre
  have hown : s.vm.findClass RX0 = some m.cls := findClass_of_methodNamed B.named
  have hlocks := B.notSynchronized
  obtain ⟨A, hAe⟩ : ∃ A, A = Aof (kcw cI cL cS b s1 w1 m1 n1 s2 w2 m2 n2 s3 w3 m3 n3 ik bt ln tk sb en nm bits size num fnd) := ⟨_, rfl⟩
  rw [← hAe]
  have hD : ∀ ws' : va_W, ws'.map Prod.fst = (kcw cI cL cS b s1 w1 m1 n1 s2 w2 m2 n2 s3 w3 m3 n3 ik bt ln tk sb en nm bits size num fnd).map Prod.fst → va_D A ws' := fun ws' e => by rw [hAe]; exact va_D_adr (va_D_self (va_D_adr dj rfl)) e
  have hS : va_S A s.heap s.heap [] := va_S.rf
  have hP : va_P D vwCl (kcw cI cL cS b s1 w1 m1 n1 s2 w2 m2 n2 s3 w3 m3 n3 ik bt ln tk sb en nm bits size num fnd) s.heap := hP
  have hl := lv_entry ([.ref (b 4 0), .ref (b 2 0)]) (n := 3) (Nat.le_of_ble_eq_true rfl)
  rw [lg_entry_eq]
  generalize (lg_sl ([.ref (b 4 0), .ref (b 2 0)]) ++ List.replicate (3 - (lg_sl ([.ref (b 4 0), .ref (b 2 0)])).length) Slot.unset).toArray = ls at hl ⊢
  have hl : lv_has ls 3 [(0, .ref (b 4 0)), (1, .ref (b 2 0))] := hl
  have f48 := hts (.fieldLink RX0 48 "KnivesLaid$Table" "guests" "I") (List.mem_of_getElem? (i := 1) rfl)
  have inX3 : ∀ w ∈ u_ws RX3 TX3 13, w ∈ wsX0_tellItem := in_at 121 _ _ rfl
  skip
  have hZ : SX ad av fm A s s.heap := by rw [hAe]; exact hZ
  refine lv_aload_n hx hb dX0_tellItem_0 rfl (lv_at hl 0 rfl) ?_
  refine va_ldcS hx hb hown (hZ.2.2.2 6 (by decide)) dX0_tellItem_1 ?_
  refine callE (W.runV (As := [.ref (ad 6)]) (rest := []) ⟨hx, hb, hml, hown, hts⟩ (k_X4_isWord l D cI cL cS (b 4 0) (b 4 1) bt ln tk sb en nm ad av fm 6 cu (by decide) hT) (cwV 1 hts gX0_tellItem_X4_isWord rfl rfl rfl (by decide +kernel) ⟨Nat.le_of_ble_eq_true rfl, Nat.le_of_ble_eq_true rfl⟩) ⟨PcQ_fb, va_recv hK hP (ci := 2) (q0 := 37) rfl rfl, PcQ_pre (va_seg hP 37 2 rfl) hK hZ hS (fun _ h => h.elim)⟩ rfl rfl hl.1 rfl (lv_room (Nat.le_of_ble_eq_true rfl)) dX0_tellItem_3 ⟨Nat.zero_le _, Nat.zero_le _⟩) ?_
  refine lv_if_eq (tgt := 15) hx hb dX0_tellItem_6 (by decide) (fun c_1 => ?_) (fun c_1 => ?_)
  · skip
    have c_1b := bI_0 c_1
    refine lv_aload_n hx hb dX0_tellItem_15 rfl (lv_at hl 0 rfl) ?_
    refine va_ldcS hx hb hown (hZ.2.2.2 7 (by decide)) dX0_tellItem_16 ?_
    refine callE (W.runV (As := [.ref (ad 7)]) (rest := []) ⟨hx, hb, hml, hown, hts⟩ (k_X4_isWord l D cI cL cS (b 4 0) (b 4 1) bt ln tk sb en nm ad av fm 7 cu (by decide) hT) (cwV 1 hts gX0_tellItem_X4_isWord rfl rfl rfl (by decide +kernel) ⟨Nat.le_of_ble_eq_true rfl, Nat.le_of_ble_eq_true rfl⟩) ⟨PcQ_fb, va_recv hK hP (ci := 2) (q0 := 37) rfl rfl, PcQ_pre (va_seg hP 37 2 rfl) hK hZ hS (fun _ h => h.elim)⟩ rfl rfl hl.1 rfl (lv_room (Nat.le_of_ble_eq_true rfl)) dX0_tellItem_18 ⟨Nat.zero_le _, Nat.zero_le _⟩) ?_
    refine lv_if_eq (tgt := 30) hx hb dX0_tellItem_21 (by decide) (fun c_2 => ?_) (fun c_2 => ?_)
    · skip
      have c_2b := bI_0 c_2
      refine lv_aload_n hx hb dX0_tellItem_30 rfl (lv_at hl 0 rfl) ?_
      refine callE (W.runS (As := [.ref (b 4 0)]) (rest := []) ⟨hx, hb, hml, hown, hts⟩ (k_X0_kindNamed l D cI cL cS b s1 w1 m1 n1 s2 w2 m2 n2 s3 w3 m3 n3 ik bt ln tk sb en nm bits size num fnd ad av fm cu hT) (va_cwS 1 hts gX0_tellItem_X0_kindNamed rfl rfl rfl (by decide +kernel) ⟨Nat.le_of_ble_eq_true rfl, Nat.le_of_ble_eq_true rfl⟩) ⟨PcQ_fb, PcQ_pre hP hK hZ hS (fun _ h => h.elim)⟩ rfl rfl hl.1 rfl (lv_room (Nat.le_of_ble_eq_true rfl)) dX0_tellItem_31 ⟨Nat.zero_le _, Nat.zero_le _⟩) ?_
      refine lv_istore_n (lv' := [(2, .int (tKd bt (ix ln) cu)), (0, .ref (b 4 0)), (1, .ref (b 2 0))]) hx hb dX0_tellItem_34 rfl hl (by decide) rfl (fun ls hl => ?_)
      refine lv_iload_n hx hb dX0_tellItem_35 rfl (lv_at hl 0 rfl) ?_
      refine lv_if_lt (tgt := 61) hx hb dX0_tellItem_36 (by decide) (fun c_3 => ?_) (fun c_3 => ?_)
      · skip
        refine lv_iconst (v := 0) hx hb dX0_tellItem_61 (by decide) ?_
        exact W.zret (ty := .boolean) hx hb hr rfl (fun t ht hW => ⟨⟨_, (s2, w2, tk, sb, en, nm), rfl, (by exact TI_f c_1b (TI_f c_2b (TI_t c_3 ⟨rfl, rfl, hT, o2, Or.inl rfl⟩))), by dsimp only; rw [ht]; exact hP⟩, hS.F ht⟩) hS.2.2 dX0_tellItem_62
      · skip
        refine lv_aload_n hx hb dX0_tellItem_39 rfl (lv_at hl 2 rfl) ?_
        refine va_get (ci := 1) (v := .int (sGu s2)) (C := RX3) (T := TX3) (N := 13) hx hb hts inX3 hown hK hP 13 rfl rfl 5 (by decide) f48 (fun _ h9 => h9) rfl dX0_tellItem_40 ?_
        refine lv_bipush (v := 8) hx hb dX0_tellItem_43 (by decide) ?_
        refine lv_icmp_ge (tgt := 61) hx hb dX0_tellItem_45 (by decide) (fun c_4 => ?_) (fun c_4 => ?_)
        · skip
          refine lv_iconst (v := 0) hx hb dX0_tellItem_61 (by decide) ?_
          exact W.zret (ty := .boolean) hx hb hr rfl (fun t ht hW => ⟨⟨_, (s2, w2, tk, sb, en, nm), rfl, (by exact TI_f c_1b (TI_f c_2b (TI_f c_3 (TI_t c_4 ⟨rfl, rfl, hT, o2, Or.inl rfl⟩)))), by dsimp only; rw [ht]; exact hP⟩, hS.F ht⟩) hS.2.2 dX0_tellItem_62
        · skip
          refine lv_aload_n hx hb dX0_tellItem_48 rfl (lv_at hl 1 rfl) ?_
          refine lv_aload_n hx hb dX0_tellItem_49 rfl (lv_at hl 2 rfl) ?_
          refine lv_iload_n hx hb dX0_tellItem_50 rfl (lv_at hl 0 rfl) ?_
          refine callMi (va_runS (As := [.ref (b 4 0), .ref (b 2 0), .int (tKd bt (ix ln) cu)]) (rest := []) ⟨hx, hb, hml, hown, hts⟩ (k_X0_tellGuest l D cI cL cS b s1 w1 m1 n1 s2 w2 m2 n2 s3 w3 m3 n3 ik bt ln tk sb en nm bits size num fnd ad av fm cu (tKd bt (ix ln) cu) (va_DT (hD _ rfl) rfl) (tKd_6 c_3) (gu8_in o2.1.gu (Int32.not_le.mp c_4)) o2 ol hT) (va_cwS 3 hts gX0_tellItem_X0_tellGuest rfl rfl rfl (by decide +kernel) ⟨Nat.le_of_ble_eq_true rfl, Nat.le_of_ble_eq_true rfl⟩) ⟨PcQ_fb, PcQ_pre hP hK hZ hS (Aof_in (hD _ rfl))⟩ rfl rfl hl.1 rfl (lv_room (Nat.le_of_ble_eq_true rfl)) dX0_tellItem_51 ⟨Nat.zero_le _, Nat.zero_le _⟩) hP (hD _ rfl) hS 0 49 rfl (fun r_6 u_5 H locs hu_5 hP hS => ?_)
          obtain ⟨s2_7, w2_8, tk_9, sb_10, en_11, nm_12⟩ := u_5
          have hI : TI (tGst bt (ix ln) s2 (tKd bt (ix ln) cu) (eN bt (ix ln) cu)) bt (ix ln) r_6 s2_7 w2_8 tk_9 sb_10 en_11 nm_12 := hu_5
          have hP : va_P D vwCl (kcw cI cL cS b s1 w1 m1 n1 s2_7 w2_8 m2 n2 s3 w3 m3 n3 ik bt ln tk_9 sb_10 en_11 nm_12 bits size num fnd) H := hP
          refine lv_if_eq (tgt := 61) hx hb dX0_tellItem_54 (by decide) (fun c_13 => ?_) (fun c_13 => ?_)
          · skip
            refine lv_iconst (v := 0) hx hb dX0_tellItem_61 (by decide) ?_
            exact W.zret (ty := .boolean) hx hb hr rfl (fun t ht hW => ⟨⟨_, (s2_7, w2_8, tk_9, sb_10, en_11, nm_12), rfl, (by exact TI_f c_1b (TI_f c_2b (TI_f c_3 (TI_f c_4 ((c_13) ▸ hI))))), by dsimp only; rw [ht]; exact hP⟩, hS.F ht⟩) hS.2.2 dX0_tellItem_62
          · skip
            refine lv_iconst (v := 1) hx hb dX0_tellItem_57 (by decide) ?_
            refine lv_goto (tgt := 62) hx hb dX0_tellItem_58 (by decide) ?_
            exact W.zret (ty := .boolean) hx hb hr rfl (fun t ht hW => ⟨⟨_, (s2_7, w2_8, tk_9, sb_10, en_11, nm_12), rfl, (by exact TI_f c_1b (TI_f c_2b (TI_f c_3 (TI_f c_4 ((hI.2.2.2.2.resolve_left c_13) ▸ hI))))), by dsimp only; rw [ht]; exact hP⟩, hS.F ht⟩) hS.2.2 dX0_tellItem_62
    · skip
      have c_2b := bI_n c_2
      refine lv_aload_n hx hb dX0_tellItem_24 rfl (lv_at hl 0 rfl) ?_
      refine lv_aload_n hx hb dX0_tellItem_25 rfl (lv_at hl 1 rfl) ?_
      refine callMi (va_runS (As := [.ref (b 4 0), .ref (b 2 0)]) (rest := []) ⟨hx, hb, hml, hown, hts⟩ (k_X0_tellChange l D cI cL cS b s1 w1 m1 n1 s2 w2 m2 n2 s3 w3 m3 n3 ik bt ln tk sb en nm bits size num fnd ad av fm cu (va_DT (hD _ rfl) rfl) o2 ol hT) (va_cwS 2 hts gX0_tellItem_X0_tellChange rfl rfl rfl (by decide +kernel) ⟨Nat.le_of_ble_eq_true rfl, Nat.le_of_ble_eq_true rfl⟩) ⟨PcQ_fb, PcQ_pre hP hK hZ hS (Aof_in (hD _ rfl))⟩ rfl rfl hl.1 rfl (lv_room (Nat.le_of_ble_eq_true rfl)) dX0_tellItem_26 ⟨Nat.zero_le _, Nat.zero_le _⟩) hP (hD _ rfl) hS 0 49 rfl (fun r_15 u_14 H locs hu_14 hP hS => ?_)
      obtain ⟨s2_16, w2_17, tk_18, sb_19, en_20, nm_21⟩ := u_14
      have hI : TI (tChg bt (ix ln) s2 (eN bt (ix ln) cu)) bt (ix ln) r_15 s2_16 w2_17 tk_18 sb_19 en_20 nm_21 := hu_14
      have hP : va_P D vwCl (kcw cI cL cS b s1 w1 m1 n1 s2_16 w2_17 m2 n2 s3 w3 m3 n3 ik bt ln tk_18 sb_19 en_20 nm_21 bits size num fnd) H := hP
      exact W.zret (ty := .boolean) hx hb hr (by exact nar01 hI.2.2.2.2) (fun t ht hW => ⟨⟨_, (s2_16, w2_17, tk_18, sb_19, en_20, nm_21), rfl, (by exact TI_f c_1b (TI_t c_2b hI)), by dsimp only; rw [ht]; exact hP⟩, hS.F ht⟩) hS.2.2 dX0_tellItem_29
  · skip
    have c_1b := bI_n c_1
    refine lv_aload_n hx hb dX0_tellItem_9 rfl (lv_at hl 0 rfl) ?_
    refine lv_aload_n hx hb dX0_tellItem_10 rfl (lv_at hl 1 rfl) ?_
    refine callMi (va_runS (As := [.ref (b 4 0), .ref (b 2 0)]) (rest := []) ⟨hx, hb, hml, hown, hts⟩ (k_X0_tellLaying l D cI cL cS b s1 w1 m1 n1 s2 w2 m2 n2 s3 w3 m3 n3 ik bt ln tk sb en nm bits size num fnd ad av fm cu (va_DT (hD _ rfl) rfl) o2 ol hT) (va_cwS 2 hts gX0_tellItem_X0_tellLaying rfl rfl rfl (by decide +kernel) ⟨Nat.le_of_ble_eq_true rfl, Nat.le_of_ble_eq_true rfl⟩) ⟨PcQ_fb, PcQ_pre hP hK hZ hS (Aof_in (hD _ rfl))⟩ rfl rfl hl.1 rfl (lv_room (Nat.le_of_ble_eq_true rfl)) dX0_tellItem_11 ⟨Nat.zero_le _, Nat.zero_le _⟩) hP (hD _ rfl) hS 0 49 rfl (fun r_23 u_22 H locs hu_22 hP hS => ?_)
    obtain ⟨s2_24, w2_25, tk_26, sb_27, en_28, nm_29⟩ := u_22
    have hI : TI (tLay bt (ix ln) s2 (eN bt (ix ln) cu)) bt (ix ln) r_23 s2_24 w2_25 tk_26 sb_27 en_28 nm_29 := hu_22
    have hP : va_P D vwCl (kcw cI cL cS b s1 w1 m1 n1 s2_24 w2_25 m2 n2 s3 w3 m3 n3 ik bt ln tk_26 sb_27 en_28 nm_29 bits size num fnd) H := hP
    exact W.zret (ty := .boolean) hx hb hr (by exact nar01 hI.2.2.2.2) (fun t ht hW => ⟨⟨_, (s2_24, w2_25, tk_26, sb_27, en_28, nm_29), rfl, (by exact TI_t c_1b hI), by dsimp only; rw [ht]; exact hP⟩, hS.F ht⟩) hS.2.2 dX0_tellItem_14

set_option maxRecDepth 100000 in
set_option maxHeartbeats 4000000 in
theorem k_X0_tell (l : Launch) (D : va_G) (cI cL cS : ClassId) (b : Nat → Nat → Nat) (s1 : Sg) (w1 m1 n1 : FI) (s2 : Sg) (w2 m2 n2 : FI) (s3 : Sg) (w3 m3 n3 : FI) (ik : Int32) (bt : FI) (ln tk sb en nm : Int32) (bits size : FI) (num : Nat → FJ) (fnd : FI) (ad av : Nat → Nat) (fm : Option Nat) (cu : Nat) (dj : va_D (fun _ => True) (djk b)) (o2 : okS s2 w2) (ol : vp_in ln 121) : Met l yX0_tell wsX0_tell { frames := 8, cells := 0, slots := 0, locals := 175 } (PcQ ad av fm (Aof (kcw cI cL cS b s1 w1 m1 n1 s2 w2 m2 n2 s3 w3 m3 n3 ik bt ln tk sb en nm bits size num fnd)) D vwCl (tyG cI cL cS) [.ref (b 4 0), .ref (b 2 0)] (kcw cI cL cS b s1 w1 m1 n1 s2 w2 m2 n2 s3 w3 m3 n3 ik bt ln tk sb en nm bits size num fnd)) (va_Qi (fun (r : Int32) (u : Sg × FI × Int32 × Int32 × Int32 × Int32) => (r, u.1) = tTell bt (ix ln) 120 1 s2 0 ∧ okS u.1 u.2.1) (fun u t => va_P D vwCl (kcw cI cL cS b s1 w1 m1 n1 u.1 u.2.1 m2 n2 s3 w3 m3 n3 ik bt ln u.2.2.1 u.2.2.2.1 u.2.2.2.2.1 u.2.2.2.2.2 bits size num fnd) t.heap) (Aof (kcw cI cL cS b s1 w1 m1 n1 s2 w2 m2 n2 s3 w3 m3 n3 ik bt ln tk sb en nm bits size num fnd))) 0 0 (Aof (kcw cI cL cS b s1 w1 m1 n1 s2 w2 m2 n2 s3 w3 m3 n3 ik bt ln tk sb en nm bits size num fnd)) := by
  refine Met.ofW (cc := cX0_tell) (maxL := 3) (ret := (some .int)) (by decide) rfl ?_
  intro p e s m args below meth c s₁ B hml hv
  obtain ⟨rfl, hv⟩ := hv
  obtain ⟨hP, hK, hZ⟩ := hv
  have hx := B.exec
  have hb := B.bytes
  have hr := B.returns
  have hts := atoms_spec (ws := wsX0_tell) B.pre
  have hown : s.vm.findClass RX0 = some m.cls := findClass_of_methodNamed B.named
  have hlocks := B.notSynchronized
  obtain ⟨A, hAe⟩ : ∃ A, A = Aof (kcw cI cL cS b s1 w1 m1 n1 s2 w2 m2 n2 s3 w3 m3 n3 ik bt ln tk sb en nm bits size num fnd) := ⟨_, rfl⟩
  rw [← hAe]
  have hD : ∀ ws' : va_W, ws'.map Prod.fst = (kcw cI cL cS b s1 w1 m1 n1 s2 w2 m2 n2 s3 w3 m3 n3 ik bt ln tk sb en nm bits size num fnd).map Prod.fst → va_D A ws' := fun ws' e => by rw [hAe]; exact va_D_adr (va_D_self (va_D_adr dj rfl)) e
  have hS : va_S A s.heap s.heap [] := va_S.rf
  have hP : va_P D vwCl (kcw cI cL cS b s1 w1 m1 n1 s2 w2 m2 n2 s3 w3 m3 n3 ik bt ln tk sb en nm bits size num fnd) s.heap := hP
  have hl := lv_entry ([.ref (b 4 0), .ref (b 2 0)]) (n := 3) (Nat.le_of_ble_eq_true rfl)
  rw [lg_entry_eq]
  generalize (lg_sl ([.ref (b 4 0), .ref (b 2 0)]) ++ List.replicate (3 - (lg_sl ([.ref (b 4 0), .ref (b 2 0)])).length) Slot.unset).toArray = ls at hl ⊢
  have hl : lv_has ls 3 [(0, .ref (b 4 0)), (1, .ref (b 2 0))] := hl
  have f23 := hts (.fieldLink RX0 23 "KnivesLaid$Tape" "token" "I") (List.mem_of_getElem? (i := 1) rfl)
  have inX4 : ∀ w ∈ u_ws RX4 TX4 6, w ∈ wsX0_tell := in_at 130 _ _ rfl
  have f27 := hts (.fieldLink RX0 27 "KnivesLaid$Tape" "start" "I") (List.mem_of_getElem? (i := 2) rfl)
  skip
  have hZ : SX ad av fm A s s.heap := by rw [hAe]; exact hZ
  have hln := ln_of ol
  have hl120 := hln.2
  refine lv_aload_n hx hb dX0_tell_0 rfl (lv_at hl 0 rfl) ?_
  refine callMv (va_runV (As := []) (rest := []) ⟨hx, hb, hml, hown, hts⟩ (k_X4_rewind l D cI cL cS (b 4 0) (b 4 1) bt ln tk sb en nm (va_DT (va_segD (hD (kcw cI cL cS b s1 w1 m1 n1 s2 w2 m2 n2 s3 w3 m3 n3 ik bt ln tk sb en nm bits size num fnd) rfl) 37 2 rfl) rfl)) (cwV 0 hts gX0_tell_X4_rewind rfl rfl rfl (by decide +kernel) ⟨Nat.le_of_ble_eq_true rfl, Nat.le_of_ble_eq_true rfl⟩) ⟨PcR_fb, va_recv hK hP (ci := 2) (q0 := 37) rfl rfl, PcR_pre (va_seg hP 37 2 rfl) hK⟩ rfl rfl hl.1 rfl (lv_room (Nat.le_of_ble_eq_true rfl)) dX0_tell_1 ⟨Nat.zero_le _, Nat.zero_le _⟩) hP (hD _ rfl) hS 37 2 rfl (fun u_1 H locs hu_1 hP hS => ?_)
  have hP : va_P D vwCl (kcw cI cL cS b s1 w1 m1 n1 s2 w2 m2 n2 s3 w3 m3 n3 ik bt ln 0 0 0 0 bits size num fnd) H := hP
  have hP : va_P D vwCl (kcw cI cL cS b s1 w1 m1 n1 s2 w2 m2 n2 s3 w3 m3 n3 ik bt ln 0 0 (nI 0) 0 bits size num fnd) H := by exact hP
  refine lv_iconst (v := 1) hx hb dX0_tell_4 (by decide) ?_
  refine lv_istore_n (lv' := [(2, .int 1), (0, .ref (b 4 0)), (1, .ref (b 2 0))]) hx hb dX0_tell_5 rfl hl (by decide) rfl (fun ls hl => ?_)
  refine lpW (fun n (u : Nat × Nat × Sg × FI × Int32 × Int32 × Int32 × Int32) H locs ls => (u.1 + n = 120) ∧ (u.2.2.2.2.2.2.1 = nI u.2.1) ∧ (2 * u.1 ≤ u.2.1) ∧ (u.2.1 ≤ ix ln) ∧ (tTell bt (ix ln) 120 1 s2 0 = tTell bt (ix ln) n (nI (u.1 + 1)) u.2.2.1 u.2.1) ∧ (okS u.2.2.1 u.2.2.2.1) ∧ va_P D vwCl (kcw cI cL cS b s1 w1 m1 n1 u.2.2.1 u.2.2.2.1 m2 n2 s3 w3 m3 n3 ik bt ln u.2.2.2.2.1 u.2.2.2.2.2.1 u.2.2.2.2.2.2.1 u.2.2.2.2.2.2.2 bits size num fnd) H ∧ va_S A s.heap H locs ∧ lv_has ls 3 [(0, .ref (b 4 0)), (1, .ref (b 2 0)), (2, .int (nI (u.1 + 1)))]) (120) ((0, 0, s2, w2, 0, 0, nI 0, 0)) ⟨rfl, rfl, Nat.le_refl 0, Nat.zero_le _, rfl, o2, hP, hS, lv_sub hl [1, 2, 0] rfl⟩ (fun n ih u H locs ls hI => ?_)
  obtain ⟨i, c, σ, w9, tk9, sb9, en9, nm9⟩ := u
  obtain ⟨hi0, hi1, hi2, hi3, hi4, hi5, hP, hS, hl⟩ := hI
  have hi0 : i + n = 120 := hi0
  have hi1 : en9 = nI c := hi1
  have hi2 : 2 * i ≤ c := hi2
  have hi3 : c ≤ ix ln := hi3
  have hi4 : tTell bt (ix ln) 120 1 s2 0 = tTell bt (ix ln) n (nI (i + 1)) σ c := hi4
  have hi5 : okS σ w9 := hi5
  have hl : lv_has ls 3 [(0, .ref (b 4 0)), (1, .ref (b 2 0)), (2, .int (nI (i + 1)))] := hl
  have hP : va_P D vwCl (kcw cI cL cS b s1 w1 m1 n1 σ w9 m2 n2 s3 w3 m3 n3 ik bt ln tk9 sb9 en9 nm9 bits size num fnd) H := hP
  refine lv_iload_n hx hb dX0_tell_6 rfl (lv_at hl 2 rfl) ?_
  refine lv_bipush (v := 120) hx hb dX0_tell_7 (by decide) ?_
  refine lv_icmp_gt (tgt := 53) hx hb dX0_tell_9 (by decide) (fun c_3 => ?_) (fun c_3 => ?_)
  · skip
    have c_3n := (cmp_lt (a := 120) (b := (i + 1)) rfl rfl (by omega) (by omega)).mp c_3
    exact absurd c_3n (by omega)
  · skip
    have c_3n := mt (cmp_lt (a := 120) (b := (i + 1)) rfl rfl (by omega) (by omega)).mpr c_3
    refine lv_aload_n hx hb dX0_tell_12 rfl (lv_at hl 0 rfl) ?_
    refine callMv (va_runV (As := []) (rest := []) ⟨hx, hb, hml, hown, hts⟩ (k_X4_next l D cI cL cS (b 4 0) (b 4 1) bt ln tk9 sb9 en9 nm9 (va_DT (va_segD (hD (kcw cI cL cS b s1 w1 m1 n1 σ w9 m2 n2 s3 w3 m3 n3 ik bt ln tk9 sb9 en9 nm9 bits size num fnd) rfl) 37 2 rfl) rfl) c ol hi1 hi3) (cwV 0 hts gX0_tell_X4_next rfl rfl rfl (by decide +kernel) ⟨Nat.le_of_ble_eq_true rfl, Nat.le_of_ble_eq_true rfl⟩) ⟨PcR_fb, va_recv hK hP (ci := 2) (q0 := 37) rfl rfl, PcR_pre (va_seg hP 37 2 rfl) hK⟩ rfl rfl hl.1 rfl (lv_room (Nat.le_of_ble_eq_true rfl)) dX0_tell_13 ⟨Nat.zero_le _, Nat.zero_le _⟩) hP (hD _ rfl) hS 37 2 rfl (fun u_4 H locs hu_4 hP hS => ?_)
    obtain ⟨tk_6, sb_7, en_8, nm_9⟩ := u_4
    have hu_4 : Tok bt (ix ln) c tk_6 sb_7 en_8 nm_9 := hu_4
    have hT := hu_4
    have hP : va_P D vwCl (kcw cI cL cS b s1 w1 m1 n1 σ w9 m2 n2 s3 w3 m3 n3 ik bt ln tk_6 sb_7 en_8 nm_9 bits size num fnd) H := hP
    refine lv_aload_n hx hb dX0_tell_16 rfl (lv_at hl 0 rfl) ?_
    refine lv_aload_n hx hb dX0_tell_17 rfl (lv_at hl 1 rfl) ?_
    refine callMi (va_runS (As := [.ref (b 4 0), .ref (b 2 0)]) (rest := []) ⟨hx, hb, hml, hown, hts⟩ (k_X0_tellItem l D cI cL cS b s1 w1 m1 n1 σ w9 m2 n2 s3 w3 m3 n3 ik bt ln tk_6 sb_7 en_8 nm_9 bits size num fnd ad av fm c (va_DT (hD _ rfl) rfl) hi5 ol hT) (va_cwS 2 hts gX0_tell_X0_tellItem rfl rfl rfl (by decide +kernel) ⟨Nat.le_of_ble_eq_true rfl, Nat.le_of_ble_eq_true rfl⟩) ⟨PcQ_fb, PcQ_pre hP hK hZ hS (Aof_in (hD _ rfl))⟩ rfl rfl hl.1 rfl (lv_room (Nat.le_of_ble_eq_true rfl)) dX0_tell_18 ⟨Nat.zero_le _, Nat.zero_le _⟩) hP (hD _ rfl) hS 0 49 rfl (fun r_11 u_10 H locs hu_10 hP hS => ?_)
    obtain ⟨s2_12, w2_13, tk_14, sb_15, en_16, nm_17⟩ := u_10
    have hI : TI (tItem bt (ix ln) σ c) bt (ix ln) r_11 s2_12 w2_13 tk_14 sb_15 en_16 nm_17 := hu_10
    have hP : va_P D vwCl (kcw cI cL cS b s1 w1 m1 n1 s2_12 w2_13 m2 n2 s3 w3 m3 n3 ik bt ln tk_14 sb_15 en_16 nm_17 bits size num fnd) H := hP
    refine lv_if_ne (tgt := 27) hx hb dX0_tell_21 (by decide) (fun c_18 => ?_) (fun c_18 => ?_)
    · skip
      refine lv_aload_n hx hb dX0_tell_27 rfl (lv_at hl 0 rfl) ?_
      refine va_get (ci := 2) (v := .int tk_14) (C := RX4) (T := TX4) (N := 6) hx hb hts inX4 hown hK hP 37 rfl rfl 2 (by decide) f23 (fun _ h9 => h9) rfl dX0_tell_28 ?_
      refine lv_if_ne (tgt := 36) hx hb dX0_tell_31 (by decide) (fun c_19 => ?_) (fun c_19 => ?_)
      · skip
        refine lv_aload_n hx hb dX0_tell_36 rfl (lv_at hl 0 rfl) ?_
        refine va_get (ci := 2) (v := .int tk_14) (C := RX4) (T := TX4) (N := 6) hx hb hts inX4 hown hK hP 37 rfl rfl 2 (by decide) f23 (fun _ h9 => h9) rfl dX0_tell_37 ?_
        refine lv_iconst (v := 3) hx hb dX0_tell_40 (by decide) ?_
        refine lv_icmp_eq (tgt := 47) hx hb dX0_tell_41 (by decide) (fun c_20 => ?_) (fun c_20 => ?_)
        · skip
          refine lv_iinc (v := nI ((i + 1) + 1)) (lv' := [(2, .int (nI ((i + 1) + 1))), (0, .ref (b 4 0)), (1, .ref (b 2 0))]) hx hb dX0_tell_47 hl (k := 2) rfl (nI_1 _) (by decide) rfl (fun ls hl => ?_)
          refine lv_goto (tgt := 6) hx hb dX0_tell_50 (by decide) ?_
          have hx3 : tK bt (ix ln) (tItem bt (ix ln) σ c).2.2 = 3 := hI.2.2.1.1.symm.trans c_20
          have hx0 : ¬ (tItem bt (ix ln) σ c).1 = 0 := fun q => c_18 (hI.1.trans q)
          have hg1 := (tItem_gt bt (ix ln) σ c).resolve_left hx0
          have hg2 : (tItem bt (ix ln) σ c).2.2 < eN bt (ix ln) (tItem bt (ix ln) σ c).2.2 := eN_gt (by rw [hx3]; decide)
          exact ih (n - 1) (by omega) ((i + 1, eN bt (ix ln) (tItem bt (ix ln) σ c).2.2, s2_12, w2_13, tk_14, sb_15, en_16, nm_17)) H locs ls ⟨by omega, hI.2.2.1.2.2.1, by show 2 * (i + 1) ≤ eN bt (ix ln) (tItem bt (ix ln) σ c).2.2; omega, hI.2.2.1.st.2.1, by have q := hi4.trans (tell_s (by omega) hx0 hx3); rw [nI_1, ← hI.2.1] at q; exact q, hI.2.2.2.1, hP, hS, lv_sub hl [1, 2, 0] rfl⟩
        · skip
          refine lv_goto (tgt := 53) hx hb dX0_tell_44 (by decide) ?_
          refine lv_iconst (v := (-1)) hx hb dX0_tell_53 (by decide) ?_
          refine lv_aload_n hx hb dX0_tell_54 rfl (lv_at hl 0 rfl) ?_
          refine va_get (ci := 2) (v := .int sb_15) (C := RX4) (T := TX4) (N := 6) hx hb hts inX4 hown hK hP 37 rfl rfl 3 (by decide) f27 (fun _ h9 => h9) rfl dX0_tell_55 ?_
          refine lv_isub hx hb dX0_tell_58 ?_
          exact W.iret hx hb hr (fun t ht hW => ⟨⟨_, (s2_12, w2_13, tk_14, sb_15, en_16, nm_17), rfl, (by exact ⟨by rw [hi4, tell_o (by omega) (fun q => c_18 (hI.1.trans q)) (fun q => c_19 (hI.2.2.1.1.trans q)) (fun q => c_20 (hI.2.2.1.1.trans q)), hI.2.1, hI.2.2.1.2.1], hI.2.2.2.1⟩), by dsimp only; rw [ht]; exact hP⟩, hS.F ht⟩) hS.2.2 dX0_tell_59
      · skip
        refine lv_iload_n hx hb dX0_tell_34 rfl (lv_at hl 2 rfl) ?_
        exact W.iret hx hb hr (fun t ht hW => ⟨⟨_, (s2_12, w2_13, tk_14, sb_15, en_16, nm_17), rfl, (by exact ⟨by rw [hi4, tell_e (by omega) (fun q => c_18 (hI.1.trans q)) (hI.2.2.1.1.symm.trans c_19), hI.2.1], hI.2.2.2.1⟩), by dsimp only; rw [ht]; exact hP⟩, hS.F ht⟩) hS.2.2 dX0_tell_35
    · skip
      refine lv_goto (tgt := 53) hx hb dX0_tell_24 (by decide) ?_
      refine lv_iconst (v := (-1)) hx hb dX0_tell_53 (by decide) ?_
      refine lv_aload_n hx hb dX0_tell_54 rfl (lv_at hl 0 rfl) ?_
      refine va_get (ci := 2) (v := .int sb_15) (C := RX4) (T := TX4) (N := 6) hx hb hts inX4 hown hK hP 37 rfl rfl 3 (by decide) f27 (fun _ h9 => h9) rfl dX0_tell_55 ?_
      refine lv_isub hx hb dX0_tell_58 ?_
      exact W.iret hx hb hr (fun t ht hW => ⟨⟨_, (s2_12, w2_13, tk_14, sb_15, en_16, nm_17), rfl, (by exact ⟨by rw [hi4, tell_0 (by omega) (hI.1.symm.trans c_18), hI.2.1, hI.2.2.1.2.1], hI.2.2.2.1⟩), by dsimp only; rw [ht]; exact hP⟩, hS.F ht⟩) hS.2.2 dX0_tell_59

set_option maxRecDepth 100000 in
set_option maxHeartbeats 4000000 in
theorem k_X5_dinner (l : Launch) (D : va_G) (cI cL cS : ClassId) (b : Nat → Nat → Nat) (s1 : Sg) (w1 m1 n1 : FI) (s2 : Sg) (w2 m2 n2 : FI) (s3 : Sg) (w3 m3 n3 : FI) (ik : Int32) (bt : FI) (ln tk sb en nm : Int32) (bits size : FI) (num : Nat → FJ) (fnd : FI) (ad av : Nat → Nat) (fm : Option Nat) (cu : Nat) (dj : va_D (fun _ => True) (djk b)) (o1 : okS s1 w1) (ol : vp_in ln 121) : Met l yX5_dinner wsX5_dinner { frames := 9, cells := 0, slots := 0, locals := 197 } (PcQ ad av fm (Aof (kcw cI cL cS b s1 w1 m1 n1 s2 w2 m2 n2 s3 w3 m3 n3 ik bt ln tk sb en nm bits size num fnd)) D vwCl (tyG cI cL cS) [.ref (b 0 0)] (kcw cI cL cS b s1 w1 m1 n1 s2 w2 m2 n2 s3 w3 m3 n3 ik bt ln tk sb en nm bits size num fnd)) (va_Qi (fun (r : Int32) (u : Sg × FI × Sg × FI × Int32 × Int32 × Int32 × Int32 × Int32) => (r, u.1) = sDinner bt (ix ln) s1 ∧ u.2.2.2.2.1 = 0 ∧ okS u.1 u.2.1) (fun u t => va_P D vwCl (kcw cI cL cS b u.1 u.2.1 m1 n1 u.2.2.1 u.2.2.2.1 m2 n2 s3 w3 m3 n3 ik bt u.2.2.2.2.1 u.2.2.2.2.2.1 u.2.2.2.2.2.2.1 u.2.2.2.2.2.2.2.1 u.2.2.2.2.2.2.2.2 bits size num fnd) t.heap) (Aof (kcw cI cL cS b s1 w1 m1 n1 s2 w2 m2 n2 s3 w3 m3 n3 ik bt ln tk sb en nm bits size num fnd))) 0 0 (Aof (kcw cI cL cS b s1 w1 m1 n1 s2 w2 m2 n2 s3 w3 m3 n3 ik bt ln tk sb en nm bits size num fnd)) := by
  refine Met.ofW (cc := cX5_dinner) (maxL := 2) (ret := (some .int)) (by decide) rfl ?_
  intro p e s m args below meth c s₁ B hml hv
  obtain ⟨rfl, hv⟩ := hv
  obtain ⟨hP, hK, hZ⟩ := hv
  have hx := B.exec
  have hb := B.bytes
  have hr := B.returns
  have hts := atoms_spec (ws := wsX5_dinner) B.pre
  have hown : s.vm.findClass RX5 = some m.cls := findClass_of_methodNamed B.named
  have hlocks := B.notSynchronized
  obtain ⟨A, hAe⟩ : ∃ A, A = Aof (kcw cI cL cS b s1 w1 m1 n1 s2 w2 m2 n2 s3 w3 m3 n3 ik bt ln tk sb en nm bits size num fnd) := ⟨_, rfl⟩
  rw [← hAe]
  have hD : ∀ ws' : va_W, ws'.map Prod.fst = (kcw cI cL cS b s1 w1 m1 n1 s2 w2 m2 n2 s3 w3 m3 n3 ik bt ln tk sb en nm bits size num fnd).map Prod.fst → va_D A ws' := fun ws' e => by rw [hAe]; exact va_D_adr (va_D_self (va_D_adr dj rfl)) e
  have hS : va_S A s.heap s.heap [] := va_S.rf
  have hP : va_P D vwCl (kcw cI cL cS b s1 w1 m1 n1 s2 w2 m2 n2 s3 w3 m3 n3 ik bt ln tk sb en nm bits size num fnd) s.heap := hP
  have hl := lv_entry ([.ref (b 0 0)]) (n := 2) (Nat.le_of_ble_eq_true rfl)
  rw [lg_entry_eq]
  generalize (lg_sl ([.ref (b 0 0)]) ++ List.replicate (2 - (lg_sl ([.ref (b 0 0)])).length) Slot.unset).toArray = ls at hl ⊢
  have hl : lv_has ls 2 [(0, .ref (b 0 0))] := hl
  have f16 := hts (.fieldLink RX5 16 "KnivesLaid" "trial" "LKnivesLaid$Table;") (List.mem_of_getElem? (i := 1) rfl)
  have inX5 : ∀ w ∈ u_ws RX5 TX5 7, w ∈ wsX5_dinner := in_at 149 _ _ rfl
  have f10 := hts (.fieldLink RX5 10 "KnivesLaid" "table" "LKnivesLaid$Table;") (List.mem_of_getElem? (i := 2) rfl)
  have f29 := hts (.fieldLink RX5 29 "KnivesLaid" "tape" "LKnivesLaid$Tape;") (List.mem_of_getElem? (i := 3) rfl)
  skip
  have hZ : SX ad av fm A s s.heap := by rw [hAe]; exact hZ
  refine lv_aload_n hx hb dX5_dinner_0 rfl (lv_at hl 0 rfl) ?_
  refine va_get (ci := 3) (v := .ref (b 2 0)) (C := RX5) (T := TX5) (N := 7) hx hb hts inX5 hown hK hP 0 rfl rfl 1 (by decide) f16 (fun _ h9 => h9) rfl dX5_dinner_1 ?_
  refine lv_aload_n hx hb dX5_dinner_4 rfl (lv_at hl 0 rfl) ?_
  refine va_get (ci := 3) (v := .ref (b 1 0)) (C := RX5) (T := TX5) (N := 7) hx hb hts inX5 hown hK hP 0 rfl rfl 0 (by decide) f10 (fun _ h9 => h9) rfl dX5_dinner_5 ?_
  refine callBec (wt := tbw cI (b 2) (sCo s2) (sGu s2) (sKn s2) (sFo s2) (sSp s2) w2 (sKi s2) (sPl s2) (sEa s2) (sTo s2) (sQu s2) m2 n2) (wo := tbw cI (b 1) (sCo s1) (sGu s1) (sKn s1) (sFo s1) (sSp s1) w1 (sKi s1) (sPl s1) (sEa s1) (sTo s1) (sQu s1) m1 n1) (w1 := tbw cI (b 2) (sCo s1) (sGu s1) (sKn s1) (sFo s1) (sSp s1) w1 (sKi s1) (sPl s1) (sEa s1) (sTo s1) (sQu s1) m2 n2) (va_runV (As := [.ref (b 1 0)]) (rest := []) ⟨hx, hb, hml, hown, hts⟩ (k_X3_become l D cI cL cS (b 2) (sCo s2) (sGu s2) (sKn s2) (sFo s2) (sSp s2) w2 (sKi s2) (sPl s2) (sEa s2) (sTo s2) (sQu s2) m2 n2 (b 1) (sCo s1) (sGu s1) (sKn s1) (sFo s1) (sSp s1) w1 (sKi s1) (sPl s1) (sEa s1) (sTo s1) (sQu s1) m1 n1 (va_DT (va_D.sub (ws' := tbw2 cI (b 2) (b 1) (sCo s2) (sGu s2) (sKn s2) (sFo s2) (sSp s2) w2 (sKi s2) (sPl s2) (sEa s2) (sTo s2) (sQu s2) m2 n2 (sCo s1) (sGu s1) (sKn s1) (sFo s1) (sSp s1) w1 (sKi s1) (sPl s1) (sEa s1) (sTo s1) (sQu s1) m1 n1) (hD (kcw cI cL cS b s1 w1 m1 n1 s2 w2 m2 n2 s3 w3 m3 n3 ik bt ln tk sb en nm bits size num fnd) rfl) [13, 14, 15, 16, 17, 18, 19, 20, 21, 22, 23, 24, 1, 2, 3, 4, 5, 6, 7, 8, 9, 10, 11, 12] (by decide) rfl) rfl)) (cwV 1 hts gX5_dinner_X3_become rfl rfl rfl (by decide +kernel) ⟨Nat.le_of_ble_eq_true rfl, Nat.le_of_ble_eq_true rfl⟩) ⟨PcR_fb, va_recv hK hP (ci := 1) (q0 := 13) rfl rfl, PcR_pre (va_P.sub hP [13, 14, 15, 16, 17, 18, 19, 20, 21, 22, 23, 24, 1, 2, 3, 4, 5, 6, 7, 8, 9, 10, 11, 12] rfl) hK⟩ rfl rfl hl.1 rfl (lv_room (Nat.le_of_ble_eq_true rfl)) dX5_dinner_8 ⟨Nat.zero_le _, Nat.zero_le _⟩) hP (hD _ rfl) hS 13 12 1 12 rfl rfl rfl (fun H locs hP hS => ?_)
  have hP : va_P D vwCl (kcw cI cL cS b s1 w1 m1 n1 s1 w1 m2 n2 s3 w3 m3 n3 ik bt ln tk sb en nm bits size num fnd) H := hP
  refine lv_aload_n hx hb dX5_dinner_11 rfl (lv_at hl 0 rfl) ?_
  refine va_get (ci := 3) (v := .ref (b 4 0)) (C := RX5) (T := TX5) (N := 7) hx hb hts inX5 hown hK hP 0 rfl rfl 4 (by decide) f29 (fun _ h9 => h9) rfl dX5_dinner_12 ?_
  refine lv_aload_n hx hb dX5_dinner_15 rfl (lv_at hl 0 rfl) ?_
  refine va_get (ci := 3) (v := .ref (b 2 0)) (C := RX5) (T := TX5) (N := 7) hx hb hts inX5 hown hK hP 0 rfl rfl 1 (by decide) f16 (fun _ h9 => h9) rfl dX5_dinner_16 ?_
  refine callMi (va_runS (As := [.ref (b 4 0), .ref (b 2 0)]) (rest := []) ⟨hx, hb, hml, hown, hts⟩ (k_X0_tell l D cI cL cS b s1 w1 m1 n1 s1 w1 m2 n2 s3 w3 m3 n3 ik bt ln tk sb en nm bits size num fnd ad av fm cu (va_DT (hD _ rfl) rfl) o1 ol) (va_cwS 2 hts gX5_dinner_X0_tell rfl rfl rfl (by decide +kernel) ⟨Nat.le_of_ble_eq_true rfl, Nat.le_of_ble_eq_true rfl⟩) ⟨PcQ_fb, PcQ_pre hP hK hZ hS (Aof_in (hD _ rfl))⟩ rfl rfl hl.1 rfl (lv_room (Nat.le_of_ble_eq_true rfl)) dX5_dinner_19 ⟨Nat.zero_le _, Nat.zero_le _⟩) hP (hD _ rfl) hS 0 49 rfl (fun r_2 u_1 H locs hu_1 hP hS => ?_)
  obtain ⟨s2_3, w2_4, tk_5, sb_6, en_7, nm_8⟩ := u_1
  have hI : (r_2, s2_3) = tTell bt (ix ln) 120 1 s1 0 ∧ okS s2_3 w2_4 := hu_1
  obtain ⟨hIe, hIo⟩ := hI
  have hP : va_P D vwCl (kcw cI cL cS b s1 w1 m1 n1 s2_3 w2_4 m2 n2 s3 w3 m3 n3 ik bt ln tk_5 sb_6 en_7 nm_8 bits size num fnd) H := hP
  refine lv_istore_n (lv' := [(1, .int r_2), (0, .ref (b 0 0))]) hx hb dX5_dinner_22 rfl hl (by decide) rfl (fun ls hl => ?_)
  refine lv_iload_n hx hb dX5_dinner_23 rfl (lv_at hl 0 rfl) ?_
  refine lv_if_lt (tgt := 38) hx hb dX5_dinner_24 (by decide) (fun c_9 => ?_) (fun c_9 => ?_)
  · skip
    refine lv_aload_n hx hb dX5_dinner_38 rfl (lv_at hl 1 rfl) ?_
    refine va_get (ci := 3) (v := .ref (b 4 0)) (C := RX5) (T := TX5) (N := 7) hx hb hts inX5 hown hK hP 0 rfl rfl 4 (by decide) f29 (fun _ h9 => h9) rfl dX5_dinner_39 ?_
    refine callMi (va_runV (As := []) (rest := []) ⟨hx, hb, hml, hown, hts⟩ (k_X4_empty l D cI cL cS (b 4 0) (b 4 1) bt ln tk_5 sb_6 en_7 nm_8 (va_DT (va_segD (hD (kcw cI cL cS b s1 w1 m1 n1 s2_3 w2_4 m2 n2 s3 w3 m3 n3 ik bt ln tk_5 sb_6 en_7 nm_8 bits size num fnd) rfl) 37 2 rfl) rfl)) (cwV 0 hts gX5_dinner_X4_empty rfl rfl rfl (by decide +kernel) ⟨Nat.le_of_ble_eq_true rfl, Nat.le_of_ble_eq_true rfl⟩) ⟨PcR_fb, va_recv hK hP (ci := 2) (q0 := 37) rfl rfl, PcR_pre (va_seg hP 37 2 rfl) hK⟩ rfl rfl hl.1 rfl (lv_room (Nat.le_of_ble_eq_true rfl)) dX5_dinner_42 ⟨Nat.zero_le _, Nat.zero_le _⟩) hP (hD _ rfl) hS 37 2 rfl (fun r_11 u_10 H locs hu_10 hP hS => ?_)
    obtain ⟨hu_10r, hu_10⟩ := hu_10
    subst hu_10r
    have hP : va_P D vwCl (kcw cI cL cS b s1 w1 m1 n1 s2_3 w2_4 m2 n2 s3 w3 m3 n3 ik bt 0 tk_5 sb_6 en_7 nm_8 bits size num fnd) H := hP
    refine lv_pop hx hb dX5_dinner_45 rfl ?_
    refine lv_iload_n hx hb dX5_dinner_46 rfl (lv_at hl 0 rfl) ?_
    exact W.iret hx hb hr (fun t ht hW => ⟨⟨_, (s1, w1, s2_3, w2_4, 0, tk_5, sb_6, en_7, nm_8), rfl, (by exact ⟨by unfold sDinner; rw [← hIe, iF_t c_9], rfl, o1⟩), by dsimp only; rw [ht]; exact hP⟩, hS.F ht⟩) hS.2.2 dX5_dinner_47
  · skip
    refine lv_aload_n hx hb dX5_dinner_27 rfl (lv_at hl 1 rfl) ?_
    refine va_get (ci := 3) (v := .ref (b 1 0)) (C := RX5) (T := TX5) (N := 7) hx hb hts inX5 hown hK hP 0 rfl rfl 0 (by decide) f10 (fun _ h9 => h9) rfl dX5_dinner_28 ?_
    refine lv_aload_n hx hb dX5_dinner_31 rfl (lv_at hl 1 rfl) ?_
    refine va_get (ci := 3) (v := .ref (b 2 0)) (C := RX5) (T := TX5) (N := 7) hx hb hts inX5 hown hK hP 0 rfl rfl 1 (by decide) f16 (fun _ h9 => h9) rfl dX5_dinner_32 ?_
    refine callBec (wt := tbw cI (b 1) (sCo s1) (sGu s1) (sKn s1) (sFo s1) (sSp s1) w1 (sKi s1) (sPl s1) (sEa s1) (sTo s1) (sQu s1) m1 n1) (wo := tbw cI (b 2) (sCo s2_3) (sGu s2_3) (sKn s2_3) (sFo s2_3) (sSp s2_3) w2_4 (sKi s2_3) (sPl s2_3) (sEa s2_3) (sTo s2_3) (sQu s2_3) m2 n2) (w1 := tbw cI (b 1) (sCo s2_3) (sGu s2_3) (sKn s2_3) (sFo s2_3) (sSp s2_3) w2_4 (sKi s2_3) (sPl s2_3) (sEa s2_3) (sTo s2_3) (sQu s2_3) m1 n1) (va_runV (As := [.ref (b 2 0)]) (rest := []) ⟨hx, hb, hml, hown, hts⟩ (k_X3_become l D cI cL cS (b 1) (sCo s1) (sGu s1) (sKn s1) (sFo s1) (sSp s1) w1 (sKi s1) (sPl s1) (sEa s1) (sTo s1) (sQu s1) m1 n1 (b 2) (sCo s2_3) (sGu s2_3) (sKn s2_3) (sFo s2_3) (sSp s2_3) w2_4 (sKi s2_3) (sPl s2_3) (sEa s2_3) (sTo s2_3) (sQu s2_3) m2 n2 (va_DT (va_D.sub (ws' := tbw2 cI (b 1) (b 2) (sCo s1) (sGu s1) (sKn s1) (sFo s1) (sSp s1) w1 (sKi s1) (sPl s1) (sEa s1) (sTo s1) (sQu s1) m1 n1 (sCo s2_3) (sGu s2_3) (sKn s2_3) (sFo s2_3) (sSp s2_3) w2_4 (sKi s2_3) (sPl s2_3) (sEa s2_3) (sTo s2_3) (sQu s2_3) m2 n2) (hD (kcw cI cL cS b s1 w1 m1 n1 s2_3 w2_4 m2 n2 s3 w3 m3 n3 ik bt ln tk_5 sb_6 en_7 nm_8 bits size num fnd) rfl) [1, 2, 3, 4, 5, 6, 7, 8, 9, 10, 11, 12, 13, 14, 15, 16, 17, 18, 19, 20, 21, 22, 23, 24] (by decide) rfl) rfl)) (cwV 1 hts gX5_dinner_X3_become rfl rfl rfl (by decide +kernel) ⟨Nat.le_of_ble_eq_true rfl, Nat.le_of_ble_eq_true rfl⟩) ⟨PcR_fb, va_recv hK hP (ci := 1) (q0 := 1) rfl rfl, PcR_pre (va_P.sub hP [1, 2, 3, 4, 5, 6, 7, 8, 9, 10, 11, 12, 13, 14, 15, 16, 17, 18, 19, 20, 21, 22, 23, 24] rfl) hK⟩ rfl rfl hl.1 rfl (lv_room (Nat.le_of_ble_eq_true rfl)) dX5_dinner_35 ⟨Nat.zero_le _, Nat.zero_le _⟩) hP (hD _ rfl) hS 1 12 13 12 rfl rfl rfl (fun H locs hP hS => ?_)
    have hP : va_P D vwCl (kcw cI cL cS b s2_3 w2_4 m1 n1 s2_3 w2_4 m2 n2 s3 w3 m3 n3 ik bt ln tk_5 sb_6 en_7 nm_8 bits size num fnd) H := hP
    refine lv_aload_n hx hb dX5_dinner_38 rfl (lv_at hl 1 rfl) ?_
    refine va_get (ci := 3) (v := .ref (b 4 0)) (C := RX5) (T := TX5) (N := 7) hx hb hts inX5 hown hK hP 0 rfl rfl 4 (by decide) f29 (fun _ h9 => h9) rfl dX5_dinner_39 ?_
    refine callMi (va_runV (As := []) (rest := []) ⟨hx, hb, hml, hown, hts⟩ (k_X4_empty l D cI cL cS (b 4 0) (b 4 1) bt ln tk_5 sb_6 en_7 nm_8 (va_DT (va_segD (hD (kcw cI cL cS b s2_3 w2_4 m1 n1 s2_3 w2_4 m2 n2 s3 w3 m3 n3 ik bt ln tk_5 sb_6 en_7 nm_8 bits size num fnd) rfl) 37 2 rfl) rfl)) (cwV 0 hts gX5_dinner_X4_empty rfl rfl rfl (by decide +kernel) ⟨Nat.le_of_ble_eq_true rfl, Nat.le_of_ble_eq_true rfl⟩) ⟨PcR_fb, va_recv hK hP (ci := 2) (q0 := 37) rfl rfl, PcR_pre (va_seg hP 37 2 rfl) hK⟩ rfl rfl hl.1 rfl (lv_room (Nat.le_of_ble_eq_true rfl)) dX5_dinner_42 ⟨Nat.zero_le _, Nat.zero_le _⟩) hP (hD _ rfl) hS 37 2 rfl (fun r_13 u_12 H locs hu_12 hP hS => ?_)
    obtain ⟨hu_12r, hu_12⟩ := hu_12
    subst hu_12r
    have hP : va_P D vwCl (kcw cI cL cS b s2_3 w2_4 m1 n1 s2_3 w2_4 m2 n2 s3 w3 m3 n3 ik bt 0 tk_5 sb_6 en_7 nm_8 bits size num fnd) H := hP
    refine lv_pop hx hb dX5_dinner_45 rfl ?_
    refine lv_iload_n hx hb dX5_dinner_46 rfl (lv_at hl 0 rfl) ?_
    exact W.iret hx hb hr (fun t ht hW => ⟨⟨_, (s2_3, w2_4, s2_3, w2_4, 0, tk_5, sb_6, en_7, nm_8), rfl, (by exact ⟨by unfold sDinner; rw [← hIe, iF_f c_9], rfl, hIo⟩), by dsimp only; rw [ht]; exact hP⟩, hS.F ht⟩) hS.2.2 dX5_dinner_47
