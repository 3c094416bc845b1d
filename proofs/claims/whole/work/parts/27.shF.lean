set_option maxRecDepth 100000 in
set_option maxHeartbeats 4000000 in
theorem k_X5_copy (l : Launch) (D : va_G) (cI cL cS : ClassId) (b : Nat → Nat → Nat) (s1 : Sg) (w1 m1 n1 : FI) (s2 : Sg) (w2 m2 n2 : FI) (s3 : Sg) (w3 m3 n3 : FI) (ik : Int32) (bt : FI) (ln tk sb en nm : Int32) (bits size : FI) (num : Nat → FJ) (fnd : FI) (x0 : Int32) (x1 : Int32) (x2 : Int32) (x3 : Int32) (x4 : Int32) (dj : va_D (fun _ => True) (djk b)) (oh : okH bits size) : Met l yX5_copy wsX5_copy { frames := 1, cells := 0, slots := 0, locals := 30 } (PcR D vwCl (tyG cI cL cS) [.ref (b 0 0), .int x0, .int x1, .int x2, .int x3, .int x4] (kcw cI cL cS b s1 w1 m1 n1 s2 w2 m2 n2 s3 w3 m3 n3 ik bt ln tk sb en nm bits size num fnd)) (va_Qi (fun (r : Int32) (u : (Nat → FJ) × FI) => (r, u.1, u.2) = sCopy bits size num fnd x0 x1 x2 x3 x4) (fun u t => va_P D vwCl (kcw cI cL cS b s1 w1 m1 n1 s2 w2 m2 n2 s3 w3 m3 n3 ik bt ln tk sb en nm bits size u.1 u.2) t.heap) (Aof (kcw cI cL cS b s1 w1 m1 n1 s2 w2 m2 n2 s3 w3 m3 n3 ik bt ln tk sb en nm bits size num fnd))) 0 0 (Aof (kcw cI cL cS b s1 w1 m1 n1 s2 w2 m2 n2 s3 w3 m3 n3 ik bt ln tk sb en nm bits size num fnd)) := by
  refine Met.ofW (cc := cX5_copy) (maxL := 8) (ret := (some .int)) (by decide) rfl ?_
  intro p e s m args below meth c s₁ B hml hv
  obtain ⟨rfl, hP, hK⟩ := hv
  have hx := B.exec
  have hb := B.bytes
  have hr := B.returns
  have hts := atoms_spec (ws := wsX5_copy) B.pre
  have hown : s.vm.findClass RX5 = some m.cls := findClass_of_methodNamed B.named
  have hlocks := B.notSynchronized
  obtain ⟨A, hAe⟩ : ∃ A, A = Aof (kcw cI cL cS b s1 w1 m1 n1 s2 w2 m2 n2 s3 w3 m3 n3 ik bt ln tk sb en nm bits size num fnd) := ⟨_, rfl⟩
  rw [← hAe]
  have hD : ∀ ws' : va_W, ws'.map Prod.fst = (kcw cI cL cS b s1 w1 m1 n1 s2 w2 m2 n2 s3 w3 m3 n3 ik bt ln tk sb en nm bits size num fnd).map Prod.fst → va_D A ws' := fun ws' e => by rw [hAe]; exact va_D_adr (va_D_self (va_D_adr dj rfl)) e
  have hS : va_S A s.heap s.heap [] := va_S.rf
  have hP : va_P D vwCl (kcw cI cL cS b s1 w1 m1 n1 s2 w2 m2 n2 s3 w3 m3 n3 ik bt ln tk sb en nm bits size num fnd) s.heap := hP
  have hl := lv_entry ([.ref (b 0 0), .int x0, .int x1, .int x2, .int x3, .int x4]) (n := 8) (Nat.le_of_ble_eq_true rfl)
  rw [lg_entry_eq]
  generalize (lg_sl ([.ref (b 0 0), .int x0, .int x1, .int x2, .int x3, .int x4]) ++ List.replicate (8 - (lg_sl ([.ref (b 0 0), .int x0, .int x1, .int x2, .int x3, .int x4])).length) Slot.unset).toArray = ls at hl ⊢
  have hl : lv_has ls 8 [(0, .ref (b 0 0)), (1, .int x0), (2, .int x1), (3, .int x2), (4, .int x3), (5, .int x4)] := hl
  have k52 := hts (.constant RX5 52 (-1000000001)) (List.mem_of_getElem? (i := 1) rfl)
  have f35 := hts (.fieldLink RX5 35 "KnivesLaid" "sheets" "[LKnivesLaid$Sheet;") (List.mem_of_getElem? (i := 2) rfl)
  have inX5 : ∀ w ∈ u_ws RX5 TX5 7, w ∈ wsX5_copy := in_at 31 _ _ rfl
  have k196 := hts (.constant RX5 196 (-1000000006)) (List.mem_of_getElem? (i := 3) rfl)
  have f206 := hts (.fieldLink RX5 206 "KnivesLaid$Sheet" "bits" "I") (List.mem_of_getElem? (i := 4) rfl)
  have inX2 : ∀ w ∈ u_ws RX2 TX2 3, w ∈ wsX5_copy := in_at 38 _ _ rfl
  have f198 := hts (.fieldLink RX5 198 "KnivesLaid$Sheet" "numbers" "[J") (List.mem_of_getElem? (i := 6) rfl)
  have ml212 := hts (.methodLink RX5 212 arraycopyName) (List.mem_of_getElem? (i := 7) rfl)
  have nAc := hts (.native arraycopyName) (List.mem_of_getElem? (i := 8) rfl)
  have sAc := hts (.static arraycopyName) (List.mem_of_getElem? (i := 9) rfl)
  have iSys := hts (.initialized "java/lang/System") (List.mem_of_getElem? (i := 10) rfl)
  have k144 := hts (.constant RX5 144 (-1000000003)) (List.mem_of_getElem? (i := 5) rfl)
  skip
  refine lv_iload_n hx hb dX5_copy_0 rfl (lv_at hl 1 rfl) ?_
  refine callE (W.runS (As := [.int x0]) (rest := []) ⟨hx, hb, hml, hown, hts⟩ (k_X5_isSheet l x0) (va_cwS 1 hts gX5_copy_X5_isSheet rfl rfl rfl (by decide +kernel) ⟨Nat.le_of_ble_eq_true rfl, Nat.le_of_ble_eq_true rfl⟩) ⟨PcP_fb, fun U _ _ => ⟨rfl, trivial⟩⟩ rfl rfl hl.1 rfl (lv_room (Nat.le_of_ble_eq_true rfl)) dX5_copy_1 ⟨Nat.zero_le _, Nat.zero_le _⟩) ?_
  refine lv_if_eq (tgt := 14) hx hb dX5_copy_4 (by decide) (fun c_1 => ?_) (fun c_1 => ?_)
  · skip
    have c_1b := bI_0 c_1
    refine lv_aload_n hx hb dX5_copy_14 rfl (lv_at hl 0 rfl) ?_
    refine lv_ldc hx hb hown k52 dX5_copy_15 ?_
    refine callMi (va_runV (As := [.int (-1000000001)]) (rest := []) ⟨hx, hb, hml, hown, hts⟩ (k_X5_found l D cI cL cS b s1 w1 m1 n1 s2 w2 m2 n2 s3 w3 m3 n3 ik bt ln tk sb en nm bits size num fnd (-1000000001) (va_DT (hD _ rfl) rfl) (vp_in_iff.mpr (by decide))) (cwV 1 hts gX5_copy_X5_found rfl rfl rfl (by decide +kernel) ⟨Nat.le_of_ble_eq_true rfl, Nat.le_of_ble_eq_true rfl⟩) ⟨PcR_fb, va_recv hK hP (ci := 3) (q0 := 0) rfl rfl, PcR_pre hP hK⟩ rfl rfl hl.1 rfl (lv_room (Nat.le_of_ble_eq_true rfl)) dX5_copy_17 ⟨Nat.zero_le _, Nat.zero_le _⟩) hP (hD _ rfl) hS 0 49 rfl (fun r_3 u_2 H locs hu_2 hP hS => ?_)
    obtain ⟨hu_2r, -⟩ := hu_2
    subst hu_2r
    have hP : va_P D vwCl (kcw cI cL cS b s1 w1 m1 n1 s2 w2 m2 n2 s3 w3 m3 n3 ik bt ln tk sb en nm bits size num (bump fnd (-1000000001))) H := hP
    exact W.iret hx hb hr (fun t ht hW => ⟨⟨_, (num, bump fnd (-1000000001)), rfl, (by exact (iF_f (fun h => by first | exact absurd h.1 c_1b | exact absurd c_1b h.1 | exact absurd h.2 c_1b | exact absurd c_1b h.2)).symm), by dsimp only; rw [ht]; exact hP⟩, hS.F ht⟩) hS.2.2 dX5_copy_20
  · skip
    have c_1b := bI_n c_1
    have hs := c_1b
    refine lv_iload_n hx hb dX5_copy_7 rfl (lv_at hl 3 rfl) ?_
    refine callE (W.runS (As := [.int x2]) (rest := []) ⟨hx, hb, hml, hown, hts⟩ (k_X5_isSheet l x2) (va_cwS 1 hts gX5_copy_X5_isSheet rfl rfl rfl (by decide +kernel) ⟨Nat.le_of_ble_eq_true rfl, Nat.le_of_ble_eq_true rfl⟩) ⟨PcP_fb, fun U _ _ => ⟨rfl, trivial⟩⟩ rfl rfl hl.1 rfl (lv_room (Nat.le_of_ble_eq_true rfl)) dX5_copy_8 ⟨Nat.zero_le _, Nat.zero_le _⟩) ?_
    refine lv_if_ne (tgt := 21) hx hb dX5_copy_11 (by decide) (fun c_4 => ?_) (fun c_4 => ?_)
    · skip
      have c_4b := bI_n c_4
      have ht0 := c_4b
      have htt := ht0
      rcases in4 hs with rfl | rfl | rfl | rfl
      · skip
        rcases in4 htt with rfl | rfl | rfl | rfl
        · skip
          have hz := (oh 0 (by decide)).1
          have hy := (oh 0 (by decide)).1
          refine lv_aload_n hx hb dX5_copy_21 rfl (lv_at hl 0 rfl) ?_
          refine va_get (ci := 3) (v := .ref (b 6 0)) (C := RX5) (T := TX5) (N := 7) hx hb hts inX5 hown hK hP 0 rfl rfl 5 (by decide) f35 (fun _ h9 => h9) rfl dX5_copy_22 ?_
          refine lv_iload_n hx hb dX5_copy_25 rfl (lv_at hl 1 rfl) ?_
          refine va_aldq (f := fun s => some (b 7 s)) hx hb hK hP 39 2 rfl rfl (vp_in_iff.mpr (by decide)) dX5_copy_26 ?_
          refine W.eq (g2 := F0 m 27 ls [.ref (b 7 0)]) rfl ?_
          refine lv_astore (lv' := [(6, .ref (b 7 0)), (0, .ref (b 0 0)), (1, .int 0), (2, .int x1), (3, .int 0), (4, .int x3), (5, .int x4)]) hx hb dX5_copy_27 hl (by decide) rfl (fun ls hl => ?_)
          refine lv_aload_n hx hb dX5_copy_29 rfl (lv_at hl 1 rfl) ?_
          refine va_get (ci := 3) (v := .ref (b 6 0)) (C := RX5) (T := TX5) (N := 7) hx hb hts inX5 hown hK hP 0 rfl rfl 5 (by decide) f35 (fun _ h9 => h9) rfl dX5_copy_30 ?_
          refine lv_iload_n hx hb dX5_copy_33 rfl (lv_at hl 4 rfl) ?_
          refine va_aldq (f := fun s => some (b 7 s)) hx hb hK hP 39 2 rfl rfl (vp_in_iff.mpr (by decide)) dX5_copy_34 ?_
          refine W.eq (g2 := F0 m 35 ls [.ref (b 7 0)]) rfl ?_
          refine lv_astore (lv' := [(7, .ref (b 7 0)), (6, .ref (b 7 0)), (0, .ref (b 0 0)), (1, .int 0), (2, .int x1), (3, .int 0), (4, .int x3), (5, .int x4)]) hx hb dX5_copy_35 hl (by decide) rfl (fun ls hl => ?_)
          refine lv_aload hx hb dX5_copy_37 (lv_at hl 1 rfl) ?_
          refine callE (W.runV (As := []) (rest := []) ⟨hx, hb, hml, hown, hts⟩ (k_X2_isMissing l D cI cL cS (b 7 0) (b 8 0) (bits 0) (size 0) (num 0)) (cwV 0 hts gX5_copy_X2_isMissing rfl rfl rfl (by decide +kernel) ⟨Nat.le_of_ble_eq_true rfl, Nat.le_of_ble_eq_true rfl⟩) ⟨PcR_fb, va_recv hK hP (ci := 0) (q0 := 40) rfl rfl, PcR_pre (va_seg hP 40 2 rfl) hK⟩ rfl rfl hl.1 rfl (lv_room (Nat.le_of_ble_eq_true rfl)) dX5_copy_39 ⟨Nat.zero_le _, Nat.zero_le _⟩) ?_
          refine lv_if_ne (tgt := 53) hx hb dX5_copy_42 (by decide) (fun c_5 => ?_) (fun c_5 => ?_)
          · skip
            have c_5b := bI_n c_5
            refine lv_aload_n hx hb dX5_copy_53 rfl (lv_at hl 2 rfl) ?_
            refine lv_ldc hx hb hown k196 dX5_copy_54 ?_
            refine callMi (va_runV (As := [.int (-1000000006)]) (rest := []) ⟨hx, hb, hml, hown, hts⟩ (k_X5_found l D cI cL cS b s1 w1 m1 n1 s2 w2 m2 n2 s3 w3 m3 n3 ik bt ln tk sb en nm bits size num fnd (-1000000006) (va_DT (hD _ rfl) rfl) (vp_in_iff.mpr (by decide))) (cwV 1 hts gX5_copy_X5_found rfl rfl rfl (by decide +kernel) ⟨Nat.le_of_ble_eq_true rfl, Nat.le_of_ble_eq_true rfl⟩) ⟨PcR_fb, va_recv hK hP (ci := 3) (q0 := 0) rfl rfl, PcR_pre hP hK⟩ rfl rfl hl.1 rfl (lv_room (Nat.le_of_ble_eq_true rfl)) dX5_copy_56 ⟨Nat.zero_le _, Nat.zero_le _⟩) hP (hD _ rfl) hS 0 49 rfl (fun r_7 u_6 H locs hu_6 hP hS => ?_)
            obtain ⟨hu_6r, -⟩ := hu_6
            subst hu_6r
            have hP : va_P D vwCl (kcw cI cL cS b s1 w1 m1 n1 s2 w2 m2 n2 s3 w3 m3 n3 ik bt ln tk sb en nm bits size num (bump fnd (-1000000006))) H := hP
            exact W.iret hx hb hr (fun t ht hW => ⟨⟨_, (num, bump fnd (-1000000006)), rfl, (by exact ((iF_t ⟨hs, htt⟩).trans (iF_t (Or.inl c_5b))).symm), by dsimp only; rw [ht]; exact hP⟩, hS.F ht⟩) hS.2.2 dX5_copy_59
          · skip
            have c_5b := bI_0 c_5
            refine lv_aload hx hb dX5_copy_45 (lv_at hl 0 rfl) ?_
            refine callE (W.runV (As := []) (rest := []) ⟨hx, hb, hml, hown, hts⟩ (k_X2_isMissing l D cI cL cS (b 7 0) (b 8 0) (bits 0) (size 0) (num 0)) (cwV 0 hts gX5_copy_X2_isMissing rfl rfl rfl (by decide +kernel) ⟨Nat.le_of_ble_eq_true rfl, Nat.le_of_ble_eq_true rfl⟩) ⟨PcR_fb, va_recv hK hP (ci := 0) (q0 := 40) rfl rfl, PcR_pre (va_seg hP 40 2 rfl) hK⟩ rfl rfl hl.1 rfl (lv_room (Nat.le_of_ble_eq_true rfl)) dX5_copy_47 ⟨Nat.zero_le _, Nat.zero_le _⟩) ?_
            refine lv_if_eq (tgt := 60) hx hb dX5_copy_50 (by decide) (fun c_8 => ?_) (fun c_8 => ?_)
            · skip
              have c_8b := bI_0 c_8
              refine lv_aload hx hb dX5_copy_60 (lv_at hl 1 rfl) ?_
              refine va_get (ci := 0) (v := .int (bits 0)) (C := RX2) (T := TX2) (N := 3) hx hb hts inX2 hown hK hP 40 rfl rfl 0 (by decide) f206 (fun _ h9 => h9) rfl dX5_copy_62 ?_
              refine lv_aload hx hb dX5_copy_65 (lv_at hl 0 rfl) ?_
              refine va_get (ci := 0) (v := .int (bits 0)) (C := RX2) (T := TX2) (N := 3) hx hb hts inX2 hown hK hP 40 rfl rfl 0 (by decide) f206 (fun _ h9 => h9) rfl dX5_copy_67 ?_
              refine lv_icmp_eq (tgt := 80) hx hb dX5_copy_70 (by decide) (fun c_9 => ?_) (fun c_9 => ?_)
              · skip
                refine lv_aload hx hb dX5_copy_80 (lv_at hl 1 rfl) ?_
                refine lv_iload_n hx hb dX5_copy_82 rfl (lv_at hl 4 rfl) ?_
                refine lv_iload hx hb dX5_copy_83 (lv_at hl 7 rfl) ?_
                refine callE (W.runV (As := [.int x1, .int x4]) (rest := []) ⟨hx, hb, hml, hown, hts⟩ (k_X2_hasRun l D cI cL cS (b 7 0) (b 8 0) (bits 0) (size 0) (num 0) x1 x4) (cwV 2 hts gX5_copy_X2_hasRun rfl rfl rfl (by decide +kernel) ⟨Nat.le_of_ble_eq_true rfl, Nat.le_of_ble_eq_true rfl⟩) ⟨PcR_fb, va_recv hK hP (ci := 0) (q0 := 40) rfl rfl, PcR_pre (va_seg hP 40 2 rfl) hK⟩ rfl rfl hl.1 rfl (lv_room (Nat.le_of_ble_eq_true rfl)) dX5_copy_85 ⟨Nat.zero_le _, Nat.zero_le _⟩) ?_
                refine lv_if_eq (tgt := 103) hx hb dX5_copy_88 (by decide) (fun c_10 => ?_) (fun c_10 => ?_)
                · skip
                  have c_10b := bI_0 c_10
                  refine lv_aload_n hx hb dX5_copy_103 rfl (lv_at hl 2 rfl) ?_
                  refine lv_ldc hx hb hown k52 dX5_copy_104 ?_
                  refine callMi (va_runV (As := [.int (-1000000001)]) (rest := []) ⟨hx, hb, hml, hown, hts⟩ (k_X5_found l D cI cL cS b s1 w1 m1 n1 s2 w2 m2 n2 s3 w3 m3 n3 ik bt ln tk sb en nm bits size num fnd (-1000000001) (va_DT (hD _ rfl) rfl) (vp_in_iff.mpr (by decide))) (cwV 1 hts gX5_copy_X5_found rfl rfl rfl (by decide +kernel) ⟨Nat.le_of_ble_eq_true rfl, Nat.le_of_ble_eq_true rfl⟩) ⟨PcR_fb, va_recv hK hP (ci := 3) (q0 := 0) rfl rfl, PcR_pre hP hK⟩ rfl rfl hl.1 rfl (lv_room (Nat.le_of_ble_eq_true rfl)) dX5_copy_106 ⟨Nat.zero_le _, Nat.zero_le _⟩) hP (hD _ rfl) hS 0 49 rfl (fun r_12 u_11 H locs hu_11 hP hS => ?_)
                  obtain ⟨hu_11r, -⟩ := hu_11
                  subst hu_11r
                  have hP : va_P D vwCl (kcw cI cL cS b s1 w1 m1 n1 s2 w2 m2 n2 s3 w3 m3 n3 ik bt ln tk sb en nm bits size num (bump fnd (-1000000001))) H := hP
                  exact W.iret hx hb hr (fun t ht hW => ⟨⟨_, (num, bump fnd (-1000000001)), rfl, (by exact ((iF_t ⟨hs, htt⟩).trans ((iF_f (fun h => h.elim c_5b c_8b)).trans ((iF_t c_9).trans (iF_f (fun h => by first | exact absurd h.1 c_10b | exact absurd c_10b h.1 | exact absurd h.2 c_10b | exact absurd c_10b h.2))))).symm), by dsimp only; rw [ht]; exact hP⟩, hS.F ht⟩) hS.2.2 dX5_copy_109
                · skip
                  have c_10b := bI_n c_10
                  have hr1 := c_10b
                  refine lv_aload hx hb dX5_copy_91 (lv_at hl 0 rfl) ?_
                  refine lv_iload hx hb dX5_copy_93 (lv_at hl 6 rfl) ?_
                  refine lv_iload hx hb dX5_copy_95 (lv_at hl 7 rfl) ?_
                  refine callE (W.runV (As := [.int x3, .int x4]) (rest := []) ⟨hx, hb, hml, hown, hts⟩ (k_X2_hasRun l D cI cL cS (b 7 0) (b 8 0) (bits 0) (size 0) (num 0) x3 x4) (cwV 2 hts gX5_copy_X2_hasRun rfl rfl rfl (by decide +kernel) ⟨Nat.le_of_ble_eq_true rfl, Nat.le_of_ble_eq_true rfl⟩) ⟨PcR_fb, va_recv hK hP (ci := 0) (q0 := 40) rfl rfl, PcR_pre (va_seg hP 40 2 rfl) hK⟩ rfl rfl hl.1 rfl (lv_room (Nat.le_of_ble_eq_true rfl)) dX5_copy_97 ⟨Nat.zero_le _, Nat.zero_le _⟩) ?_
                  refine lv_if_ne (tgt := 110) hx hb dX5_copy_100 (by decide) (fun c_13 => ?_) (fun c_13 => ?_)
                  · skip
                    have c_13b := bI_n c_13
                    have hr2 := c_13b
                    refine lv_aload hx hb dX5_copy_110 (lv_at hl 1 rfl) ?_
                    refine va_get (ci := 0) (v := .ref (b 8 0)) (C := RX2) (T := TX2) (N := 3) hx hb hts inX2 hown hK hP 40 rfl rfl 2 (by decide) f198 (fun _ h9 => h9) rfl dX5_copy_112 ?_
                    refine lv_iload_n hx hb dX5_copy_115 rfl (lv_at hl 4 rfl) ?_
                    refine lv_aload hx hb dX5_copy_116 (lv_at hl 0 rfl) ?_
                    refine va_get (ci := 0) (v := .ref (b 8 0)) (C := RX2) (T := TX2) (N := 3) hx hb hts inX2 hown hK hP 40 rfl rfl 2 (by decide) f198 (fun _ h9 => h9) rfl dX5_copy_118 ?_
                    refine lv_iload hx hb dX5_copy_121 (lv_at hl 6 rfl) ?_
                    refine lv_iload hx hb dX5_copy_123 (lv_at hl 7 rfl) ?_
                    refine va_copyL hx hb (by rw [hml]; exact hl.1.symm) hown ml212 nAc sAc iSys hK hP (hD _ rfl) hS 41 41 1 1 rfl rfl rfl rfl hr1.1 hr2.1 hr1.2.1 (by have := run_in hz hr1; omega) (by have := run_in hy hr2; omega) (Nat.le_of_ble_eq_true rfl) (Nat.le_of_ble_eq_true rfl) dX5_copy_125 (fun H locs hP hS => ?_)
                    have hP : va_P D vwCl (kcw cI cL cS b s1 w1 m1 n1 s2 w2 m2 n2 s3 w3 m3 n3 ik bt ln tk sb en nm bits size (va_up num 0 (va_cpy (num 0) (num 0) (ix x1) (ix x3) (ix x4))) fnd) H := hP
                    refine lv_iload hx hb dX5_copy_128 (lv_at hl 7 rfl) ?_
                    exact W.iret hx hb hr (fun t ht hW => ⟨⟨_, ((va_up num 0 (va_cpy (num 0) (num 0) (ix x1) (ix x3) (ix x4))), fnd), rfl, (by exact ((iF_t ⟨hs, htt⟩).trans ((iF_f (fun h => h.elim c_5b c_8b)).trans ((iF_t c_9).trans (iF_t ⟨hr1, hr2⟩)))).symm), by dsimp only; rw [ht]; exact hP⟩, hS.F ht⟩) hS.2.2 dX5_copy_130
                  · skip
                    have c_13b := bI_0 c_13
                    refine lv_aload_n hx hb dX5_copy_103 rfl (lv_at hl 2 rfl) ?_
                    refine lv_ldc hx hb hown k52 dX5_copy_104 ?_
                    refine callMi (va_runV (As := [.int (-1000000001)]) (rest := []) ⟨hx, hb, hml, hown, hts⟩ (k_X5_found l D cI cL cS b s1 w1 m1 n1 s2 w2 m2 n2 s3 w3 m3 n3 ik bt ln tk sb en nm bits size num fnd (-1000000001) (va_DT (hD _ rfl) rfl) (vp_in_iff.mpr (by decide))) (cwV 1 hts gX5_copy_X5_found rfl rfl rfl (by decide +kernel) ⟨Nat.le_of_ble_eq_true rfl, Nat.le_of_ble_eq_true rfl⟩) ⟨PcR_fb, va_recv hK hP (ci := 3) (q0 := 0) rfl rfl, PcR_pre hP hK⟩ rfl rfl hl.1 rfl (lv_room (Nat.le_of_ble_eq_true rfl)) dX5_copy_106 ⟨Nat.zero_le _, Nat.zero_le _⟩) hP (hD _ rfl) hS 0 49 rfl (fun r_15 u_14 H locs hu_14 hP hS => ?_)
                    obtain ⟨hu_14r, -⟩ := hu_14
                    subst hu_14r
                    have hP : va_P D vwCl (kcw cI cL cS b s1 w1 m1 n1 s2 w2 m2 n2 s3 w3 m3 n3 ik bt ln tk sb en nm bits size num (bump fnd (-1000000001))) H := hP
                    exact W.iret hx hb hr (fun t ht hW => ⟨⟨_, (num, bump fnd (-1000000001)), rfl, (by exact ((iF_t ⟨hs, htt⟩).trans ((iF_f (fun h => h.elim c_5b c_8b)).trans ((iF_t c_9).trans (iF_f (fun h => by first | exact absurd h.1 c_13b | exact absurd c_13b h.1 | exact absurd h.2 c_13b | exact absurd c_13b h.2))))).symm), by dsimp only; rw [ht]; exact hP⟩, hS.F ht⟩) hS.2.2 dX5_copy_109
              · skip
                refine lv_aload_n hx hb dX5_copy_73 rfl (lv_at hl 2 rfl) ?_
                refine lv_ldc hx hb hown k144 dX5_copy_74 ?_
                refine callMi (va_runV (As := [.int (-1000000003)]) (rest := []) ⟨hx, hb, hml, hown, hts⟩ (k_X5_found l D cI cL cS b s1 w1 m1 n1 s2 w2 m2 n2 s3 w3 m3 n3 ik bt ln tk sb en nm bits size num fnd (-1000000003) (va_DT (hD _ rfl) rfl) (vp_in_iff.mpr (by decide))) (cwV 1 hts gX5_copy_X5_found rfl rfl rfl (by decide +kernel) ⟨Nat.le_of_ble_eq_true rfl, Nat.le_of_ble_eq_true rfl⟩) ⟨PcR_fb, va_recv hK hP (ci := 3) (q0 := 0) rfl rfl, PcR_pre hP hK⟩ rfl rfl hl.1 rfl (lv_room (Nat.le_of_ble_eq_true rfl)) dX5_copy_76 ⟨Nat.zero_le _, Nat.zero_le _⟩) hP (hD _ rfl) hS 0 49 rfl (fun r_17 u_16 H locs hu_16 hP hS => ?_)
                obtain ⟨hu_16r, -⟩ := hu_16
                subst hu_16r
                have hP : va_P D vwCl (kcw cI cL cS b s1 w1 m1 n1 s2 w2 m2 n2 s3 w3 m3 n3 ik bt ln tk sb en nm bits size num (bump fnd (-1000000003))) H := hP
                exact W.iret hx hb hr (fun t ht hW => ⟨⟨_, (num, bump fnd (-1000000003)), rfl, (by exact ((iF_t ⟨hs, htt⟩).trans ((iF_f (fun h => h.elim c_5b c_8b)).trans (iF_f c_9))).symm), by dsimp only; rw [ht]; exact hP⟩, hS.F ht⟩) hS.2.2 dX5_copy_79
            · skip
              have c_8b := bI_n c_8
              refine lv_aload_n hx hb dX5_copy_53 rfl (lv_at hl 2 rfl) ?_
              refine lv_ldc hx hb hown k196 dX5_copy_54 ?_
              refine callMi (va_runV (As := [.int (-1000000006)]) (rest := []) ⟨hx, hb, hml, hown, hts⟩ (k_X5_found l D cI cL cS b s1 w1 m1 n1 s2 w2 m2 n2 s3 w3 m3 n3 ik bt ln tk sb en nm bits size num fnd (-1000000006) (va_DT (hD _ rfl) rfl) (vp_in_iff.mpr (by decide))) (cwV 1 hts gX5_copy_X5_found rfl rfl rfl (by decide +kernel) ⟨Nat.le_of_ble_eq_true rfl, Nat.le_of_ble_eq_true rfl⟩) ⟨PcR_fb, va_recv hK hP (ci := 3) (q0 := 0) rfl rfl, PcR_pre hP hK⟩ rfl rfl hl.1 rfl (lv_room (Nat.le_of_ble_eq_true rfl)) dX5_copy_56 ⟨Nat.zero_le _, Nat.zero_le _⟩) hP (hD _ rfl) hS 0 49 rfl (fun r_19 u_18 H locs hu_18 hP hS => ?_)
              obtain ⟨hu_18r, -⟩ := hu_18
              subst hu_18r
              have hP : va_P D vwCl (kcw cI cL cS b s1 w1 m1 n1 s2 w2 m2 n2 s3 w3 m3 n3 ik bt ln tk sb en nm bits size num (bump fnd (-1000000006))) H := hP
              exact W.iret hx hb hr (fun t ht hW => ⟨⟨_, (num, bump fnd (-1000000006)), rfl, (by exact ((iF_t ⟨hs, htt⟩).trans (iF_t (Or.inr c_8b))).symm), by dsimp only; rw [ht]; exact hP⟩, hS.F ht⟩) hS.2.2 dX5_copy_59
        · skip
          have hz := (oh 0 (by decide)).1
          have hy := (oh 1 (by decide)).1
          refine lv_aload_n hx hb dX5_copy_21 rfl (lv_at hl 0 rfl) ?_
          refine va_get (ci := 3) (v := .ref (b 6 0)) (C := RX5) (T := TX5) (N := 7) hx hb hts inX5 hown hK hP 0 rfl rfl 5 (by decide) f35 (fun _ h9 => h9) rfl dX5_copy_22 ?_
          refine lv_iload_n hx hb dX5_copy_25 rfl (lv_at hl 1 rfl) ?_
          refine va_aldq (f := fun s => some (b 7 s)) hx hb hK hP 39 2 rfl rfl (vp_in_iff.mpr (by decide)) dX5_copy_26 ?_
          refine W.eq (g2 := F0 m 27 ls [.ref (b 7 0)]) rfl ?_
          refine lv_astore (lv' := [(6, .ref (b 7 0)), (0, .ref (b 0 0)), (1, .int 0), (2, .int x1), (3, .int 1), (4, .int x3), (5, .int x4)]) hx hb dX5_copy_27 hl (by decide) rfl (fun ls hl => ?_)
          refine lv_aload_n hx hb dX5_copy_29 rfl (lv_at hl 1 rfl) ?_
          refine va_get (ci := 3) (v := .ref (b 6 0)) (C := RX5) (T := TX5) (N := 7) hx hb hts inX5 hown hK hP 0 rfl rfl 5 (by decide) f35 (fun _ h9 => h9) rfl dX5_copy_30 ?_
          refine lv_iload_n hx hb dX5_copy_33 rfl (lv_at hl 4 rfl) ?_
          refine va_aldq (f := fun s => some (b 7 s)) hx hb hK hP 39 2 rfl rfl (vp_in_iff.mpr (by decide)) dX5_copy_34 ?_
          refine W.eq (g2 := F0 m 35 ls [.ref (b 7 1)]) rfl ?_
          refine lv_astore (lv' := [(7, .ref (b 7 1)), (6, .ref (b 7 0)), (0, .ref (b 0 0)), (1, .int 0), (2, .int x1), (3, .int 1), (4, .int x3), (5, .int x4)]) hx hb dX5_copy_35 hl (by decide) rfl (fun ls hl => ?_)
          refine lv_aload hx hb dX5_copy_37 (lv_at hl 1 rfl) ?_
          refine callE (W.runV (As := []) (rest := []) ⟨hx, hb, hml, hown, hts⟩ (k_X2_isMissing l D cI cL cS (b 7 0) (b 8 0) (bits 0) (size 0) (num 0)) (cwV 0 hts gX5_copy_X2_isMissing rfl rfl rfl (by decide +kernel) ⟨Nat.le_of_ble_eq_true rfl, Nat.le_of_ble_eq_true rfl⟩) ⟨PcR_fb, va_recv hK hP (ci := 0) (q0 := 40) rfl rfl, PcR_pre (va_seg hP 40 2 rfl) hK⟩ rfl rfl hl.1 rfl (lv_room (Nat.le_of_ble_eq_true rfl)) dX5_copy_39 ⟨Nat.zero_le _, Nat.zero_le _⟩) ?_
          refine lv_if_ne (tgt := 53) hx hb dX5_copy_42 (by decide) (fun c_20 => ?_) (fun c_20 => ?_)
          · skip
            have c_20b := bI_n c_20
            refine lv_aload_n hx hb dX5_copy_53 rfl (lv_at hl 2 rfl) ?_
            refine lv_ldc hx hb hown k196 dX5_copy_54 ?_
            refine callMi (va_runV (As := [.int (-1000000006)]) (rest := []) ⟨hx, hb, hml, hown, hts⟩ (k_X5_found l D cI cL cS b s1 w1 m1 n1 s2 w2 m2 n2 s3 w3 m3 n3 ik bt ln tk sb en nm bits size num fnd (-1000000006) (va_DT (hD _ rfl) rfl) (vp_in_iff.mpr (by decide))) (cwV 1 hts gX5_copy_X5_found rfl rfl rfl (by decide +kernel) ⟨Nat.le_of_ble_eq_true rfl, Nat.le_of_ble_eq_true rfl⟩) ⟨PcR_fb, va_recv hK hP (ci := 3) (q0 := 0) rfl rfl, PcR_pre hP hK⟩ rfl rfl hl.1 rfl (lv_room (Nat.le_of_ble_eq_true rfl)) dX5_copy_56 ⟨Nat.zero_le _, Nat.zero_le _⟩) hP (hD _ rfl) hS 0 49 rfl (fun r_22 u_21 H locs hu_21 hP hS => ?_)
            obtain ⟨hu_21r, -⟩ := hu_21
            subst hu_21r
            have hP : va_P D vwCl (kcw cI cL cS b s1 w1 m1 n1 s2 w2 m2 n2 s3 w3 m3 n3 ik bt ln tk sb en nm bits size num (bump fnd (-1000000006))) H := hP
            exact W.iret hx hb hr (fun t ht hW => ⟨⟨_, (num, bump fnd (-1000000006)), rfl, (by exact ((iF_t ⟨hs, htt⟩).trans (iF_t (Or.inl c_20b))).symm), by dsimp only; rw [ht]; exact hP⟩, hS.F ht⟩) hS.2.2 dX5_copy_59
          · skip
            have c_20b := bI_0 c_20
            refine lv_aload hx hb dX5_copy_45 (lv_at hl 0 rfl) ?_
            refine callE (W.runV (As := []) (rest := []) ⟨hx, hb, hml, hown, hts⟩ (k_X2_isMissing l D cI cL cS (b 7 1) (b 8 1) (bits 1) (size 1) (num 1)) (cwV 0 hts gX5_copy_X2_isMissing rfl rfl rfl (by decide +kernel) ⟨Nat.le_of_ble_eq_true rfl, Nat.le_of_ble_eq_true rfl⟩) ⟨PcR_fb, va_recv hK hP (ci := 0) (q0 := 42) rfl rfl, PcR_pre (va_seg hP 42 2 rfl) hK⟩ rfl rfl hl.1 rfl (lv_room (Nat.le_of_ble_eq_true rfl)) dX5_copy_47 ⟨Nat.zero_le _, Nat.zero_le _⟩) ?_
            refine lv_if_eq (tgt := 60) hx hb dX5_copy_50 (by decide) (fun c_23 => ?_) (fun c_23 => ?_)
            · skip
              have c_23b := bI_0 c_23
              refine lv_aload hx hb dX5_copy_60 (lv_at hl 1 rfl) ?_
              refine va_get (ci := 0) (v := .int (bits 0)) (C := RX2) (T := TX2) (N := 3) hx hb hts inX2 hown hK hP 40 rfl rfl 0 (by decide) f206 (fun _ h9 => h9) rfl dX5_copy_62 ?_
              refine lv_aload hx hb dX5_copy_65 (lv_at hl 0 rfl) ?_
              refine va_get (ci := 0) (v := .int (bits 1)) (C := RX2) (T := TX2) (N := 3) hx hb hts inX2 hown hK hP 42 rfl rfl 0 (by decide) f206 (fun _ h9 => h9) rfl dX5_copy_67 ?_
              refine lv_icmp_eq (tgt := 80) hx hb dX5_copy_70 (by decide) (fun c_24 => ?_) (fun c_24 => ?_)
              · skip
                refine lv_aload hx hb dX5_copy_80 (lv_at hl 1 rfl) ?_
                refine lv_iload_n hx hb dX5_copy_82 rfl (lv_at hl 4 rfl) ?_
                refine lv_iload hx hb dX5_copy_83 (lv_at hl 7 rfl) ?_
                refine callE (W.runV (As := [.int x1, .int x4]) (rest := []) ⟨hx, hb, hml, hown, hts⟩ (k_X2_hasRun l D cI cL cS (b 7 0) (b 8 0) (bits 0) (size 0) (num 0) x1 x4) (cwV 2 hts gX5_copy_X2_hasRun rfl rfl rfl (by decide +kernel) ⟨Nat.le_of_ble_eq_true rfl, Nat.le_of_ble_eq_true rfl⟩) ⟨PcR_fb, va_recv hK hP (ci := 0) (q0 := 40) rfl rfl, PcR_pre (va_seg hP 40 2 rfl) hK⟩ rfl rfl hl.1 rfl (lv_room (Nat.le_of_ble_eq_true rfl)) dX5_copy_85 ⟨Nat.zero_le _, Nat.zero_le _⟩) ?_
                refine lv_if_eq (tgt := 103) hx hb dX5_copy_88 (by decide) (fun c_25 => ?_) (fun c_25 => ?_)
                · skip
                  have c_25b := bI_0 c_25
                  refine lv_aload_n hx hb dX5_copy_103 rfl (lv_at hl 2 rfl) ?_
                  refine lv_ldc hx hb hown k52 dX5_copy_104 ?_
                  refine callMi (va_runV (As := [.int (-1000000001)]) (rest := []) ⟨hx, hb, hml, hown, hts⟩ (k_X5_found l D cI cL cS b s1 w1 m1 n1 s2 w2 m2 n2 s3 w3 m3 n3 ik bt ln tk sb en nm bits size num fnd (-1000000001) (va_DT (hD _ rfl) rfl) (vp_in_iff.mpr (by decide))) (cwV 1 hts gX5_copy_X5_found rfl rfl rfl (by decide +kernel) ⟨Nat.le_of_ble_eq_true rfl, Nat.le_of_ble_eq_true rfl⟩) ⟨PcR_fb, va_recv hK hP (ci := 3) (q0 := 0) rfl rfl, PcR_pre hP hK⟩ rfl rfl hl.1 rfl (lv_room (Nat.le_of_ble_eq_true rfl)) dX5_copy_106 ⟨Nat.zero_le _, Nat.zero_le _⟩) hP (hD _ rfl) hS 0 49 rfl (fun r_27 u_26 H locs hu_26 hP hS => ?_)
                  obtain ⟨hu_26r, -⟩ := hu_26
                  subst hu_26r
                  have hP : va_P D vwCl (kcw cI cL cS b s1 w1 m1 n1 s2 w2 m2 n2 s3 w3 m3 n3 ik bt ln tk sb en nm bits size num (bump fnd (-1000000001))) H := hP
                  exact W.iret hx hb hr (fun t ht hW => ⟨⟨_, (num, bump fnd (-1000000001)), rfl, (by exact ((iF_t ⟨hs, htt⟩).trans ((iF_f (fun h => h.elim c_20b c_23b)).trans ((iF_t c_24).trans (iF_f (fun h => by first | exact absurd h.1 c_25b | exact absurd c_25b h.1 | exact absurd h.2 c_25b | exact absurd c_25b h.2))))).symm), by dsimp only; rw [ht]; exact hP⟩, hS.F ht⟩) hS.2.2 dX5_copy_109
                · skip
                  have c_25b := bI_n c_25
                  have hr1 := c_25b
                  refine lv_aload hx hb dX5_copy_91 (lv_at hl 0 rfl) ?_
                  refine lv_iload hx hb dX5_copy_93 (lv_at hl 6 rfl) ?_
                  refine lv_iload hx hb dX5_copy_95 (lv_at hl 7 rfl) ?_
                  refine callE (W.runV (As := [.int x3, .int x4]) (rest := []) ⟨hx, hb, hml, hown, hts⟩ (k_X2_hasRun l D cI cL cS (b 7 1) (b 8 1) (bits 1) (size 1) (num 1) x3 x4) (cwV 2 hts gX5_copy_X2_hasRun rfl rfl rfl (by decide +kernel) ⟨Nat.le_of_ble_eq_true rfl, Nat.le_of_ble_eq_true rfl⟩) ⟨PcR_fb, va_recv hK hP (ci := 0) (q0 := 42) rfl rfl, PcR_pre (va_seg hP 42 2 rfl) hK⟩ rfl rfl hl.1 rfl (lv_room (Nat.le_of_ble_eq_true rfl)) dX5_copy_97 ⟨Nat.zero_le _, Nat.zero_le _⟩) ?_
                  refine lv_if_ne (tgt := 110) hx hb dX5_copy_100 (by decide) (fun c_28 => ?_) (fun c_28 => ?_)
                  · skip
                    have c_28b := bI_n c_28
                    have hr2 := c_28b
                    refine lv_aload hx hb dX5_copy_110 (lv_at hl 1 rfl) ?_
                    refine va_get (ci := 0) (v := .ref (b 8 0)) (C := RX2) (T := TX2) (N := 3) hx hb hts inX2 hown hK hP 40 rfl rfl 2 (by decide) f198 (fun _ h9 => h9) rfl dX5_copy_112 ?_
                    refine lv_iload_n hx hb dX5_copy_115 rfl (lv_at hl 4 rfl) ?_
                    refine lv_aload hx hb dX5_copy_116 (lv_at hl 0 rfl) ?_
                    refine va_get (ci := 0) (v := .ref (b 8 1)) (C := RX2) (T := TX2) (N := 3) hx hb hts inX2 hown hK hP 42 rfl rfl 2 (by decide) f198 (fun _ h9 => h9) rfl dX5_copy_118 ?_
                    refine lv_iload hx hb dX5_copy_121 (lv_at hl 6 rfl) ?_
                    refine lv_iload hx hb dX5_copy_123 (lv_at hl 7 rfl) ?_
                    refine va_copyL hx hb (by rw [hml]; exact hl.1.symm) hown ml212 nAc sAc iSys hK hP (hD _ rfl) hS 41 43 1 1 rfl rfl rfl rfl hr1.1 hr2.1 hr1.2.1 (by have := run_in hz hr1; omega) (by have := run_in hy hr2; omega) (Nat.le_of_ble_eq_true rfl) (Nat.le_of_ble_eq_true rfl) dX5_copy_125 (fun H locs hP hS => ?_)
                    have hP : va_P D vwCl (kcw cI cL cS b s1 w1 m1 n1 s2 w2 m2 n2 s3 w3 m3 n3 ik bt ln tk sb en nm bits size (va_up num 1 (va_cpy (num 0) (num 1) (ix x1) (ix x3) (ix x4))) fnd) H := hP
                    refine lv_iload hx hb dX5_copy_128 (lv_at hl 7 rfl) ?_
                    exact W.iret hx hb hr (fun t ht hW => ⟨⟨_, ((va_up num 1 (va_cpy (num 0) (num 1) (ix x1) (ix x3) (ix x4))), fnd), rfl, (by exact ((iF_t ⟨hs, htt⟩).trans ((iF_f (fun h => h.elim c_20b c_23b)).trans ((iF_t c_24).trans (iF_t ⟨hr1, hr2⟩)))).symm), by dsimp only; rw [ht]; exact hP⟩, hS.F ht⟩) hS.2.2 dX5_copy_130
                  · skip
                    have c_28b := bI_0 c_28
                    refine lv_aload_n hx hb dX5_copy_103 rfl (lv_at hl 2 rfl) ?_
                    refine lv_ldc hx hb hown k52 dX5_copy_104 ?_
                    refine callMi (va_runV (As := [.int (-1000000001)]) (rest := []) ⟨hx, hb, hml, hown, hts⟩ (k_X5_found l D cI cL cS b s1 w1 m1 n1 s2 w2 m2 n2 s3 w3 m3 n3 ik bt ln tk sb en nm bits size num fnd (-1000000001) (va_DT (hD _ rfl) rfl) (vp_in_iff.mpr (by decide))) (cwV 1 hts gX5_copy_X5_found rfl rfl rfl (by decide +kernel) ⟨Nat.le_of_ble_eq_true rfl, Nat.le_of_ble_eq_true rfl⟩) ⟨PcR_fb, va_recv hK hP (ci := 3) (q0 := 0) rfl rfl, PcR_pre hP hK⟩ rfl rfl hl.1 rfl (lv_room (Nat.le_of_ble_eq_true rfl)) dX5_copy_106 ⟨Nat.zero_le _, Nat.zero_le _⟩) hP (hD _ rfl) hS 0 49 rfl (fun r_30 u_29 H locs hu_29 hP hS => ?_)
                    obtain ⟨hu_29r, -⟩ := hu_29
                    subst hu_29r
                    have hP : va_P D vwCl (kcw cI cL cS b s1 w1 m1 n1 s2 w2 m2 n2 s3 w3 m3 n3 ik bt ln tk sb en nm bits size num (bump fnd (-1000000001))) H := hP
                    exact W.iret hx hb hr (fun t ht hW => ⟨⟨_, (num, bump fnd (-1000000001)), rfl, (by exact ((iF_t ⟨hs, htt⟩).trans ((iF_f (fun h => h.elim c_20b c_23b)).trans ((iF_t c_24).trans (iF_f (fun h => by first | exact absurd h.1 c_28b | exact absurd c_28b h.1 | exact absurd h.2 c_28b | exact absurd c_28b h.2))))).symm), by dsimp only; rw [ht]; exact hP⟩, hS.F ht⟩) hS.2.2 dX5_copy_109
              · skip
                refine lv_aload_n hx hb dX5_copy_73 rfl (lv_at hl 2 rfl) ?_
                refine lv_ldc hx hb hown k144 dX5_copy_74 ?_
                refine callMi (va_runV (As := [.int (-1000000003)]) (rest := []) ⟨hx, hb, hml, hown, hts⟩ (k_X5_found l D cI cL cS b s1 w1 m1 n1 s2 w2 m2 n2 s3 w3 m3 n3 ik bt ln tk sb en nm bits size num fnd (-1000000003) (va_DT (hD _ rfl) rfl) (vp_in_iff.mpr (by decide))) (cwV 1 hts gX5_copy_X5_found rfl rfl rfl (by decide +kernel) ⟨Nat.le_of_ble_eq_true rfl, Nat.le_of_ble_eq_true rfl⟩) ⟨PcR_fb, va_recv hK hP (ci := 3) (q0 := 0) rfl rfl, PcR_pre hP hK⟩ rfl rfl hl.1 rfl (lv_room (Nat.le_of_ble_eq_true rfl)) dX5_copy_76 ⟨Nat.zero_le _, Nat.zero_le _⟩) hP (hD _ rfl) hS 0 49 rfl (fun r_32 u_31 H locs hu_31 hP hS => ?_)
                obtain ⟨hu_31r, -⟩ := hu_31
                subst hu_31r
                have hP : va_P D vwCl (kcw cI cL cS b s1 w1 m1 n1 s2 w2 m2 n2 s3 w3 m3 n3 ik bt ln tk sb en nm bits size num (bump fnd (-1000000003))) H := hP
                exact W.iret hx hb hr (fun t ht hW => ⟨⟨_, (num, bump fnd (-1000000003)), rfl, (by exact ((iF_t ⟨hs, htt⟩).trans ((iF_f (fun h => h.elim c_20b c_23b)).trans (iF_f c_24))).symm), by dsimp only; rw [ht]; exact hP⟩, hS.F ht⟩) hS.2.2 dX5_copy_79
            · skip
              have c_23b := bI_n c_23
              refine lv_aload_n hx hb dX5_copy_53 rfl (lv_at hl 2 rfl) ?_
              refine lv_ldc hx hb hown k196 dX5_copy_54 ?_
              refine callMi (va_runV (As := [.int (-1000000006)]) (rest := []) ⟨hx, hb, hml, hown, hts⟩ (k_X5_found l D cI cL cS b s1 w1 m1 n1 s2 w2 m2 n2 s3 w3 m3 n3 ik bt ln tk sb en nm bits size num fnd (-1000000006) (va_DT (hD _ rfl) rfl) (vp_in_iff.mpr (by decide))) (cwV 1 hts gX5_copy_X5_found rfl rfl rfl (by decide +kernel) ⟨Nat.le_of_ble_eq_true rfl, Nat.le_of_ble_eq_true rfl⟩) ⟨PcR_fb, va_recv hK hP (ci := 3) (q0 := 0) rfl rfl, PcR_pre hP hK⟩ rfl rfl hl.1 rfl (lv_room (Nat.le_of_ble_eq_true rfl)) dX5_copy_56 ⟨Nat.zero_le _, Nat.zero_le _⟩) hP (hD _ rfl) hS 0 49 rfl (fun r_34 u_33 H locs hu_33 hP hS => ?_)
              obtain ⟨hu_33r, -⟩ := hu_33
              subst hu_33r
              have hP : va_P D vwCl (kcw cI cL cS b s1 w1 m1 n1 s2 w2 m2 n2 s3 w3 m3 n3 ik bt ln tk sb en nm bits size num (bump fnd (-1000000006))) H := hP
              exact W.iret hx hb hr (fun t ht hW => ⟨⟨_, (num, bump fnd (-1000000006)), rfl, (by exact ((iF_t ⟨hs, htt⟩).trans (iF_t (Or.inr c_23b))).symm), by dsimp only; rw [ht]; exact hP⟩, hS.F ht⟩) hS.2.2 dX5_copy_59
        · skip
          have hz := (oh 0 (by decide)).1
          have hy := (oh 2 (by decide)).1
          refine lv_aload_n hx hb dX5_copy_21 rfl (lv_at hl 0 rfl) ?_
          refine va_get (ci := 3) (v := .ref (b 6 0)) (C := RX5) (T := TX5) (N := 7) hx hb hts inX5 hown hK hP 0 rfl rfl 5 (by decide) f35 (fun _ h9 => h9) rfl dX5_copy_22 ?_
          refine lv_iload_n hx hb dX5_copy_25 rfl (lv_at hl 1 rfl) ?_
          refine va_aldq (f := fun s => some (b 7 s)) hx hb hK hP 39 2 rfl rfl (vp_in_iff.mpr (by decide)) dX5_copy_26 ?_
          refine W.eq (g2 := F0 m 27 ls [.ref (b 7 0)]) rfl ?_
          refine lv_astore (lv' := [(6, .ref (b 7 0)), (0, .ref (b 0 0)), (1, .int 0), (2, .int x1), (3, .int 2), (4, .int x3), (5, .int x4)]) hx hb dX5_copy_27 hl (by decide) rfl (fun ls hl => ?_)
          refine lv_aload_n hx hb dX5_copy_29 rfl (lv_at hl 1 rfl) ?_
          refine va_get (ci := 3) (v := .ref (b 6 0)) (C := RX5) (T := TX5) (N := 7) hx hb hts inX5 hown hK hP 0 rfl rfl 5 (by decide) f35 (fun _ h9 => h9) rfl dX5_copy_30 ?_
          refine lv_iload_n hx hb dX5_copy_33 rfl (lv_at hl 4 rfl) ?_
          refine va_aldq (f := fun s => some (b 7 s)) hx hb hK hP 39 2 rfl rfl (vp_in_iff.mpr (by decide)) dX5_copy_34 ?_
          refine W.eq (g2 := F0 m 35 ls [.ref (b 7 2)]) rfl ?_
          refine lv_astore (lv' := [(7, .ref (b 7 2)), (6, .ref (b 7 0)), (0, .ref (b 0 0)), (1, .int 0), (2, .int x1), (3, .int 2), (4, .int x3), (5, .int x4)]) hx hb dX5_copy_35 hl (by decide) rfl (fun ls hl => ?_)
          refine lv_aload hx hb dX5_copy_37 (lv_at hl 1 rfl) ?_
          refine callE (W.runV (As := []) (rest := []) ⟨hx, hb, hml, hown, hts⟩ (k_X2_isMissing l D cI cL cS (b 7 0) (b 8 0) (bits 0) (size 0) (num 0)) (cwV 0 hts gX5_copy_X2_isMissing rfl rfl rfl (by decide +kernel) ⟨Nat.le_of_ble_eq_true rfl, Nat.le_of_ble_eq_true rfl⟩) ⟨PcR_fb, va_recv hK hP (ci := 0) (q0 := 40) rfl rfl, PcR_pre (va_seg hP 40 2 rfl) hK⟩ rfl rfl hl.1 rfl (lv_room (Nat.le_of_ble_eq_true rfl)) dX5_copy_39 ⟨Nat.zero_le _, Nat.zero_le _⟩) ?_
          refine lv_if_ne (tgt := 53) hx hb dX5_copy_42 (by decide) (fun c_35 => ?_) (fun c_35 => ?_)
          · skip
            have c_35b := bI_n c_35
            refine lv_aload_n hx hb dX5_copy_53 rfl (lv_at hl 2 rfl) ?_
            refine lv_ldc hx hb hown k196 dX5_copy_54 ?_
            refine callMi (va_runV (As := [.int (-1000000006)]) (rest := []) ⟨hx, hb, hml, hown, hts⟩ (k_X5_found l D cI cL cS b s1 w1 m1 n1 s2 w2 m2 n2 s3 w3 m3 n3 ik bt ln tk sb en nm bits size num fnd (-1000000006) (va_DT (hD _ rfl) rfl) (vp_in_iff.mpr (by decide))) (cwV 1 hts gX5_copy_X5_found rfl rfl rfl (by decide +kernel) ⟨Nat.le_of_ble_eq_true rfl, Nat.le_of_ble_eq_true rfl⟩) ⟨PcR_fb, va_recv hK hP (ci := 3) (q0 := 0) rfl rfl, PcR_pre hP hK⟩ rfl rfl hl.1 rfl (lv_room (Nat.le_of_ble_eq_true rfl)) dX5_copy_56 ⟨Nat.zero_le _, Nat.zero_le _⟩) hP (hD _ rfl) hS 0 49 rfl (fun r_37 u_36 H locs hu_36 hP hS => ?_)
            obtain ⟨hu_36r, -⟩ := hu_36
            subst hu_36r
            have hP : va_P D vwCl (kcw cI cL cS b s1 w1 m1 n1 s2 w2 m2 n2 s3 w3 m3 n3 ik bt ln tk sb en nm bits size num (bump fnd (-1000000006))) H := hP
            exact W.iret hx hb hr (fun t ht hW => ⟨⟨_, (num, bump fnd (-1000000006)), rfl, (by exact ((iF_t ⟨hs, htt⟩).trans (iF_t (Or.inl c_35b))).symm), by dsimp only; rw [ht]; exact hP⟩, hS.F ht⟩) hS.2.2 dX5_copy_59
          · skip
            have c_35b := bI_0 c_35
            refine lv_aload hx hb dX5_copy_45 (lv_at hl 0 rfl) ?_
            refine callE (W.runV (As := []) (rest := []) ⟨hx, hb, hml, hown, hts⟩ (k_X2_isMissing l D cI cL cS (b 7 2) (b 8 2) (bits 2) (size 2) (num 2)) (cwV 0 hts gX5_copy_X2_isMissing rfl rfl rfl (by decide +kernel) ⟨Nat.le_of_ble_eq_true rfl, Nat.le_of_ble_eq_true rfl⟩) ⟨PcR_fb, va_recv hK hP (ci := 0) (q0 := 44) rfl rfl, PcR_pre (va_seg hP 44 2 rfl) hK⟩ rfl rfl hl.1 rfl (lv_room (Nat.le_of_ble_eq_true rfl)) dX5_copy_47 ⟨Nat.zero_le _, Nat.zero_le _⟩) ?_
            refine lv_if_eq (tgt := 60) hx hb dX5_copy_50 (by decide) (fun c_38 => ?_) (fun c_38 => ?_)
            · skip
              have c_38b := bI_0 c_38
              refine lv_aload hx hb dX5_copy_60 (lv_at hl 1 rfl) ?_
              refine va_get (ci := 0) (v := .int (bits 0)) (C := RX2) (T := TX2) (N := 3) hx hb hts inX2 hown hK hP 40 rfl rfl 0 (by decide) f206 (fun _ h9 => h9) rfl dX5_copy_62 ?_
              refine lv_aload hx hb dX5_copy_65 (lv_at hl 0 rfl) ?_
              refine va_get (ci := 0) (v := .int (bits 2)) (C := RX2) (T := TX2) (N := 3) hx hb hts inX2 hown hK hP 44 rfl rfl 0 (by decide) f206 (fun _ h9 => h9) rfl dX5_copy_67 ?_
              refine lv_icmp_eq (tgt := 80) hx hb dX5_copy_70 (by decide) (fun c_39 => ?_) (fun c_39 => ?_)
              · skip
                refine lv_aload hx hb dX5_copy_80 (lv_at hl 1 rfl) ?_
                refine lv_iload_n hx hb dX5_copy_82 rfl (lv_at hl 4 rfl) ?_
                refine lv_iload hx hb dX5_copy_83 (lv_at hl 7 rfl) ?_
                refine callE (W.runV (As := [.int x1, .int x4]) (rest := []) ⟨hx, hb, hml, hown, hts⟩ (k_X2_hasRun l D cI cL cS (b 7 0) (b 8 0) (bits 0) (size 0) (num 0) x1 x4) (cwV 2 hts gX5_copy_X2_hasRun rfl rfl rfl (by decide +kernel) ⟨Nat.le_of_ble_eq_true rfl, Nat.le_of_ble_eq_true rfl⟩) ⟨PcR_fb, va_recv hK hP (ci := 0) (q0 := 40) rfl rfl, PcR_pre (va_seg hP 40 2 rfl) hK⟩ rfl rfl hl.1 rfl (lv_room (Nat.le_of_ble_eq_true rfl)) dX5_copy_85 ⟨Nat.zero_le _, Nat.zero_le _⟩) ?_
                refine lv_if_eq (tgt := 103) hx hb dX5_copy_88 (by decide) (fun c_40 => ?_) (fun c_40 => ?_)
                · skip
                  have c_40b := bI_0 c_40
                  refine lv_aload_n hx hb dX5_copy_103 rfl (lv_at hl 2 rfl) ?_
                  refine lv_ldc hx hb hown k52 dX5_copy_104 ?_
                  refine callMi (va_runV (As := [.int (-1000000001)]) (rest := []) ⟨hx, hb, hml, hown, hts⟩ (k_X5_found l D cI cL cS b s1 w1 m1 n1 s2 w2 m2 n2 s3 w3 m3 n3 ik bt ln tk sb en nm bits size num fnd (-1000000001) (va_DT (hD _ rfl) rfl) (vp_in_iff.mpr (by decide))) (cwV 1 hts gX5_copy_X5_found rfl rfl rfl (by decide +kernel) ⟨Nat.le_of_ble_eq_true rfl, Nat.le_of_ble_eq_true rfl⟩) ⟨PcR_fb, va_recv hK hP (ci := 3) (q0 := 0) rfl rfl, PcR_pre hP hK⟩ rfl rfl hl.1 rfl (lv_room (Nat.le_of_ble_eq_true rfl)) dX5_copy_106 ⟨Nat.zero_le _, Nat.zero_le _⟩) hP (hD _ rfl) hS 0 49 rfl (fun r_42 u_41 H locs hu_41 hP hS => ?_)
                  obtain ⟨hu_41r, -⟩ := hu_41
                  subst hu_41r
                  have hP : va_P D vwCl (kcw cI cL cS b s1 w1 m1 n1 s2 w2 m2 n2 s3 w3 m3 n3 ik bt ln tk sb en nm bits size num (bump fnd (-1000000001))) H := hP
                  exact W.iret hx hb hr (fun t ht hW => ⟨⟨_, (num, bump fnd (-1000000001)), rfl, (by exact ((iF_t ⟨hs, htt⟩).trans ((iF_f (fun h => h.elim c_35b c_38b)).trans ((iF_t c_39).trans (iF_f (fun h => by first | exact absurd h.1 c_40b | exact absurd c_40b h.1 | exact absurd h.2 c_40b | exact absurd c_40b h.2))))).symm), by dsimp only; rw [ht]; exact hP⟩, hS.F ht⟩) hS.2.2 dX5_copy_109
                · skip
                  have c_40b := bI_n c_40
                  have hr1 := c_40b
                  refine lv_aload hx hb dX5_copy_91 (lv_at hl 0 rfl) ?_
                  refine lv_iload hx hb dX5_copy_93 (lv_at hl 6 rfl) ?_
                  refine lv_iload hx hb dX5_copy_95 (lv_at hl 7 rfl) ?_
                  refine callE (W.runV (As := [.int x3, .int x4]) (rest := []) ⟨hx, hb, hml, hown, hts⟩ (k_X2_hasRun l D cI cL cS (b 7 2) (b 8 2) (bits 2) (size 2) (num 2) x3 x4) (cwV 2 hts gX5_copy_X2_hasRun rfl rfl rfl (by decide +kernel) ⟨Nat.le_of_ble_eq_true rfl, Nat.le_of_ble_eq_true rfl⟩) ⟨PcR_fb, va_recv hK hP (ci := 0) (q0 := 44) rfl rfl, PcR_pre (va_seg hP 44 2 rfl) hK⟩ rfl rfl hl.1 rfl (lv_room (Nat.le_of_ble_eq_true rfl)) dX5_copy_97 ⟨Nat.zero_le _, Nat.zero_le _⟩) ?_
                  refine lv_if_ne (tgt := 110) hx hb dX5_copy_100 (by decide) (fun c_43 => ?_) (fun c_43 => ?_)
                  · skip
                    have c_43b := bI_n c_43
                    have hr2 := c_43b
                    refine lv_aload hx hb dX5_copy_110 (lv_at hl 1 rfl) ?_
                    refine va_get (ci := 0) (v := .ref (b 8 0)) (C := RX2) (T := TX2) (N := 3) hx hb hts inX2 hown hK hP 40 rfl rfl 2 (by decide) f198 (fun _ h9 => h9) rfl dX5_copy_112 ?_
                    refine lv_iload_n hx hb dX5_copy_115 rfl (lv_at hl 4 rfl) ?_
                    refine lv_aload hx hb dX5_copy_116 (lv_at hl 0 rfl) ?_
                    refine va_get (ci := 0) (v := .ref (b 8 2)) (C := RX2) (T := TX2) (N := 3) hx hb hts inX2 hown hK hP 44 rfl rfl 2 (by decide) f198 (fun _ h9 => h9) rfl dX5_copy_118 ?_
                    refine lv_iload hx hb dX5_copy_121 (lv_at hl 6 rfl) ?_
                    refine lv_iload hx hb dX5_copy_123 (lv_at hl 7 rfl) ?_
                    refine va_copyL hx hb (by rw [hml]; exact hl.1.symm) hown ml212 nAc sAc iSys hK hP (hD _ rfl) hS 41 45 1 1 rfl rfl rfl rfl hr1.1 hr2.1 hr1.2.1 (by have := run_in hz hr1; omega) (by have := run_in hy hr2; omega) (Nat.le_of_ble_eq_true rfl) (Nat.le_of_ble_eq_true rfl) dX5_copy_125 (fun H locs hP hS => ?_)
                    have hP : va_P D vwCl (kcw cI cL cS b s1 w1 m1 n1 s2 w2 m2 n2 s3 w3 m3 n3 ik bt ln tk sb en nm bits size (va_up num 2 (va_cpy (num 0) (num 2) (ix x1) (ix x3) (ix x4))) fnd) H := hP
                    refine lv_iload hx hb dX5_copy_128 (lv_at hl 7 rfl) ?_
                    exact W.iret hx hb hr (fun t ht hW => ⟨⟨_, ((va_up num 2 (va_cpy (num 0) (num 2) (ix x1) (ix x3) (ix x4))), fnd), rfl, (by exact ((iF_t ⟨hs, htt⟩).trans ((iF_f (fun h => h.elim c_35b c_38b)).trans ((iF_t c_39).trans (iF_t ⟨hr1, hr2⟩)))).symm), by dsimp only; rw [ht]; exact hP⟩, hS.F ht⟩) hS.2.2 dX5_copy_130
                  · skip
                    have c_43b := bI_0 c_43
                    refine lv_aload_n hx hb dX5_copy_103 rfl (lv_at hl 2 rfl) ?_
                    refine lv_ldc hx hb hown k52 dX5_copy_104 ?_
                    refine callMi (va_runV (As := [.int (-1000000001)]) (rest := []) ⟨hx, hb, hml, hown, hts⟩ (k_X5_found l D cI cL cS b s1 w1 m1 n1 s2 w2 m2 n2 s3 w3 m3 n3 ik bt ln tk sb en nm bits size num fnd (-1000000001) (va_DT (hD _ rfl) rfl) (vp_in_iff.mpr (by decide))) (cwV 1 hts gX5_copy_X5_found rfl rfl rfl (by decide +kernel) ⟨Nat.le_of_ble_eq_true rfl, Nat.le_of_ble_eq_true rfl⟩) ⟨PcR_fb, va_recv hK hP (ci := 3) (q0 := 0) rfl rfl, PcR_pre hP hK⟩ rfl rfl hl.1 rfl (lv_room (Nat.le_of_ble_eq_true rfl)) dX5_copy_106 ⟨Nat.zero_le _, Nat.zero_le _⟩) hP (hD _ rfl) hS 0 49 rfl (fun r_45 u_44 H locs hu_44 hP hS => ?_)
                    obtain ⟨hu_44r, -⟩ := hu_44
                    subst hu_44r
                    have hP : va_P D vwCl (kcw cI cL cS b s1 w1 m1 n1 s2 w2 m2 n2 s3 w3 m3 n3 ik bt ln tk sb en nm bits size num (bump fnd (-1000000001))) H := hP
                    exact W.iret hx hb hr (fun t ht hW => ⟨⟨_, (num, bump fnd (-1000000001)), rfl, (by exact ((iF_t ⟨hs, htt⟩).trans ((iF_f (fun h => h.elim c_35b c_38b)).trans ((iF_t c_39).trans (iF_f (fun h => by first | exact absurd h.1 c_43b | exact absurd c_43b h.1 | exact absurd h.2 c_43b | exact absurd c_43b h.2))))).symm), by dsimp only; rw [ht]; exact hP⟩, hS.F ht⟩) hS.2.2 dX5_copy_109
              · skip
                refine lv_aload_n hx hb dX5_copy_73 rfl (lv_at hl 2 rfl) ?_
                refine lv_ldc hx hb hown k144 dX5_copy_74 ?_
                refine callMi (va_runV (As := [.int (-1000000003)]) (rest := []) ⟨hx, hb, hml, hown, hts⟩ (k_X5_found l D cI cL cS b s1 w1 m1 n1 s2 w2 m2 n2 s3 w3 m3 n3 ik bt ln tk sb en nm bits size num fnd (-1000000003) (va_DT (hD _ rfl) rfl) (vp_in_iff.mpr (by decide))) (cwV 1 hts gX5_copy_X5_found rfl rfl rfl (by decide +kernel) ⟨Nat.le_of_ble_eq_true rfl, Nat.le_of_ble_eq_true rfl⟩) ⟨PcR_fb, va_recv hK hP (ci := 3) (q0 := 0) rfl rfl, PcR_pre hP hK⟩ rfl rfl hl.1 rfl (lv_room (Nat.le_of_ble_eq_true rfl)) dX5_copy_76 ⟨Nat.zero_le _, Nat.zero_le _⟩) hP (hD _ rfl) hS 0 49 rfl (fun r_47 u_46 H locs hu_46 hP hS => ?_)
                obtain ⟨hu_46r, -⟩ := hu_46
                subst hu_46r
                have hP : va_P D vwCl (kcw cI cL cS b s1 w1 m1 n1 s2 w2 m2 n2 s3 w3 m3 n3 ik bt ln tk sb en nm bits size num (bump fnd (-1000000003))) H := hP
                exact W.iret hx hb hr (fun t ht hW => ⟨⟨_, (num, bump fnd (-1000000003)), rfl, (by exact ((iF_t ⟨hs, htt⟩).trans ((iF_f (fun h => h.elim c_35b c_38b)).trans (iF_f c_39))).symm), by dsimp only; rw [ht]; exact hP⟩, hS.F ht⟩) hS.2.2 dX5_copy_79
            · skip
              have c_38b := bI_n c_38
              refine lv_aload_n hx hb dX5_copy_53 rfl (lv_at hl 2 rfl) ?_
              refine lv_ldc hx hb hown k196 dX5_copy_54 ?_
              refine callMi (va_runV (As := [.int (-1000000006)]) (rest := []) ⟨hx, hb, hml, hown, hts⟩ (k_X5_found l D cI cL cS b s1 w1 m1 n1 s2 w2 m2 n2 s3 w3 m3 n3 ik bt ln tk sb en nm bits size num fnd (-1000000006) (va_DT (hD _ rfl) rfl) (vp_in_iff.mpr (by decide))) (cwV 1 hts gX5_copy_X5_found rfl rfl rfl (by decide +kernel) ⟨Nat.le_of_ble_eq_true rfl, Nat.le_of_ble_eq_true rfl⟩) ⟨PcR_fb, va_recv hK hP (ci := 3) (q0 := 0) rfl rfl, PcR_pre hP hK⟩ rfl rfl hl.1 rfl (lv_room (Nat.le_of_ble_eq_true rfl)) dX5_copy_56 ⟨Nat.zero_le _, Nat.zero_le _⟩) hP (hD _ rfl) hS 0 49 rfl (fun r_49 u_48 H locs hu_48 hP hS => ?_)
              obtain ⟨hu_48r, -⟩ := hu_48
              subst hu_48r
              have hP : va_P D vwCl (kcw cI cL cS b s1 w1 m1 n1 s2 w2 m2 n2 s3 w3 m3 n3 ik bt ln tk sb en nm bits size num (bump fnd (-1000000006))) H := hP
              exact W.iret hx hb hr (fun t ht hW => ⟨⟨_, (num, bump fnd (-1000000006)), rfl, (by exact ((iF_t ⟨hs, htt⟩).trans (iF_t (Or.inr c_38b))).symm), by dsimp only; rw [ht]; exact hP⟩, hS.F ht⟩) hS.2.2 dX5_copy_59
        · skip
          have hz := (oh 0 (by decide)).1
          have hy := (oh 3 (by decide)).1
          refine lv_aload_n hx hb dX5_copy_21 rfl (lv_at hl 0 rfl) ?_
          refine va_get (ci := 3) (v := .ref (b 6 0)) (C := RX5) (T := TX5) (N := 7) hx hb hts inX5 hown hK hP 0 rfl rfl 5 (by decide) f35 (fun _ h9 => h9) rfl dX5_copy_22 ?_
          refine lv_iload_n hx hb dX5_copy_25 rfl (lv_at hl 1 rfl) ?_
          refine va_aldq (f := fun s => some (b 7 s)) hx hb hK hP 39 2 rfl rfl (vp_in_iff.mpr (by decide)) dX5_copy_26 ?_
          refine W.eq (g2 := F0 m 27 ls [.ref (b 7 0)]) rfl ?_
          refine lv_astore (lv' := [(6, .ref (b 7 0)), (0, .ref (b 0 0)), (1, .int 0), (2, .int x1), (3, .int 3), (4, .int x3), (5, .int x4)]) hx hb dX5_copy_27 hl (by decide) rfl (fun ls hl => ?_)
          refine lv_aload_n hx hb dX5_copy_29 rfl (lv_at hl 1 rfl) ?_
          refine va_get (ci := 3) (v := .ref (b 6 0)) (C := RX5) (T := TX5) (N := 7) hx hb hts inX5 hown hK hP 0 rfl rfl 5 (by decide) f35 (fun _ h9 => h9) rfl dX5_copy_30 ?_
          refine lv_iload_n hx hb dX5_copy_33 rfl (lv_at hl 4 rfl) ?_
          refine va_aldq (f := fun s => some (b 7 s)) hx hb hK hP 39 2 rfl rfl (vp_in_iff.mpr (by decide)) dX5_copy_34 ?_
          refine W.eq (g2 := F0 m 35 ls [.ref (b 7 3)]) rfl ?_
          refine lv_astore (lv' := [(7, .ref (b 7 3)), (6, .ref (b 7 0)), (0, .ref (b 0 0)), (1, .int 0), (2, .int x1), (3, .int 3), (4, .int x3), (5, .int x4)]) hx hb dX5_copy_35 hl (by decide) rfl (fun ls hl => ?_)
          refine lv_aload hx hb dX5_copy_37 (lv_at hl 1 rfl) ?_
          refine callE (W.runV (As := []) (rest := []) ⟨hx, hb, hml, hown, hts⟩ (k_X2_isMissing l D cI cL cS (b 7 0) (b 8 0) (bits 0) (size 0) (num 0)) (cwV 0 hts gX5_copy_X2_isMissing rfl rfl rfl (by decide +kernel) ⟨Nat.le_of_ble_eq_true rfl, Nat.le_of_ble_eq_true rfl⟩) ⟨PcR_fb, va_recv hK hP (ci := 0) (q0 := 40) rfl rfl, PcR_pre (va_seg hP 40 2 rfl) hK⟩ rfl rfl hl.1 rfl (lv_room (Nat.le_of_ble_eq_true rfl)) dX5_copy_39 ⟨Nat.zero_le _, Nat.zero_le _⟩) ?_
          refine lv_if_ne (tgt := 53) hx hb dX5_copy_42 (by decide) (fun c_50 => ?_) (fun c_50 => ?_)
          · skip
            have c_50b := bI_n c_50
            refine lv_aload_n hx hb dX5_copy_53 rfl (lv_at hl 2 rfl) ?_
            refine lv_ldc hx hb hown k196 dX5_copy_54 ?_
            refine callMi (va_runV (As := [.int (-1000000006)]) (rest := []) ⟨hx, hb, hml, hown, hts⟩ (k_X5_found l D cI cL cS b s1 w1 m1 n1 s2 w2 m2 n2 s3 w3 m3 n3 ik bt ln tk sb en nm bits size num fnd (-1000000006) (va_DT (hD _ rfl) rfl) (vp_in_iff.mpr (by decide))) (cwV 1 hts gX5_copy_X5_found rfl rfl rfl (by decide +kernel) ⟨Nat.le_of_ble_eq_true rfl, Nat.le_of_ble_eq_true rfl⟩) ⟨PcR_fb, va_recv hK hP (ci := 3) (q0 := 0) rfl rfl, PcR_pre hP hK⟩ rfl rfl hl.1 rfl (lv_room (Nat.le_of_ble_eq_true rfl)) dX5_copy_56 ⟨Nat.zero_le _, Nat.zero_le _⟩) hP (hD _ rfl) hS 0 49 rfl (fun r_52 u_51 H locs hu_51 hP hS => ?_)
            obtain ⟨hu_51r, -⟩ := hu_51
            subst hu_51r
            have hP : va_P D vwCl (kcw cI cL cS b s1 w1 m1 n1 s2 w2 m2 n2 s3 w3 m3 n3 ik bt ln tk sb en nm bits size num (bump fnd (-1000000006))) H := hP
            exact W.iret hx hb hr (fun t ht hW => ⟨⟨_, (num, bump fnd (-1000000006)), rfl, (by exact ((iF_t ⟨hs, htt⟩).trans (iF_t (Or.inl c_50b))).symm), by dsimp only; rw [ht]; exact hP⟩, hS.F ht⟩) hS.2.2 dX5_copy_59
          · skip
            have c_50b := bI_0 c_50
            refine lv_aload hx hb dX5_copy_45 (lv_at hl 0 rfl) ?_
            refine callE (W.runV (As := []) (rest := []) ⟨hx, hb, hml, hown, hts⟩ (k_X2_isMissing l D cI cL cS (b 7 3) (b 8 3) (bits 3) (size 3) (num 3)) (cwV 0 hts gX5_copy_X2_isMissing rfl rfl rfl (by decide +kernel) ⟨Nat.le_of_ble_eq_true rfl, Nat.le_of_ble_eq_true rfl⟩) ⟨PcR_fb, va_recv hK hP (ci := 0) (q0 := 46) rfl rfl, PcR_pre (va_seg hP 46 2 rfl) hK⟩ rfl rfl hl.1 rfl (lv_room (Nat.le_of_ble_eq_true rfl)) dX5_copy_47 ⟨Nat.zero_le _, Nat.zero_le _⟩) ?_
            refine lv_if_eq (tgt := 60) hx hb dX5_copy_50 (by decide) (fun c_53 => ?_) (fun c_53 => ?_)
            · skip
              have c_53b := bI_0 c_53
              refine lv_aload hx hb dX5_copy_60 (lv_at hl 1 rfl) ?_
              refine va_get (ci := 0) (v := .int (bits 0)) (C := RX2) (T := TX2) (N := 3) hx hb hts inX2 hown hK hP 40 rfl rfl 0 (by decide) f206 (fun _ h9 => h9) rfl dX5_copy_62 ?_
              refine lv_aload hx hb dX5_copy_65 (lv_at hl 0 rfl) ?_
              refine va_get (ci := 0) (v := .int (bits 3)) (C := RX2) (T := TX2) (N := 3) hx hb hts inX2 hown hK hP 46 rfl rfl 0 (by decide) f206 (fun _ h9 => h9) rfl dX5_copy_67 ?_
              refine lv_icmp_eq (tgt := 80) hx hb dX5_copy_70 (by decide) (fun c_54 => ?_) (fun c_54 => ?_)
              · skip
                refine lv_aload hx hb dX5_copy_80 (lv_at hl 1 rfl) ?_
                refine lv_iload_n hx hb dX5_copy_82 rfl (lv_at hl 4 rfl) ?_
                refine lv_iload hx hb dX5_copy_83 (lv_at hl 7 rfl) ?_
                refine callE (W.runV (As := [.int x1, .int x4]) (rest := []) ⟨hx, hb, hml, hown, hts⟩ (k_X2_hasRun l D cI cL cS (b 7 0) (b 8 0) (bits 0) (size 0) (num 0) x1 x4) (cwV 2 hts gX5_copy_X2_hasRun rfl rfl rfl (by decide +kernel) ⟨Nat.le_of_ble_eq_true rfl, Nat.le_of_ble_eq_true rfl⟩) ⟨PcR_fb, va_recv hK hP (ci := 0) (q0 := 40) rfl rfl, PcR_pre (va_seg hP 40 2 rfl) hK⟩ rfl rfl hl.1 rfl (lv_room (Nat.le_of_ble_eq_true rfl)) dX5_copy_85 ⟨Nat.zero_le _, Nat.zero_le _⟩) ?_
                refine lv_if_eq (tgt := 103) hx hb dX5_copy_88 (by decide) (fun c_55 => ?_) (fun c_55 => ?_)
                · skip
                  have c_55b := bI_0 c_55
                  refine lv_aload_n hx hb dX5_copy_103 rfl (lv_at hl 2 rfl) ?_
                  refine lv_ldc hx hb hown k52 dX5_copy_104 ?_
                  refine callMi (va_runV (As := [.int (-1000000001)]) (rest := []) ⟨hx, hb, hml, hown, hts⟩ (k_X5_found l D cI cL cS b s1 w1 m1 n1 s2 w2 m2 n2 s3 w3 m3 n3 ik bt ln tk sb en nm bits size num fnd (-1000000001) (va_DT (hD _ rfl) rfl) (vp_in_iff.mpr (by decide))) (cwV 1 hts gX5_copy_X5_found rfl rfl rfl (by decide +kernel) ⟨Nat.le_of_ble_eq_true rfl, Nat.le_of_ble_eq_true rfl⟩) ⟨PcR_fb, va_recv hK hP (ci := 3) (q0 := 0) rfl rfl, PcR_pre hP hK⟩ rfl rfl hl.1 rfl (lv_room (Nat.le_of_ble_eq_true rfl)) dX5_copy_106 ⟨Nat.zero_le _, Nat.zero_le _⟩) hP (hD _ rfl) hS 0 49 rfl (fun r_57 u_56 H locs hu_56 hP hS => ?_)
                  obtain ⟨hu_56r, -⟩ := hu_56
                  subst hu_56r
                  have hP : va_P D vwCl (kcw cI cL cS b s1 w1 m1 n1 s2 w2 m2 n2 s3 w3 m3 n3 ik bt ln tk sb en nm bits size num (bump fnd (-1000000001))) H := hP
                  exact W.iret hx hb hr (fun t ht hW => ⟨⟨_, (num, bump fnd (-1000000001)), rfl, (by exact ((iF_t ⟨hs, htt⟩).trans ((iF_f (fun h => h.elim c_50b c_53b)).trans ((iF_t c_54).trans (iF_f (fun h => by first | exact absurd h.1 c_55b | exact absurd c_55b h.1 | exact absurd h.2 c_55b | exact absurd c_55b h.2))))).symm), by dsimp only; rw [ht]; exact hP⟩, hS.F ht⟩) hS.2.2 dX5_copy_109
                · skip
                  have c_55b := bI_n c_55
                  have hr1 := c_55b
                  refine lv_aload hx hb dX5_copy_91 (lv_at hl 0 rfl) ?_
                  refine lv_iload hx hb dX5_copy_93 (lv_at hl 6 rfl) ?_
                  refine lv_iload hx hb dX5_copy_95 (lv_at hl 7 rfl) ?_
                  refine callE (W.runV (As := [.int x3, .int x4]) (rest := []) ⟨hx, hb, hml, hown, hts⟩ (k_X2_hasRun l D cI cL cS (b 7 3) (b 8 3) (bits 3) (size 3) (num 3) x3 x4) (cwV 2 hts gX5_copy_X2_hasRun rfl rfl rfl (by decide +kernel) ⟨Nat.le_of_ble_eq_true rfl, Nat.le_of_ble_eq_true rfl⟩) ⟨PcR_fb, va_recv hK hP (ci := 0) (q0 := 46) rfl rfl, PcR_pre (va_seg hP 46 2 rfl) hK⟩ rfl rfl hl.1 rfl (lv_room (Nat.le_of_ble_eq_true rfl)) dX5_copy_97 ⟨Nat.zero_le _, Nat.zero_le _⟩) ?_
                  refine lv_if_ne (tgt := 110) hx hb dX5_copy_100 (by decide) (fun c_58 => ?_) (fun c_58 => ?_)
                  · skip
                    have c_58b := bI_n c_58
                    have hr2 := c_58b
                    refine lv_aload hx hb dX5_copy_110 (lv_at hl 1 rfl) ?_
                    refine va_get (ci := 0) (v := .ref (b 8 0)) (C := RX2) (T := TX2) (N := 3) hx hb hts inX2 hown hK hP 40 rfl rfl 2 (by decide) f198 (fun _ h9 => h9) rfl dX5_copy_112 ?_
                    refine lv_iload_n hx hb dX5_copy_115 rfl (lv_at hl 4 rfl) ?_
                    refine lv_aload hx hb dX5_copy_116 (lv_at hl 0 rfl) ?_
                    refine va_get (ci := 0) (v := .ref (b 8 3)) (C := RX2) (T := TX2) (N := 3) hx hb hts inX2 hown hK hP 46 rfl rfl 2 (by decide) f198 (fun _ h9 => h9) rfl dX5_copy_118 ?_
                    refine lv_iload hx hb dX5_copy_121 (lv_at hl 6 rfl) ?_
                    refine lv_iload hx hb dX5_copy_123 (lv_at hl 7 rfl) ?_
                    refine va_copyL hx hb (by rw [hml]; exact hl.1.symm) hown ml212 nAc sAc iSys hK hP (hD _ rfl) hS 41 47 1 1 rfl rfl rfl rfl hr1.1 hr2.1 hr1.2.1 (by have := run_in hz hr1; omega) (by have := run_in hy hr2; omega) (Nat.le_of_ble_eq_true rfl) (Nat.le_of_ble_eq_true rfl) dX5_copy_125 (fun H locs hP hS => ?_)
                    have hP : va_P D vwCl (kcw cI cL cS b s1 w1 m1 n1 s2 w2 m2 n2 s3 w3 m3 n3 ik bt ln tk sb en nm bits size (va_up num 3 (va_cpy (num 0) (num 3) (ix x1) (ix x3) (ix x4))) fnd) H := hP
                    refine lv_iload hx hb dX5_copy_128 (lv_at hl 7 rfl) ?_
                    exact W.iret hx hb hr (fun t ht hW => ⟨⟨_, ((va_up num 3 (va_cpy (num 0) (num 3) (ix x1) (ix x3) (ix x4))), fnd), rfl, (by exact ((iF_t ⟨hs, htt⟩).trans ((iF_f (fun h => h.elim c_50b c_53b)).trans ((iF_t c_54).trans (iF_t ⟨hr1, hr2⟩)))).symm), by dsimp only; rw [ht]; exact hP⟩, hS.F ht⟩) hS.2.2 dX5_copy_130
                  · skip
                    have c_58b := bI_0 c_58
                    refine lv_aload_n hx hb dX5_copy_103 rfl (lv_at hl 2 rfl) ?_
                    refine lv_ldc hx hb hown k52 dX5_copy_104 ?_
                    refine callMi (va_runV (As := [.int (-1000000001)]) (rest := []) ⟨hx, hb, hml, hown, hts⟩ (k_X5_found l D cI cL cS b s1 w1 m1 n1 s2 w2 m2 n2 s3 w3 m3 n3 ik bt ln tk sb en nm bits size num fnd (-1000000001) (va_DT (hD _ rfl) rfl) (vp_in_iff.mpr (by decide))) (cwV 1 hts gX5_copy_X5_found rfl rfl rfl (by decide +kernel) ⟨Nat.le_of_ble_eq_true rfl, Nat.le_of_ble_eq_true rfl⟩) ⟨PcR_fb, va_recv hK hP (ci := 3) (q0 := 0) rfl rfl, PcR_pre hP hK⟩ rfl rfl hl.1 rfl (lv_room (Nat.le_of_ble_eq_true rfl)) dX5_copy_106 ⟨Nat.zero_le _, Nat.zero_le _⟩) hP (hD _ rfl) hS 0 49 rfl (fun r_60 u_59 H locs hu_59 hP hS => ?_)
                    obtain ⟨hu_59r, -⟩ := hu_59
                    subst hu_59r
                    have hP : va_P D vwCl (kcw cI cL cS b s1 w1 m1 n1 s2 w2 m2 n2 s3 w3 m3 n3 ik bt ln tk sb en nm bits size num (bump fnd (-1000000001))) H := hP
                    exact W.iret hx hb hr (fun t ht hW => ⟨⟨_, (num, bump fnd (-1000000001)), rfl, (by exact ((iF_t ⟨hs, htt⟩).trans ((iF_f (fun h => h.elim c_50b c_53b)).trans ((iF_t c_54).trans (iF_f (fun h => by first | exact absurd h.1 c_58b | exact absurd c_58b h.1 | exact absurd h.2 c_58b | exact absurd c_58b h.2))))).symm), by dsimp only; rw [ht]; exact hP⟩, hS.F ht⟩) hS.2.2 dX5_copy_109
              · skip
                refine lv_aload_n hx hb dX5_copy_73 rfl (lv_at hl 2 rfl) ?_
                refine lv_ldc hx hb hown k144 dX5_copy_74 ?_
                refine callMi (va_runV (As := [.int (-1000000003)]) (rest := []) ⟨hx, hb, hml, hown, hts⟩ (k_X5_found l D cI cL cS b s1 w1 m1 n1 s2 w2 m2 n2 s3 w3 m3 n3 ik bt ln tk sb en nm bits size num fnd (-1000000003) (va_DT (hD _ rfl) rfl) (vp_in_iff.mpr (by decide))) (cwV 1 hts gX5_copy_X5_found rfl rfl rfl (by decide +kernel) ⟨Nat.le_of_ble_eq_true rfl, Nat.le_of_ble_eq_true rfl⟩) ⟨PcR_fb, va_recv hK hP (ci := 3) (q0 := 0) rfl rfl, PcR_pre hP hK⟩ rfl rfl hl.1 rfl (lv_room (Nat.le_of_ble_eq_true rfl)) dX5_copy_76 ⟨Nat.zero_le _, Nat.zero_le _⟩) hP (hD _ rfl) hS 0 49 rfl (fun r_62 u_61 H locs hu_61 hP hS => ?_)
                obtain ⟨hu_61r, -⟩ := hu_61
                subst hu_61r
                have hP : va_P D vwCl (kcw cI cL cS b s1 w1 m1 n1 s2 w2 m2 n2 s3 w3 m3 n3 ik bt ln tk sb en nm bits size num (bump fnd (-1000000003))) H := hP
                exact W.iret hx hb hr (fun t ht hW => ⟨⟨_, (num, bump fnd (-1000000003)), rfl, (by exact ((iF_t ⟨hs, htt⟩).trans ((iF_f (fun h => h.elim c_50b c_53b)).trans (iF_f c_54))).symm), by dsimp only; rw [ht]; exact hP⟩, hS.F ht⟩) hS.2.2 dX5_copy_79
            · skip
              have c_53b := bI_n c_53
              refine lv_aload_n hx hb dX5_copy_53 rfl (lv_at hl 2 rfl) ?_
              refine lv_ldc hx hb hown k196 dX5_copy_54 ?_
              refine callMi (va_runV (As := [.int (-1000000006)]) (rest := []) ⟨hx, hb, hml, hown, hts⟩ (k_X5_found l D cI cL cS b s1 w1 m1 n1 s2 w2 m2 n2 s3 w3 m3 n3 ik bt ln tk sb en nm bits size num fnd (-1000000006) (va_DT (hD _ rfl) rfl) (vp_in_iff.mpr (by decide))) (cwV 1 hts gX5_copy_X5_found rfl rfl rfl (by decide +kernel) ⟨Nat.le_of_ble_eq_true rfl, Nat.le_of_ble_eq_true rfl⟩) ⟨PcR_fb, va_recv hK hP (ci := 3) (q0 := 0) rfl rfl, PcR_pre hP hK⟩ rfl rfl hl.1 rfl (lv_room (Nat.le_of_ble_eq_true rfl)) dX5_copy_56 ⟨Nat.zero_le _, Nat.zero_le _⟩) hP (hD _ rfl) hS 0 49 rfl (fun r_64 u_63 H locs hu_63 hP hS => ?_)
              obtain ⟨hu_63r, -⟩ := hu_63
              subst hu_63r
              have hP : va_P D vwCl (kcw cI cL cS b s1 w1 m1 n1 s2 w2 m2 n2 s3 w3 m3 n3 ik bt ln tk sb en nm bits size num (bump fnd (-1000000006))) H := hP
              exact W.iret hx hb hr (fun t ht hW => ⟨⟨_, (num, bump fnd (-1000000006)), rfl, (by exact ((iF_t ⟨hs, htt⟩).trans (iF_t (Or.inr c_53b))).symm), by dsimp only; rw [ht]; exact hP⟩, hS.F ht⟩) hS.2.2 dX5_copy_59
      · skip
        rcases in4 htt with rfl | rfl | rfl | rfl
        · skip
          have hz := (oh 1 (by decide)).1
          have hy := (oh 0 (by decide)).1
          refine lv_aload_n hx hb dX5_copy_21 rfl (lv_at hl 0 rfl) ?_
          refine va_get (ci := 3) (v := .ref (b 6 0)) (C := RX5) (T := TX5) (N := 7) hx hb hts inX5 hown hK hP 0 rfl rfl 5 (by decide) f35 (fun _ h9 => h9) rfl dX5_copy_22 ?_
          refine lv_iload_n hx hb dX5_copy_25 rfl (lv_at hl 1 rfl) ?_
          refine va_aldq (f := fun s => some (b 7 s)) hx hb hK hP 39 2 rfl rfl (vp_in_iff.mpr (by decide)) dX5_copy_26 ?_
          refine W.eq (g2 := F0 m 27 ls [.ref (b 7 1)]) rfl ?_
          refine lv_astore (lv' := [(6, .ref (b 7 1)), (0, .ref (b 0 0)), (1, .int 1), (2, .int x1), (3, .int 0), (4, .int x3), (5, .int x4)]) hx hb dX5_copy_27 hl (by decide) rfl (fun ls hl => ?_)
          refine lv_aload_n hx hb dX5_copy_29 rfl (lv_at hl 1 rfl) ?_
          refine va_get (ci := 3) (v := .ref (b 6 0)) (C := RX5) (T := TX5) (N := 7) hx hb hts inX5 hown hK hP 0 rfl rfl 5 (by decide) f35 (fun _ h9 => h9) rfl dX5_copy_30 ?_
          refine lv_iload_n hx hb dX5_copy_33 rfl (lv_at hl 4 rfl) ?_
          refine va_aldq (f := fun s => some (b 7 s)) hx hb hK hP 39 2 rfl rfl (vp_in_iff.mpr (by decide)) dX5_copy_34 ?_
          refine W.eq (g2 := F0 m 35 ls [.ref (b 7 0)]) rfl ?_
          refine lv_astore (lv' := [(7, .ref (b 7 0)), (6, .ref (b 7 1)), (0, .ref (b 0 0)), (1, .int 1), (2, .int x1), (3, .int 0), (4, .int x3), (5, .int x4)]) hx hb dX5_copy_35 hl (by decide) rfl (fun ls hl => ?_)
          refine lv_aload hx hb dX5_copy_37 (lv_at hl 1 rfl) ?_
          refine callE (W.runV (As := []) (rest := []) ⟨hx, hb, hml, hown, hts⟩ (k_X2_isMissing l D cI cL cS (b 7 1) (b 8 1) (bits 1) (size 1) (num 1)) (cwV 0 hts gX5_copy_X2_isMissing rfl rfl rfl (by decide +kernel) ⟨Nat.le_of_ble_eq_true rfl, Nat.le_of_ble_eq_true rfl⟩) ⟨PcR_fb, va_recv hK hP (ci := 0) (q0 := 42) rfl rfl, PcR_pre (va_seg hP 42 2 rfl) hK⟩ rfl rfl hl.1 rfl (lv_room (Nat.le_of_ble_eq_true rfl)) dX5_copy_39 ⟨Nat.zero_le _, Nat.zero_le _⟩) ?_
          refine lv_if_ne (tgt := 53) hx hb dX5_copy_42 (by decide) (fun c_65 => ?_) (fun c_65 => ?_)
          · skip
            have c_65b := bI_n c_65
            refine lv_aload_n hx hb dX5_copy_53 rfl (lv_at hl 2 rfl) ?_
            refine lv_ldc hx hb hown k196 dX5_copy_54 ?_
            refine callMi (va_runV (As := [.int (-1000000006)]) (rest := []) ⟨hx, hb, hml, hown, hts⟩ (k_X5_found l D cI cL cS b s1 w1 m1 n1 s2 w2 m2 n2 s3 w3 m3 n3 ik bt ln tk sb en nm bits size num fnd (-1000000006) (va_DT (hD _ rfl) rfl) (vp_in_iff.mpr (by decide))) (cwV 1 hts gX5_copy_X5_found rfl rfl rfl (by decide +kernel) ⟨Nat.le_of_ble_eq_true rfl, Nat.le_of_ble_eq_true rfl⟩) ⟨PcR_fb, va_recv hK hP (ci := 3) (q0 := 0) rfl rfl, PcR_pre hP hK⟩ rfl rfl hl.1 rfl (lv_room (Nat.le_of_ble_eq_true rfl)) dX5_copy_56 ⟨Nat.zero_le _, Nat.zero_le _⟩) hP (hD _ rfl) hS 0 49 rfl (fun r_67 u_66 H locs hu_66 hP hS => ?_)
            obtain ⟨hu_66r, -⟩ := hu_66
            subst hu_66r
            have hP : va_P D vwCl (kcw cI cL cS b s1 w1 m1 n1 s2 w2 m2 n2 s3 w3 m3 n3 ik bt ln tk sb en nm bits size num (bump fnd (-1000000006))) H := hP
            exact W.iret hx hb hr (fun t ht hW => ⟨⟨_, (num, bump fnd (-1000000006)), rfl, (by exact ((iF_t ⟨hs, htt⟩).trans (iF_t (Or.inl c_65b))).symm), by dsimp only; rw [ht]; exact hP⟩, hS.F ht⟩) hS.2.2 dX5_copy_59
          · skip
            have c_65b := bI_0 c_65
            refine lv_aload hx hb dX5_copy_45 (lv_at hl 0 rfl) ?_
            refine callE (W.runV (As := []) (rest := []) ⟨hx, hb, hml, hown, hts⟩ (k_X2_isMissing l D cI cL cS (b 7 0) (b 8 0) (bits 0) (size 0) (num 0)) (cwV 0 hts gX5_copy_X2_isMissing rfl rfl rfl (by decide +kernel) ⟨Nat.le_of_ble_eq_true rfl, Nat.le_of_ble_eq_true rfl⟩) ⟨PcR_fb, va_recv hK hP (ci := 0) (q0 := 40) rfl rfl, PcR_pre (va_seg hP 40 2 rfl) hK⟩ rfl rfl hl.1 rfl (lv_room (Nat.le_of_ble_eq_true rfl)) dX5_copy_47 ⟨Nat.zero_le _, Nat.zero_le _⟩) ?_
            refine lv_if_eq (tgt := 60) hx hb dX5_copy_50 (by decide) (fun c_68 => ?_) (fun c_68 => ?_)
            · skip
              have c_68b := bI_0 c_68
              refine lv_aload hx hb dX5_copy_60 (lv_at hl 1 rfl) ?_
              refine va_get (ci := 0) (v := .int (bits 1)) (C := RX2) (T := TX2) (N := 3) hx hb hts inX2 hown hK hP 42 rfl rfl 0 (by decide) f206 (fun _ h9 => h9) rfl dX5_copy_62 ?_
              refine lv_aload hx hb dX5_copy_65 (lv_at hl 0 rfl) ?_
              refine va_get (ci := 0) (v := .int (bits 0)) (C := RX2) (T := TX2) (N := 3) hx hb hts inX2 hown hK hP 40 rfl rfl 0 (by decide) f206 (fun _ h9 => h9) rfl dX5_copy_67 ?_
              refine lv_icmp_eq (tgt := 80) hx hb dX5_copy_70 (by decide) (fun c_69 => ?_) (fun c_69 => ?_)
              · skip
                refine lv_aload hx hb dX5_copy_80 (lv_at hl 1 rfl) ?_
                refine lv_iload_n hx hb dX5_copy_82 rfl (lv_at hl 4 rfl) ?_
                refine lv_iload hx hb dX5_copy_83 (lv_at hl 7 rfl) ?_
                refine callE (W.runV (As := [.int x1, .int x4]) (rest := []) ⟨hx, hb, hml, hown, hts⟩ (k_X2_hasRun l D cI cL cS (b 7 1) (b 8 1) (bits 1) (size 1) (num 1) x1 x4) (cwV 2 hts gX5_copy_X2_hasRun rfl rfl rfl (by decide +kernel) ⟨Nat.le_of_ble_eq_true rfl, Nat.le_of_ble_eq_true rfl⟩) ⟨PcR_fb, va_recv hK hP (ci := 0) (q0 := 42) rfl rfl, PcR_pre (va_seg hP 42 2 rfl) hK⟩ rfl rfl hl.1 rfl (lv_room (Nat.le_of_ble_eq_true rfl)) dX5_copy_85 ⟨Nat.zero_le _, Nat.zero_le _⟩) ?_
                refine lv_if_eq (tgt := 103) hx hb dX5_copy_88 (by decide) (fun c_70 => ?_) (fun c_70 => ?_)
                · skip
                  have c_70b := bI_0 c_70
                  refine lv_aload_n hx hb dX5_copy_103 rfl (lv_at hl 2 rfl) ?_
                  refine lv_ldc hx hb hown k52 dX5_copy_104 ?_
                  refine callMi (va_runV (As := [.int (-1000000001)]) (rest := []) ⟨hx, hb, hml, hown, hts⟩ (k_X5_found l D cI cL cS b s1 w1 m1 n1 s2 w2 m2 n2 s3 w3 m3 n3 ik bt ln tk sb en nm bits size num fnd (-1000000001) (va_DT (hD _ rfl) rfl) (vp_in_iff.mpr (by decide))) (cwV 1 hts gX5_copy_X5_found rfl rfl rfl (by decide +kernel) ⟨Nat.le_of_ble_eq_true rfl, Nat.le_of_ble_eq_true rfl⟩) ⟨PcR_fb, va_recv hK hP (ci := 3) (q0 := 0) rfl rfl, PcR_pre hP hK⟩ rfl rfl hl.1 rfl (lv_room (Nat.le_of_ble_eq_true rfl)) dX5_copy_106 ⟨Nat.zero_le _, Nat.zero_le _⟩) hP (hD _ rfl) hS 0 49 rfl (fun r_72 u_71 H locs hu_71 hP hS => ?_)
                  obtain ⟨hu_71r, -⟩ := hu_71
                  subst hu_71r
                  have hP : va_P D vwCl (kcw cI cL cS b s1 w1 m1 n1 s2 w2 m2 n2 s3 w3 m3 n3 ik bt ln tk sb en nm bits size num (bump fnd (-1000000001))) H := hP
                  exact W.iret hx hb hr (fun t ht hW => ⟨⟨_, (num, bump fnd (-1000000001)), rfl, (by exact ((iF_t ⟨hs, htt⟩).trans ((iF_f (fun h => h.elim c_65b c_68b)).trans ((iF_t c_69).trans (iF_f (fun h => by first | exact absurd h.1 c_70b | exact absurd c_70b h.1 | exact absurd h.2 c_70b | exact absurd c_70b h.2))))).symm), by dsimp only; rw [ht]; exact hP⟩, hS.F ht⟩) hS.2.2 dX5_copy_109
                · skip
                  have c_70b := bI_n c_70
                  have hr1 := c_70b
                  refine lv_aload hx hb dX5_copy_91 (lv_at hl 0 rfl) ?_
                  refine lv_iload hx hb dX5_copy_93 (lv_at hl 6 rfl) ?_
                  refine lv_iload hx hb dX5_copy_95 (lv_at hl 7 rfl) ?_
                  refine callE (W.runV (As := [.int x3, .int x4]) (rest := []) ⟨hx, hb, hml, hown, hts⟩ (k_X2_hasRun l D cI cL cS (b 7 0) (b 8 0) (bits 0) (size 0) (num 0) x3 x4) (cwV 2 hts gX5_copy_X2_hasRun rfl rfl rfl (by decide +kernel) ⟨Nat.le_of_ble_eq_true rfl, Nat.le_of_ble_eq_true rfl⟩) ⟨PcR_fb, va_recv hK hP (ci := 0) (q0 := 40) rfl rfl, PcR_pre (va_seg hP 40 2 rfl) hK⟩ rfl rfl hl.1 rfl (lv_room (Nat.le_of_ble_eq_true rfl)) dX5_copy_97 ⟨Nat.zero_le _, Nat.zero_le _⟩) ?_
                  refine lv_if_ne (tgt := 110) hx hb dX5_copy_100 (by decide) (fun c_73 => ?_) (fun c_73 => ?_)
                  · skip
                    have c_73b := bI_n c_73
                    have hr2 := c_73b
                    refine lv_aload hx hb dX5_copy_110 (lv_at hl 1 rfl) ?_
                    refine va_get (ci := 0) (v := .ref (b 8 1)) (C := RX2) (T := TX2) (N := 3) hx hb hts inX2 hown hK hP 42 rfl rfl 2 (by decide) f198 (fun _ h9 => h9) rfl dX5_copy_112 ?_
                    refine lv_iload_n hx hb dX5_copy_115 rfl (lv_at hl 4 rfl) ?_
                    refine lv_aload hx hb dX5_copy_116 (lv_at hl 0 rfl) ?_
                    refine va_get (ci := 0) (v := .ref (b 8 0)) (C := RX2) (T := TX2) (N := 3) hx hb hts inX2 hown hK hP 40 rfl rfl 2 (by decide) f198 (fun _ h9 => h9) rfl dX5_copy_118 ?_
                    refine lv_iload hx hb dX5_copy_121 (lv_at hl 6 rfl) ?_
                    refine lv_iload hx hb dX5_copy_123 (lv_at hl 7 rfl) ?_
                    refine va_copyL hx hb (by rw [hml]; exact hl.1.symm) hown ml212 nAc sAc iSys hK hP (hD _ rfl) hS 43 41 1 1 rfl rfl rfl rfl hr1.1 hr2.1 hr1.2.1 (by have := run_in hz hr1; omega) (by have := run_in hy hr2; omega) (Nat.le_of_ble_eq_true rfl) (Nat.le_of_ble_eq_true rfl) dX5_copy_125 (fun H locs hP hS => ?_)
                    have hP : va_P D vwCl (kcw cI cL cS b s1 w1 m1 n1 s2 w2 m2 n2 s3 w3 m3 n3 ik bt ln tk sb en nm bits size (va_up num 0 (va_cpy (num 1) (num 0) (ix x1) (ix x3) (ix x4))) fnd) H := hP
                    refine lv_iload hx hb dX5_copy_128 (lv_at hl 7 rfl) ?_
                    exact W.iret hx hb hr (fun t ht hW => ⟨⟨_, ((va_up num 0 (va_cpy (num 1) (num 0) (ix x1) (ix x3) (ix x4))), fnd), rfl, (by exact ((iF_t ⟨hs, htt⟩).trans ((iF_f (fun h => h.elim c_65b c_68b)).trans ((iF_t c_69).trans (iF_t ⟨hr1, hr2⟩)))).symm), by dsimp only; rw [ht]; exact hP⟩, hS.F ht⟩) hS.2.2 dX5_copy_130
                  · skip
                    have c_73b := bI_0 c_73
                    refine lv_aload_n hx hb dX5_copy_103 rfl (lv_at hl 2 rfl) ?_
                    refine lv_ldc hx hb hown k52 dX5_copy_104 ?_
                    refine callMi (va_runV (As := [.int (-1000000001)]) (rest := []) ⟨hx, hb, hml, hown, hts⟩ (k_X5_found l D cI cL cS b s1 w1 m1 n1 s2 w2 m2 n2 s3 w3 m3 n3 ik bt ln tk sb en nm bits size num fnd (-1000000001) (va_DT (hD _ rfl) rfl) (vp_in_iff.mpr (by decide))) (cwV 1 hts gX5_copy_X5_found rfl rfl rfl (by decide +kernel) ⟨Nat.le_of_ble_eq_true rfl, Nat.le_of_ble_eq_true rfl⟩) ⟨PcR_fb, va_recv hK hP (ci := 3) (q0 := 0) rfl rfl, PcR_pre hP hK⟩ rfl rfl hl.1 rfl (lv_room (Nat.le_of_ble_eq_true rfl)) dX5_copy_106 ⟨Nat.zero_le _, Nat.zero_le _⟩) hP (hD _ rfl) hS 0 49 rfl (fun r_75 u_74 H locs hu_74 hP hS => ?_)
                    obtain ⟨hu_74r, -⟩ := hu_74
                    subst hu_74r
                    have hP : va_P D vwCl (kcw cI cL cS b s1 w1 m1 n1 s2 w2 m2 n2 s3 w3 m3 n3 ik bt ln tk sb en nm bits size num (bump fnd (-1000000001))) H := hP
                    exact W.iret hx hb hr (fun t ht hW => ⟨⟨_, (num, bump fnd (-1000000001)), rfl, (by exact ((iF_t ⟨hs, htt⟩).trans ((iF_f (fun h => h.elim c_65b c_68b)).trans ((iF_t c_69).trans (iF_f (fun h => by first | exact absurd h.1 c_73b | exact absurd c_73b h.1 | exact absurd h.2 c_73b | exact absurd c_73b h.2))))).symm), by dsimp only; rw [ht]; exact hP⟩, hS.F ht⟩) hS.2.2 dX5_copy_109
              · skip
                refine lv_aload_n hx hb dX5_copy_73 rfl (lv_at hl 2 rfl) ?_
                refine lv_ldc hx hb hown k144 dX5_copy_74 ?_
                refine callMi (va_runV (As := [.int (-1000000003)]) (rest := []) ⟨hx, hb, hml, hown, hts⟩ (k_X5_found l D cI cL cS b s1 w1 m1 n1 s2 w2 m2 n2 s3 w3 m3 n3 ik bt ln tk sb en nm bits size num fnd (-1000000003) (va_DT (hD _ rfl) rfl) (vp_in_iff.mpr (by decide))) (cwV 1 hts gX5_copy_X5_found rfl rfl rfl (by decide +kernel) ⟨Nat.le_of_ble_eq_true rfl, Nat.le_of_ble_eq_true rfl⟩) ⟨PcR_fb, va_recv hK hP (ci := 3) (q0 := 0) rfl rfl, PcR_pre hP hK⟩ rfl rfl hl.1 rfl (lv_room (Nat.le_of_ble_eq_true rfl)) dX5_copy_76 ⟨Nat.zero_le _, Nat.zero_le _⟩) hP (hD _ rfl) hS 0 49 rfl (fun r_77 u_76 H locs hu_76 hP hS => ?_)
                obtain ⟨hu_76r, -⟩ := hu_76
                subst hu_76r
                have hP : va_P D vwCl (kcw cI cL cS b s1 w1 m1 n1 s2 w2 m2 n2 s3 w3 m3 n3 ik bt ln tk sb en nm bits size num (bump fnd (-1000000003))) H := hP
                exact W.iret hx hb hr (fun t ht hW => ⟨⟨_, (num, bump fnd (-1000000003)), rfl, (by exact ((iF_t ⟨hs, htt⟩).trans ((iF_f (fun h => h.elim c_65b c_68b)).trans (iF_f c_69))).symm), by dsimp only; rw [ht]; exact hP⟩, hS.F ht⟩) hS.2.2 dX5_copy_79
            · skip
              have c_68b := bI_n c_68
              refine lv_aload_n hx hb dX5_copy_53 rfl (lv_at hl 2 rfl) ?_
              refine lv_ldc hx hb hown k196 dX5_copy_54 ?_
              refine callMi (va_runV (As := [.int (-1000000006)]) (rest := []) ⟨hx, hb, hml, hown, hts⟩ (k_X5_found l D cI cL cS b s1 w1 m1 n1 s2 w2 m2 n2 s3 w3 m3 n3 ik bt ln tk sb en nm bits size num fnd (-1000000006) (va_DT (hD _ rfl) rfl) (vp_in_iff.mpr (by decide))) (cwV 1 hts gX5_copy_X5_found rfl rfl rfl (by decide +kernel) ⟨Nat.le_of_ble_eq_true rfl, Nat.le_of_ble_eq_true rfl⟩) ⟨PcR_fb, va_recv hK hP (ci := 3) (q0 := 0) rfl rfl, PcR_pre hP hK⟩ rfl rfl hl.1 rfl (lv_room (Nat.le_of_ble_eq_true rfl)) dX5_copy_56 ⟨Nat.zero_le _, Nat.zero_le _⟩) hP (hD _ rfl) hS 0 49 rfl (fun r_79 u_78 H locs hu_78 hP hS => ?_)
              obtain ⟨hu_78r, -⟩ := hu_78
              subst hu_78r
              have hP : va_P D vwCl (kcw cI cL cS b s1 w1 m1 n1 s2 w2 m2 n2 s3 w3 m3 n3 ik bt ln tk sb en nm bits size num (bump fnd (-1000000006))) H := hP
              exact W.iret hx hb hr (fun t ht hW => ⟨⟨_, (num, bump fnd (-1000000006)), rfl, (by exact ((iF_t ⟨hs, htt⟩).trans (iF_t (Or.inr c_68b))).symm), by dsimp only; rw [ht]; exact hP⟩, hS.F ht⟩) hS.2.2 dX5_copy_59
        · skip
          have hz := (oh 1 (by decide)).1
          have hy := (oh 1 (by decide)).1
          refine lv_aload_n hx hb dX5_copy_21 rfl (lv_at hl 0 rfl) ?_
          refine va_get (ci := 3) (v := .ref (b 6 0)) (C := RX5) (T := TX5) (N := 7) hx hb hts inX5 hown hK hP 0 rfl rfl 5 (by decide) f35 (fun _ h9 => h9) rfl dX5_copy_22 ?_
          refine lv_iload_n hx hb dX5_copy_25 rfl (lv_at hl 1 rfl) ?_
          refine va_aldq (f := fun s => some (b 7 s)) hx hb hK hP 39 2 rfl rfl (vp_in_iff.mpr (by decide)) dX5_copy_26 ?_
          refine W.eq (g2 := F0 m 27 ls [.ref (b 7 1)]) rfl ?_
          refine lv_astore (lv' := [(6, .ref (b 7 1)), (0, .ref (b 0 0)), (1, .int 1), (2, .int x1), (3, .int 1), (4, .int x3), (5, .int x4)]) hx hb dX5_copy_27 hl (by decide) rfl (fun ls hl => ?_)
          refine lv_aload_n hx hb dX5_copy_29 rfl (lv_at hl 1 rfl) ?_
          refine va_get (ci := 3) (v := .ref (b 6 0)) (C := RX5) (T := TX5) (N := 7) hx hb hts inX5 hown hK hP 0 rfl rfl 5 (by decide) f35 (fun _ h9 => h9) rfl dX5_copy_30 ?_
          refine lv_iload_n hx hb dX5_copy_33 rfl (lv_at hl 4 rfl) ?_
          refine va_aldq (f := fun s => some (b 7 s)) hx hb hK hP 39 2 rfl rfl (vp_in_iff.mpr (by decide)) dX5_copy_34 ?_
          refine W.eq (g2 := F0 m 35 ls [.ref (b 7 1)]) rfl ?_
          refine lv_astore (lv' := [(7, .ref (b 7 1)), (6, .ref (b 7 1)), (0, .ref (b 0 0)), (1, .int 1), (2, .int x1), (3, .int 1), (4, .int x3), (5, .int x4)]) hx hb dX5_copy_35 hl (by decide) rfl (fun ls hl => ?_)
          refine lv_aload hx hb dX5_copy_37 (lv_at hl 1 rfl) ?_
          refine callE (W.runV (As := []) (rest := []) ⟨hx, hb, hml, hown, hts⟩ (k_X2_isMissing l D cI cL cS (b 7 1) (b 8 1) (bits 1) (size 1) (num 1)) (cwV 0 hts gX5_copy_X2_isMissing rfl rfl rfl (by decide +kernel) ⟨Nat.le_of_ble_eq_true rfl, Nat.le_of_ble_eq_true rfl⟩) ⟨PcR_fb, va_recv hK hP (ci := 0) (q0 := 42) rfl rfl, PcR_pre (va_seg hP 42 2 rfl) hK⟩ rfl rfl hl.1 rfl (lv_room (Nat.le_of_ble_eq_true rfl)) dX5_copy_39 ⟨Nat.zero_le _, Nat.zero_le _⟩) ?_
          refine lv_if_ne (tgt := 53) hx hb dX5_copy_42 (by decide) (fun c_80 => ?_) (fun c_80 => ?_)
          · skip
            have c_80b := bI_n c_80
            refine lv_aload_n hx hb dX5_copy_53 rfl (lv_at hl 2 rfl) ?_
            refine lv_ldc hx hb hown k196 dX5_copy_54 ?_
            refine callMi (va_runV (As := [.int (-1000000006)]) (rest := []) ⟨hx, hb, hml, hown, hts⟩ (k_X5_found l D cI cL cS b s1 w1 m1 n1 s2 w2 m2 n2 s3 w3 m3 n3 ik bt ln tk sb en nm bits size num fnd (-1000000006) (va_DT (hD _ rfl) rfl) (vp_in_iff.mpr (by decide))) (cwV 1 hts gX5_copy_X5_found rfl rfl rfl (by decide +kernel) ⟨Nat.le_of_ble_eq_true rfl, Nat.le_of_ble_eq_true rfl⟩) ⟨PcR_fb, va_recv hK hP (ci := 3) (q0 := 0) rfl rfl, PcR_pre hP hK⟩ rfl rfl hl.1 rfl (lv_room (Nat.le_of_ble_eq_true rfl)) dX5_copy_56 ⟨Nat.zero_le _, Nat.zero_le _⟩) hP (hD _ rfl) hS 0 49 rfl (fun r_82 u_81 H locs hu_81 hP hS => ?_)
            obtain ⟨hu_81r, -⟩ := hu_81
            subst hu_81r
            have hP : va_P D vwCl (kcw cI cL cS b s1 w1 m1 n1 s2 w2 m2 n2 s3 w3 m3 n3 ik bt ln tk sb en nm bits size num (bump fnd (-1000000006))) H := hP
            exact W.iret hx hb hr (fun t ht hW => ⟨⟨_, (num, bump fnd (-1000000006)), rfl, (by exact ((iF_t ⟨hs, htt⟩).trans (iF_t (Or.inl c_80b))).symm), by dsimp only; rw [ht]; exact hP⟩, hS.F ht⟩) hS.2.2 dX5_copy_59
          · skip
            have c_80b := bI_0 c_80
            refine lv_aload hx hb dX5_copy_45 (lv_at hl 0 rfl) ?_
            refine callE (W.runV (As := []) (rest := []) ⟨hx, hb, hml, hown, hts⟩ (k_X2_isMissing l D cI cL cS (b 7 1) (b 8 1) (bits 1) (size 1) (num 1)) (cwV 0 hts gX5_copy_X2_isMissing rfl rfl rfl (by decide +kernel) ⟨Nat.le_of_ble_eq_true rfl, Nat.le_of_ble_eq_true rfl⟩) ⟨PcR_fb, va_recv hK hP (ci := 0) (q0 := 42) rfl rfl, PcR_pre (va_seg hP 42 2 rfl) hK⟩ rfl rfl hl.1 rfl (lv_room (Nat.le_of_ble_eq_true rfl)) dX5_copy_47 ⟨Nat.zero_le _, Nat.zero_le _⟩) ?_
            refine lv_if_eq (tgt := 60) hx hb dX5_copy_50 (by decide) (fun c_83 => ?_) (fun c_83 => ?_)
            · skip
              have c_83b := bI_0 c_83
              refine lv_aload hx hb dX5_copy_60 (lv_at hl 1 rfl) ?_
              refine va_get (ci := 0) (v := .int (bits 1)) (C := RX2) (T := TX2) (N := 3) hx hb hts inX2 hown hK hP 42 rfl rfl 0 (by decide) f206 (fun _ h9 => h9) rfl dX5_copy_62 ?_
              refine lv_aload hx hb dX5_copy_65 (lv_at hl 0 rfl) ?_
              refine va_get (ci := 0) (v := .int (bits 1)) (C := RX2) (T := TX2) (N := 3) hx hb hts inX2 hown hK hP 42 rfl rfl 0 (by decide) f206 (fun _ h9 => h9) rfl dX5_copy_67 ?_
              refine lv_icmp_eq (tgt := 80) hx hb dX5_copy_70 (by decide) (fun c_84 => ?_) (fun c_84 => ?_)
              · skip
                refine lv_aload hx hb dX5_copy_80 (lv_at hl 1 rfl) ?_
                refine lv_iload_n hx hb dX5_copy_82 rfl (lv_at hl 4 rfl) ?_
                refine lv_iload hx hb dX5_copy_83 (lv_at hl 7 rfl) ?_
                refine callE (W.runV (As := [.int x1, .int x4]) (rest := []) ⟨hx, hb, hml, hown, hts⟩ (k_X2_hasRun l D cI cL cS (b 7 1) (b 8 1) (bits 1) (size 1) (num 1) x1 x4) (cwV 2 hts gX5_copy_X2_hasRun rfl rfl rfl (by decide +kernel) ⟨Nat.le_of_ble_eq_true rfl, Nat.le_of_ble_eq_true rfl⟩) ⟨PcR_fb, va_recv hK hP (ci := 0) (q0 := 42) rfl rfl, PcR_pre (va_seg hP 42 2 rfl) hK⟩ rfl rfl hl.1 rfl (lv_room (Nat.le_of_ble_eq_true rfl)) dX5_copy_85 ⟨Nat.zero_le _, Nat.zero_le _⟩) ?_
                refine lv_if_eq (tgt := 103) hx hb dX5_copy_88 (by decide) (fun c_85 => ?_) (fun c_85 => ?_)
                · skip
                  have c_85b := bI_0 c_85
                  refine lv_aload_n hx hb dX5_copy_103 rfl (lv_at hl 2 rfl) ?_
                  refine lv_ldc hx hb hown k52 dX5_copy_104 ?_
                  refine callMi (va_runV (As := [.int (-1000000001)]) (rest := []) ⟨hx, hb, hml, hown, hts⟩ (k_X5_found l D cI cL cS b s1 w1 m1 n1 s2 w2 m2 n2 s3 w3 m3 n3 ik bt ln tk sb en nm bits size num fnd (-1000000001) (va_DT (hD _ rfl) rfl) (vp_in_iff.mpr (by decide))) (cwV 1 hts gX5_copy_X5_found rfl rfl rfl (by decide +kernel) ⟨Nat.le_of_ble_eq_true rfl, Nat.le_of_ble_eq_true rfl⟩) ⟨PcR_fb, va_recv hK hP (ci := 3) (q0 := 0) rfl rfl, PcR_pre hP hK⟩ rfl rfl hl.1 rfl (lv_room (Nat.le_of_ble_eq_true rfl)) dX5_copy_106 ⟨Nat.zero_le _, Nat.zero_le _⟩) hP (hD _ rfl) hS 0 49 rfl (fun r_87 u_86 H locs hu_86 hP hS => ?_)
                  obtain ⟨hu_86r, -⟩ := hu_86
                  subst hu_86r
                  have hP : va_P D vwCl (kcw cI cL cS b s1 w1 m1 n1 s2 w2 m2 n2 s3 w3 m3 n3 ik bt ln tk sb en nm bits size num (bump fnd (-1000000001))) H := hP
                  exact W.iret hx hb hr (fun t ht hW => ⟨⟨_, (num, bump fnd (-1000000001)), rfl, (by exact ((iF_t ⟨hs, htt⟩).trans ((iF_f (fun h => h.elim c_80b c_83b)).trans ((iF_t c_84).trans (iF_f (fun h => by first | exact absurd h.1 c_85b | exact absurd c_85b h.1 | exact absurd h.2 c_85b | exact absurd c_85b h.2))))).symm), by dsimp only; rw [ht]; exact hP⟩, hS.F ht⟩) hS.2.2 dX5_copy_109
                · skip
                  have c_85b := bI_n c_85
                  have hr1 := c_85b
                  refine lv_aload hx hb dX5_copy_91 (lv_at hl 0 rfl) ?_
                  refine lv_iload hx hb dX5_copy_93 (lv_at hl 6 rfl) ?_
                  refine lv_iload hx hb dX5_copy_95 (lv_at hl 7 rfl) ?_
                  refine callE (W.runV (As := [.int x3, .int x4]) (rest := []) ⟨hx, hb, hml, hown, hts⟩ (k_X2_hasRun l D cI cL cS (b 7 1) (b 8 1) (bits 1) (size 1) (num 1) x3 x4) (cwV 2 hts gX5_copy_X2_hasRun rfl rfl rfl (by decide +kernel) ⟨Nat.le_of_ble_eq_true rfl, Nat.le_of_ble_eq_true rfl⟩) ⟨PcR_fb, va_recv hK hP (ci := 0) (q0 := 42) rfl rfl, PcR_pre (va_seg hP 42 2 rfl) hK⟩ rfl rfl hl.1 rfl (lv_room (Nat.le_of_ble_eq_true rfl)) dX5_copy_97 ⟨Nat.zero_le _, Nat.zero_le _⟩) ?_
                  refine lv_if_ne (tgt := 110) hx hb dX5_copy_100 (by decide) (fun c_88 => ?_) (fun c_88 => ?_)
                  · skip
                    have c_88b := bI_n c_88
                    have hr2 := c_88b
                    refine lv_aload hx hb dX5_copy_110 (lv_at hl 1 rfl) ?_
                    refine va_get (ci := 0) (v := .ref (b 8 1)) (C := RX2) (T := TX2) (N := 3) hx hb hts inX2 hown hK hP 42 rfl rfl 2 (by decide) f198 (fun _ h9 => h9) rfl dX5_copy_112 ?_
                    refine lv_iload_n hx hb dX5_copy_115 rfl (lv_at hl 4 rfl) ?_
                    refine lv_aload hx hb dX5_copy_116 (lv_at hl 0 rfl) ?_
                    refine va_get (ci := 0) (v := .ref (b 8 1)) (C := RX2) (T := TX2) (N := 3) hx hb hts inX2 hown hK hP 42 rfl rfl 2 (by decide) f198 (fun _ h9 => h9) rfl dX5_copy_118 ?_
                    refine lv_iload hx hb dX5_copy_121 (lv_at hl 6 rfl) ?_
                    refine lv_iload hx hb dX5_copy_123 (lv_at hl 7 rfl) ?_
                    refine va_copyL hx hb (by rw [hml]; exact hl.1.symm) hown ml212 nAc sAc iSys hK hP (hD _ rfl) hS 43 43 1 1 rfl rfl rfl rfl hr1.1 hr2.1 hr1.2.1 (by have := run_in hz hr1; omega) (by have := run_in hy hr2; omega) (Nat.le_of_ble_eq_true rfl) (Nat.le_of_ble_eq_true rfl) dX5_copy_125 (fun H locs hP hS => ?_)
                    have hP : va_P D vwCl (kcw cI cL cS b s1 w1 m1 n1 s2 w2 m2 n2 s3 w3 m3 n3 ik bt ln tk sb en nm bits size (va_up num 1 (va_cpy (num 1) (num 1) (ix x1) (ix x3) (ix x4))) fnd) H := hP
                    refine lv_iload hx hb dX5_copy_128 (lv_at hl 7 rfl) ?_
                    exact W.iret hx hb hr (fun t ht hW => ⟨⟨_, ((va_up num 1 (va_cpy (num 1) (num 1) (ix x1) (ix x3) (ix x4))), fnd), rfl, (by exact ((iF_t ⟨hs, htt⟩).trans ((iF_f (fun h => h.elim c_80b c_83b)).trans ((iF_t c_84).trans (iF_t ⟨hr1, hr2⟩)))).symm), by dsimp only; rw [ht]; exact hP⟩, hS.F ht⟩) hS.2.2 dX5_copy_130
                  · skip
                    have c_88b := bI_0 c_88
                    refine lv_aload_n hx hb dX5_copy_103 rfl (lv_at hl 2 rfl) ?_
                    refine lv_ldc hx hb hown k52 dX5_copy_104 ?_
                    refine callMi (va_runV (As := [.int (-1000000001)]) (rest := []) ⟨hx, hb, hml, hown, hts⟩ (k_X5_found l D cI cL cS b s1 w1 m1 n1 s2 w2 m2 n2 s3 w3 m3 n3 ik bt ln tk sb en nm bits size num fnd (-1000000001) (va_DT (hD _ rfl) rfl) (vp_in_iff.mpr (by decide))) (cwV 1 hts gX5_copy_X5_found rfl rfl rfl (by decide +kernel) ⟨Nat.le_of_ble_eq_true rfl, Nat.le_of_ble_eq_true rfl⟩) ⟨PcR_fb, va_recv hK hP (ci := 3) (q0 := 0) rfl rfl, PcR_pre hP hK⟩ rfl rfl hl.1 rfl (lv_room (Nat.le_of_ble_eq_true rfl)) dX5_copy_106 ⟨Nat.zero_le _, Nat.zero_le _⟩) hP (hD _ rfl) hS 0 49 rfl (fun r_90 u_89 H locs hu_89 hP hS => ?_)
                    obtain ⟨hu_89r, -⟩ := hu_89
                    subst hu_89r
                    have hP : va_P D vwCl (kcw cI cL cS b s1 w1 m1 n1 s2 w2 m2 n2 s3 w3 m3 n3 ik bt ln tk sb en nm bits size num (bump fnd (-1000000001))) H := hP
                    exact W.iret hx hb hr (fun t ht hW => ⟨⟨_, (num, bump fnd (-1000000001)), rfl, (by exact ((iF_t ⟨hs, htt⟩).trans ((iF_f (fun h => h.elim c_80b c_83b)).trans ((iF_t c_84).trans (iF_f (fun h => by first | exact absurd h.1 c_88b | exact absurd c_88b h.1 | exact absurd h.2 c_88b | exact absurd c_88b h.2))))).symm), by dsimp only; rw [ht]; exact hP⟩, hS.F ht⟩) hS.2.2 dX5_copy_109
              · skip
                refine lv_aload_n hx hb dX5_copy_73 rfl (lv_at hl 2 rfl) ?_
                refine lv_ldc hx hb hown k144 dX5_copy_74 ?_
                refine callMi (va_runV (As := [.int (-1000000003)]) (rest := []) ⟨hx, hb, hml, hown, hts⟩ (k_X5_found l D cI cL cS b s1 w1 m1 n1 s2 w2 m2 n2 s3 w3 m3 n3 ik bt ln tk sb en nm bits size num fnd (-1000000003) (va_DT (hD _ rfl) rfl) (vp_in_iff.mpr (by decide))) (cwV 1 hts gX5_copy_X5_found rfl rfl rfl (by decide +kernel) ⟨Nat.le_of_ble_eq_true rfl, Nat.le_of_ble_eq_true rfl⟩) ⟨PcR_fb, va_recv hK hP (ci := 3) (q0 := 0) rfl rfl, PcR_pre hP hK⟩ rfl rfl hl.1 rfl (lv_room (Nat.le_of_ble_eq_true rfl)) dX5_copy_76 ⟨Nat.zero_le _, Nat.zero_le _⟩) hP (hD _ rfl) hS 0 49 rfl (fun r_92 u_91 H locs hu_91 hP hS => ?_)
                obtain ⟨hu_91r, -⟩ := hu_91
                subst hu_91r
                have hP : va_P D vwCl (kcw cI cL cS b s1 w1 m1 n1 s2 w2 m2 n2 s3 w3 m3 n3 ik bt ln tk sb en nm bits size num (bump fnd (-1000000003))) H := hP
                exact W.iret hx hb hr (fun t ht hW => ⟨⟨_, (num, bump fnd (-1000000003)), rfl, (by exact ((iF_t ⟨hs, htt⟩).trans ((iF_f (fun h => h.elim c_80b c_83b)).trans (iF_f c_84))).symm), by dsimp only; rw [ht]; exact hP⟩, hS.F ht⟩) hS.2.2 dX5_copy_79
            · skip
              have c_83b := bI_n c_83
              refine lv_aload_n hx hb dX5_copy_53 rfl (lv_at hl 2 rfl) ?_
              refine lv_ldc hx hb hown k196 dX5_copy_54 ?_
              refine callMi (va_runV (As := [.int (-1000000006)]) (rest := []) ⟨hx, hb, hml, hown, hts⟩ (k_X5_found l D cI cL cS b s1 w1 m1 n1 s2 w2 m2 n2 s3 w3 m3 n3 ik bt ln tk sb en nm bits size num fnd (-1000000006) (va_DT (hD _ rfl) rfl) (vp_in_iff.mpr (by decide))) (cwV 1 hts gX5_copy_X5_found rfl rfl rfl (by decide +kernel) ⟨Nat.le_of_ble_eq_true rfl, Nat.le_of_ble_eq_true rfl⟩) ⟨PcR_fb, va_recv hK hP (ci := 3) (q0 := 0) rfl rfl, PcR_pre hP hK⟩ rfl rfl hl.1 rfl (lv_room (Nat.le_of_ble_eq_true rfl)) dX5_copy_56 ⟨Nat.zero_le _, Nat.zero_le _⟩) hP (hD _ rfl) hS 0 49 rfl (fun r_94 u_93 H locs hu_93 hP hS => ?_)
              obtain ⟨hu_93r, -⟩ := hu_93
              subst hu_93r
              have hP : va_P D vwCl (kcw cI cL cS b s1 w1 m1 n1 s2 w2 m2 n2 s3 w3 m3 n3 ik bt ln tk sb en nm bits size num (bump fnd (-1000000006))) H := hP
              exact W.iret hx hb hr (fun t ht hW => ⟨⟨_, (num, bump fnd (-1000000006)), rfl, (by exact ((iF_t ⟨hs, htt⟩).trans (iF_t (Or.inr c_83b))).symm), by dsimp only; rw [ht]; exact hP⟩, hS.F ht⟩) hS.2.2 dX5_copy_59
        · skip
          have hz := (oh 1 (by decide)).1
          have hy := (oh 2 (by decide)).1
          refine lv_aload_n hx hb dX5_copy_21 rfl (lv_at hl 0 rfl) ?_
          refine va_get (ci := 3) (v := .ref (b 6 0)) (C := RX5) (T := TX5) (N := 7) hx hb hts inX5 hown hK hP 0 rfl rfl 5 (by decide) f35 (fun _ h9 => h9) rfl dX5_copy_22 ?_
          refine lv_iload_n hx hb dX5_copy_25 rfl (lv_at hl 1 rfl) ?_
          refine va_aldq (f := fun s => some (b 7 s)) hx hb hK hP 39 2 rfl rfl (vp_in_iff.mpr (by decide)) dX5_copy_26 ?_
          refine W.eq (g2 := F0 m 27 ls [.ref (b 7 1)]) rfl ?_
          refine lv_astore (lv' := [(6, .ref (b 7 1)), (0, .ref (b 0 0)), (1, .int 1), (2, .int x1), (3, .int 2), (4, .int x3), (5, .int x4)]) hx hb dX5_copy_27 hl (by decide) rfl (fun ls hl => ?_)
          refine lv_aload_n hx hb dX5_copy_29 rfl (lv_at hl 1 rfl) ?_
          refine va_get (ci := 3) (v := .ref (b 6 0)) (C := RX5) (T := TX5) (N := 7) hx hb hts inX5 hown hK hP 0 rfl rfl 5 (by decide) f35 (fun _ h9 => h9) rfl dX5_copy_30 ?_
          refine lv_iload_n hx hb dX5_copy_33 rfl (lv_at hl 4 rfl) ?_
          refine va_aldq (f := fun s => some (b 7 s)) hx hb hK hP 39 2 rfl rfl (vp_in_iff.mpr (by decide)) dX5_copy_34 ?_
          refine W.eq (g2 := F0 m 35 ls [.ref (b 7 2)]) rfl ?_
          refine lv_astore (lv' := [(7, .ref (b 7 2)), (6, .ref (b 7 1)), (0, .ref (b 0 0)), (1, .int 1), (2, .int x1), (3, .int 2), (4, .int x3), (5, .int x4)]) hx hb dX5_copy_35 hl (by decide) rfl (fun ls hl => ?_)
          refine lv_aload hx hb dX5_copy_37 (lv_at hl 1 rfl) ?_
          refine callE (W.runV (As := []) (rest := []) ⟨hx, hb, hml, hown, hts⟩ (k_X2_isMissing l D cI cL cS (b 7 1) (b 8 1) (bits 1) (size 1) (num 1)) (cwV 0 hts gX5_copy_X2_isMissing rfl rfl rfl (by decide +kernel) ⟨Nat.le_of_ble_eq_true rfl, Nat.le_of_ble_eq_true rfl⟩) ⟨PcR_fb, va_recv hK hP (ci := 0) (q0 := 42) rfl rfl, PcR_pre (va_seg hP 42 2 rfl) hK⟩ rfl rfl hl.1 rfl (lv_room (Nat.le_of_ble_eq_true rfl)) dX5_copy_39 ⟨Nat.zero_le _, Nat.zero_le _⟩) ?_
          refine lv_if_ne (tgt := 53) hx hb dX5_copy_42 (by decide) (fun c_95 => ?_) (fun c_95 => ?_)
          · skip
            have c_95b := bI_n c_95
            refine lv_aload_n hx hb dX5_copy_53 rfl (lv_at hl 2 rfl) ?_
            refine lv_ldc hx hb hown k196 dX5_copy_54 ?_
            refine callMi (va_runV (As := [.int (-1000000006)]) (rest := []) ⟨hx, hb, hml, hown, hts⟩ (k_X5_found l D cI cL cS b s1 w1 m1 n1 s2 w2 m2 n2 s3 w3 m3 n3 ik bt ln tk sb en nm bits size num fnd (-1000000006) (va_DT (hD _ rfl) rfl) (vp_in_iff.mpr (by decide))) (cwV 1 hts gX5_copy_X5_found rfl rfl rfl (by decide +kernel) ⟨Nat.le_of_ble_eq_true rfl, Nat.le_of_ble_eq_true rfl⟩) ⟨PcR_fb, va_recv hK hP (ci := 3) (q0 := 0) rfl rfl, PcR_pre hP hK⟩ rfl rfl hl.1 rfl (lv_room (Nat.le_of_ble_eq_true rfl)) dX5_copy_56 ⟨Nat.zero_le _, Nat.zero_le _⟩) hP (hD _ rfl) hS 0 49 rfl (fun r_97 u_96 H locs hu_96 hP hS => ?_)
            obtain ⟨hu_96r, -⟩ := hu_96
            subst hu_96r
            have hP : va_P D vwCl (kcw cI cL cS b s1 w1 m1 n1 s2 w2 m2 n2 s3 w3 m3 n3 ik bt ln tk sb en nm bits size num (bump fnd (-1000000006))) H := hP
            exact W.iret hx hb hr (fun t ht hW => ⟨⟨_, (num, bump fnd (-1000000006)), rfl, (by exact ((iF_t ⟨hs, htt⟩).trans (iF_t (Or.inl c_95b))).symm), by dsimp only; rw [ht]; exact hP⟩, hS.F ht⟩) hS.2.2 dX5_copy_59
          · skip
            have c_95b := bI_0 c_95
            refine lv_aload hx hb dX5_copy_45 (lv_at hl 0 rfl) ?_
            refine callE (W.runV (As := []) (rest := []) ⟨hx, hb, hml, hown, hts⟩ (k_X2_isMissing l D cI cL cS (b 7 2) (b 8 2) (bits 2) (size 2) (num 2)) (cwV 0 hts gX5_copy_X2_isMissing rfl rfl rfl (by decide +kernel) ⟨Nat.le_of_ble_eq_true rfl, Nat.le_of_ble_eq_true rfl⟩) ⟨PcR_fb, va_recv hK hP (ci := 0) (q0 := 44) rfl rfl, PcR_pre (va_seg hP 44 2 rfl) hK⟩ rfl rfl hl.1 rfl (lv_room (Nat.le_of_ble_eq_true rfl)) dX5_copy_47 ⟨Nat.zero_le _, Nat.zero_le _⟩) ?_
            refine lv_if_eq (tgt := 60) hx hb dX5_copy_50 (by decide) (fun c_98 => ?_) (fun c_98 => ?_)
            · skip
              have c_98b := bI_0 c_98
              refine lv_aload hx hb dX5_copy_60 (lv_at hl 1 rfl) ?_
              refine va_get (ci := 0) (v := .int (bits 1)) (C := RX2) (T := TX2) (N := 3) hx hb hts inX2 hown hK hP 42 rfl rfl 0 (by decide) f206 (fun _ h9 => h9) rfl dX5_copy_62 ?_
              refine lv_aload hx hb dX5_copy_65 (lv_at hl 0 rfl) ?_
              refine va_get (ci := 0) (v := .int (bits 2)) (C := RX2) (T := TX2) (N := 3) hx hb hts inX2 hown hK hP 44 rfl rfl 0 (by decide) f206 (fun _ h9 => h9) rfl dX5_copy_67 ?_
              refine lv_icmp_eq (tgt := 80) hx hb dX5_copy_70 (by decide) (fun c_99 => ?_) (fun c_99 => ?_)
              · skip
                refine lv_aload hx hb dX5_copy_80 (lv_at hl 1 rfl) ?_
                refine lv_iload_n hx hb dX5_copy_82 rfl (lv_at hl 4 rfl) ?_
                refine lv_iload hx hb dX5_copy_83 (lv_at hl 7 rfl) ?_
                refine callE (W.runV (As := [.int x1, .int x4]) (rest := []) ⟨hx, hb, hml, hown, hts⟩ (k_X2_hasRun l D cI cL cS (b 7 1) (b 8 1) (bits 1) (size 1) (num 1) x1 x4) (cwV 2 hts gX5_copy_X2_hasRun rfl rfl rfl (by decide +kernel) ⟨Nat.le_of_ble_eq_true rfl, Nat.le_of_ble_eq_true rfl⟩) ⟨PcR_fb, va_recv hK hP (ci := 0) (q0 := 42) rfl rfl, PcR_pre (va_seg hP 42 2 rfl) hK⟩ rfl rfl hl.1 rfl (lv_room (Nat.le_of_ble_eq_true rfl)) dX5_copy_85 ⟨Nat.zero_le _, Nat.zero_le _⟩) ?_
                refine lv_if_eq (tgt := 103) hx hb dX5_copy_88 (by decide) (fun c_100 => ?_) (fun c_100 => ?_)
                · skip
                  have c_100b := bI_0 c_100
                  refine lv_aload_n hx hb dX5_copy_103 rfl (lv_at hl 2 rfl) ?_
                  refine lv_ldc hx hb hown k52 dX5_copy_104 ?_
                  refine callMi (va_runV (As := [.int (-1000000001)]) (rest := []) ⟨hx, hb, hml, hown, hts⟩ (k_X5_found l D cI cL cS b s1 w1 m1 n1 s2 w2 m2 n2 s3 w3 m3 n3 ik bt ln tk sb en nm bits size num fnd (-1000000001) (va_DT (hD _ rfl) rfl) (vp_in_iff.mpr (by decide))) (cwV 1 hts gX5_copy_X5_found rfl rfl rfl (by decide +kernel) ⟨Nat.le_of_ble_eq_true rfl, Nat.le_of_ble_eq_true rfl⟩) ⟨PcR_fb, va_recv hK hP (ci := 3) (q0 := 0) rfl rfl, PcR_pre hP hK⟩ rfl rfl hl.1 rfl (lv_room (Nat.le_of_ble_eq_true rfl)) dX5_copy_106 ⟨Nat.zero_le _, Nat.zero_le _⟩) hP (hD _ rfl) hS 0 49 rfl (fun r_102 u_101 H locs hu_101 hP hS => ?_)
                  obtain ⟨hu_101r, -⟩ := hu_101
                  subst hu_101r
                  have hP : va_P D vwCl (kcw cI cL cS b s1 w1 m1 n1 s2 w2 m2 n2 s3 w3 m3 n3 ik bt ln tk sb en nm bits size num (bump fnd (-1000000001))) H := hP
                  exact W.iret hx hb hr (fun t ht hW => ⟨⟨_, (num, bump fnd (-1000000001)), rfl, (by exact ((iF_t ⟨hs, htt⟩).trans ((iF_f (fun h => h.elim c_95b c_98b)).trans ((iF_t c_99).trans (iF_f (fun h => by first | exact absurd h.1 c_100b | exact absurd c_100b h.1 | exact absurd h.2 c_100b | exact absurd c_100b h.2))))).symm), by dsimp only; rw [ht]; exact hP⟩, hS.F ht⟩) hS.2.2 dX5_copy_109
                · skip
                  have c_100b := bI_n c_100
                  have hr1 := c_100b
                  refine lv_aload hx hb dX5_copy_91 (lv_at hl 0 rfl) ?_
                  refine lv_iload hx hb dX5_copy_93 (lv_at hl 6 rfl) ?_
                  refine lv_iload hx hb dX5_copy_95 (lv_at hl 7 rfl) ?_
                  refine callE (W.runV (As := [.int x3, .int x4]) (rest := []) ⟨hx, hb, hml, hown, hts⟩ (k_X2_hasRun l D cI cL cS (b 7 2) (b 8 2) (bits 2) (size 2) (num 2) x3 x4) (cwV 2 hts gX5_copy_X2_hasRun rfl rfl rfl (by decide +kernel) ⟨Nat.le_of_ble_eq_true rfl, Nat.le_of_ble_eq_true rfl⟩) ⟨PcR_fb, va_recv hK hP (ci := 0) (q0 := 44) rfl rfl, PcR_pre (va_seg hP 44 2 rfl) hK⟩ rfl rfl hl.1 rfl (lv_room (Nat.le_of_ble_eq_true rfl)) dX5_copy_97 ⟨Nat.zero_le _, Nat.zero_le _⟩) ?_
                  refine lv_if_ne (tgt := 110) hx hb dX5_copy_100 (by decide) (fun c_103 => ?_) (fun c_103 => ?_)
                  · skip
                    have c_103b := bI_n c_103
                    have hr2 := c_103b
                    refine lv_aload hx hb dX5_copy_110 (lv_at hl 1 rfl) ?_
                    refine va_get (ci := 0) (v := .ref (b 8 1)) (C := RX2) (T := TX2) (N := 3) hx hb hts inX2 hown hK hP 42 rfl rfl 2 (by decide) f198 (fun _ h9 => h9) rfl dX5_copy_112 ?_
                    refine lv_iload_n hx hb dX5_copy_115 rfl (lv_at hl 4 rfl) ?_
                    refine lv_aload hx hb dX5_copy_116 (lv_at hl 0 rfl) ?_
                    refine va_get (ci := 0) (v := .ref (b 8 2)) (C := RX2) (T := TX2) (N := 3) hx hb hts inX2 hown hK hP 44 rfl rfl 2 (by decide) f198 (fun _ h9 => h9) rfl dX5_copy_118 ?_
                    refine lv_iload hx hb dX5_copy_121 (lv_at hl 6 rfl) ?_
                    refine lv_iload hx hb dX5_copy_123 (lv_at hl 7 rfl) ?_
                    refine va_copyL hx hb (by rw [hml]; exact hl.1.symm) hown ml212 nAc sAc iSys hK hP (hD _ rfl) hS 43 45 1 1 rfl rfl rfl rfl hr1.1 hr2.1 hr1.2.1 (by have := run_in hz hr1; omega) (by have := run_in hy hr2; omega) (Nat.le_of_ble_eq_true rfl) (Nat.le_of_ble_eq_true rfl) dX5_copy_125 (fun H locs hP hS => ?_)
                    have hP : va_P D vwCl (kcw cI cL cS b s1 w1 m1 n1 s2 w2 m2 n2 s3 w3 m3 n3 ik bt ln tk sb en nm bits size (va_up num 2 (va_cpy (num 1) (num 2) (ix x1) (ix x3) (ix x4))) fnd) H := hP
                    refine lv_iload hx hb dX5_copy_128 (lv_at hl 7 rfl) ?_
                    exact W.iret hx hb hr (fun t ht hW => ⟨⟨_, ((va_up num 2 (va_cpy (num 1) (num 2) (ix x1) (ix x3) (ix x4))), fnd), rfl, (by exact ((iF_t ⟨hs, htt⟩).trans ((iF_f (fun h => h.elim c_95b c_98b)).trans ((iF_t c_99).trans (iF_t ⟨hr1, hr2⟩)))).symm), by dsimp only; rw [ht]; exact hP⟩, hS.F ht⟩) hS.2.2 dX5_copy_130
                  · skip
                    have c_103b := bI_0 c_103
                    refine lv_aload_n hx hb dX5_copy_103 rfl (lv_at hl 2 rfl) ?_
                    refine lv_ldc hx hb hown k52 dX5_copy_104 ?_
                    refine callMi (va_runV (As := [.int (-1000000001)]) (rest := []) ⟨hx, hb, hml, hown, hts⟩ (k_X5_found l D cI cL cS b s1 w1 m1 n1 s2 w2 m2 n2 s3 w3 m3 n3 ik bt ln tk sb en nm bits size num fnd (-1000000001) (va_DT (hD _ rfl) rfl) (vp_in_iff.mpr (by decide))) (cwV 1 hts gX5_copy_X5_found rfl rfl rfl (by decide +kernel) ⟨Nat.le_of_ble_eq_true rfl, Nat.le_of_ble_eq_true rfl⟩) ⟨PcR_fb, va_recv hK hP (ci := 3) (q0 := 0) rfl rfl, PcR_pre hP hK⟩ rfl rfl hl.1 rfl (lv_room (Nat.le_of_ble_eq_true rfl)) dX5_copy_106 ⟨Nat.zero_le _, Nat.zero_le _⟩) hP (hD _ rfl) hS 0 49 rfl (fun r_105 u_104 H locs hu_104 hP hS => ?_)
                    obtain ⟨hu_104r, -⟩ := hu_104
                    subst hu_104r
                    have hP : va_P D vwCl (kcw cI cL cS b s1 w1 m1 n1 s2 w2 m2 n2 s3 w3 m3 n3 ik bt ln tk sb en nm bits size num (bump fnd (-1000000001))) H := hP
                    exact W.iret hx hb hr (fun t ht hW => ⟨⟨_, (num, bump fnd (-1000000001)), rfl, (by exact ((iF_t ⟨hs, htt⟩).trans ((iF_f (fun h => h.elim c_95b c_98b)).trans ((iF_t c_99).trans (iF_f (fun h => by first | exact absurd h.1 c_103b | exact absurd c_103b h.1 | exact absurd h.2 c_103b | exact absurd c_103b h.2))))).symm), by dsimp only; rw [ht]; exact hP⟩, hS.F ht⟩) hS.2.2 dX5_copy_109
              · skip
                refine lv_aload_n hx hb dX5_copy_73 rfl (lv_at hl 2 rfl) ?_
                refine lv_ldc hx hb hown k144 dX5_copy_74 ?_
                refine callMi (va_runV (As := [.int (-1000000003)]) (rest := []) ⟨hx, hb, hml, hown, hts⟩ (k_X5_found l D cI cL cS b s1 w1 m1 n1 s2 w2 m2 n2 s3 w3 m3 n3 ik bt ln tk sb en nm bits size num fnd (-1000000003) (va_DT (hD _ rfl) rfl) (vp_in_iff.mpr (by decide))) (cwV 1 hts gX5_copy_X5_found rfl rfl rfl (by decide +kernel) ⟨Nat.le_of_ble_eq_true rfl, Nat.le_of_ble_eq_true rfl⟩) ⟨PcR_fb, va_recv hK hP (ci := 3) (q0 := 0) rfl rfl, PcR_pre hP hK⟩ rfl rfl hl.1 rfl (lv_room (Nat.le_of_ble_eq_true rfl)) dX5_copy_76 ⟨Nat.zero_le _, Nat.zero_le _⟩) hP (hD _ rfl) hS 0 49 rfl (fun r_107 u_106 H locs hu_106 hP hS => ?_)
                obtain ⟨hu_106r, -⟩ := hu_106
                subst hu_106r
                have hP : va_P D vwCl (kcw cI cL cS b s1 w1 m1 n1 s2 w2 m2 n2 s3 w3 m3 n3 ik bt ln tk sb en nm bits size num (bump fnd (-1000000003))) H := hP
                exact W.iret hx hb hr (fun t ht hW => ⟨⟨_, (num, bump fnd (-1000000003)), rfl, (by exact ((iF_t ⟨hs, htt⟩).trans ((iF_f (fun h => h.elim c_95b c_98b)).trans (iF_f c_99))).symm), by dsimp only; rw [ht]; exact hP⟩, hS.F ht⟩) hS.2.2 dX5_copy_79
            · skip
              have c_98b := bI_n c_98
              refine lv_aload_n hx hb dX5_copy_53 rfl (lv_at hl 2 rfl) ?_
              refine lv_ldc hx hb hown k196 dX5_copy_54 ?_
              refine callMi (va_runV (As := [.int (-1000000006)]) (rest := []) ⟨hx, hb, hml, hown, hts⟩ (k_X5_found l D cI cL cS b s1 w1 m1 n1 s2 w2 m2 n2 s3 w3 m3 n3 ik bt ln tk sb en nm bits size num fnd (-1000000006) (va_DT (hD _ rfl) rfl) (vp_in_iff.mpr (by decide))) (cwV 1 hts gX5_copy_X5_found rfl rfl rfl (by decide +kernel) ⟨Nat.le_of_ble_eq_true rfl, Nat.le_of_ble_eq_true rfl⟩) ⟨PcR_fb, va_recv hK hP (ci := 3) (q0 := 0) rfl rfl, PcR_pre hP hK⟩ rfl rfl hl.1 rfl (lv_room (Nat.le_of_ble_eq_true rfl)) dX5_copy_56 ⟨Nat.zero_le _, Nat.zero_le _⟩) hP (hD _ rfl) hS 0 49 rfl (fun r_109 u_108 H locs hu_108 hP hS => ?_)
              obtain ⟨hu_108r, -⟩ := hu_108
              subst hu_108r
              have hP : va_P D vwCl (kcw cI cL cS b s1 w1 m1 n1 s2 w2 m2 n2 s3 w3 m3 n3 ik bt ln tk sb en nm bits size num (bump fnd (-1000000006))) H := hP
              exact W.iret hx hb hr (fun t ht hW => ⟨⟨_, (num, bump fnd (-1000000006)), rfl, (by exact ((iF_t ⟨hs, htt⟩).trans (iF_t (Or.inr c_98b))).symm), by dsimp only; rw [ht]; exact hP⟩, hS.F ht⟩) hS.2.2 dX5_copy_59
        · skip
          have hz := (oh 1 (by decide)).1
          have hy := (oh 3 (by decide)).1
          refine lv_aload_n hx hb dX5_copy_21 rfl (lv_at hl 0 rfl) ?_
          refine va_get (ci := 3) (v := .ref (b 6 0)) (C := RX5) (T := TX5) (N := 7) hx hb hts inX5 hown hK hP 0 rfl rfl 5 (by decide) f35 (fun _ h9 => h9) rfl dX5_copy_22 ?_
          refine lv_iload_n hx hb dX5_copy_25 rfl (lv_at hl 1 rfl) ?_
          refine va_aldq (f := fun s => some (b 7 s)) hx hb hK hP 39 2 rfl rfl (vp_in_iff.mpr (by decide)) dX5_copy_26 ?_
          refine W.eq (g2 := F0 m 27 ls [.ref (b 7 1)]) rfl ?_
          refine lv_astore (lv' := [(6, .ref (b 7 1)), (0, .ref (b 0 0)), (1, .int 1), (2, .int x1), (3, .int 3), (4, .int x3), (5, .int x4)]) hx hb dX5_copy_27 hl (by decide) rfl (fun ls hl => ?_)
          refine lv_aload_n hx hb dX5_copy_29 rfl (lv_at hl 1 rfl) ?_
          refine va_get (ci := 3) (v := .ref (b 6 0)) (C := RX5) (T := TX5) (N := 7) hx hb hts inX5 hown hK hP 0 rfl rfl 5 (by decide) f35 (fun _ h9 => h9) rfl dX5_copy_30 ?_
          refine lv_iload_n hx hb dX5_copy_33 rfl (lv_at hl 4 rfl) ?_
          refine va_aldq (f := fun s => some (b 7 s)) hx hb hK hP 39 2 rfl rfl (vp_in_iff.mpr (by decide)) dX5_copy_34 ?_
          refine W.eq (g2 := F0 m 35 ls [.ref (b 7 3)]) rfl ?_
          refine lv_astore (lv' := [(7, .ref (b 7 3)), (6, .ref (b 7 1)), (0, .ref (b 0 0)), (1, .int 1), (2, .int x1), (3, .int 3), (4, .int x3), (5, .int x4)]) hx hb dX5_copy_35 hl (by decide) rfl (fun ls hl => ?_)
          refine lv_aload hx hb dX5_copy_37 (lv_at hl 1 rfl) ?_
          refine callE (W.runV (As := []) (rest := []) ⟨hx, hb, hml, hown, hts⟩ (k_X2_isMissing l D cI cL cS (b 7 1) (b 8 1) (bits 1) (size 1) (num 1)) (cwV 0 hts gX5_copy_X2_isMissing rfl rfl rfl (by decide +kernel) ⟨Nat.le_of_ble_eq_true rfl, Nat.le_of_ble_eq_true rfl⟩) ⟨PcR_fb, va_recv hK hP (ci := 0) (q0 := 42) rfl rfl, PcR_pre (va_seg hP 42 2 rfl) hK⟩ rfl rfl hl.1 rfl (lv_room (Nat.le_of_ble_eq_true rfl)) dX5_copy_39 ⟨Nat.zero_le _, Nat.zero_le _⟩) ?_
          refine lv_if_ne (tgt := 53) hx hb dX5_copy_42 (by decide) (fun c_110 => ?_) (fun c_110 => ?_)
          · skip
            have c_110b := bI_n c_110
            refine lv_aload_n hx hb dX5_copy_53 rfl (lv_at hl 2 rfl) ?_
            refine lv_ldc hx hb hown k196 dX5_copy_54 ?_
            refine callMi (va_runV (As := [.int (-1000000006)]) (rest := []) ⟨hx, hb, hml, hown, hts⟩ (k_X5_found l D cI cL cS b s1 w1 m1 n1 s2 w2 m2 n2 s3 w3 m3 n3 ik bt ln tk sb en nm bits size num fnd (-1000000006) (va_DT (hD _ rfl) rfl) (vp_in_iff.mpr (by decide))) (cwV 1 hts gX5_copy_X5_found rfl rfl rfl (by decide +kernel) ⟨Nat.le_of_ble_eq_true rfl, Nat.le_of_ble_eq_true rfl⟩) ⟨PcR_fb, va_recv hK hP (ci := 3) (q0 := 0) rfl rfl, PcR_pre hP hK⟩ rfl rfl hl.1 rfl (lv_room (Nat.le_of_ble_eq_true rfl)) dX5_copy_56 ⟨Nat.zero_le _, Nat.zero_le _⟩) hP (hD _ rfl) hS 0 49 rfl (fun r_112 u_111 H locs hu_111 hP hS => ?_)
            obtain ⟨hu_111r, -⟩ := hu_111
            subst hu_111r
            have hP : va_P D vwCl (kcw cI cL cS b s1 w1 m1 n1 s2 w2 m2 n2 s3 w3 m3 n3 ik bt ln tk sb en nm bits size num (bump fnd (-1000000006))) H := hP
            exact W.iret hx hb hr (fun t ht hW => ⟨⟨_, (num, bump fnd (-1000000006)), rfl, (by exact ((iF_t ⟨hs, htt⟩).trans (iF_t (Or.inl c_110b))).symm), by dsimp only; rw [ht]; exact hP⟩, hS.F ht⟩) hS.2.2 dX5_copy_59
          · skip
            have c_110b := bI_0 c_110
            refine lv_aload hx hb dX5_copy_45 (lv_at hl 0 rfl) ?_
            refine callE (W.runV (As := []) (rest := []) ⟨hx, hb, hml, hown, hts⟩ (k_X2_isMissing l D cI cL cS (b 7 3) (b 8 3) (bits 3) (size 3) (num 3)) (cwV 0 hts gX5_copy_X2_isMissing rfl rfl rfl (by decide +kernel) ⟨Nat.le_of_ble_eq_true rfl, Nat.le_of_ble_eq_true rfl⟩) ⟨PcR_fb, va_recv hK hP (ci := 0) (q0 := 46) rfl rfl, PcR_pre (va_seg hP 46 2 rfl) hK⟩ rfl rfl hl.1 rfl (lv_room (Nat.le_of_ble_eq_true rfl)) dX5_copy_47 ⟨Nat.zero_le _, Nat.zero_le _⟩) ?_
            refine lv_if_eq (tgt := 60) hx hb dX5_copy_50 (by decide) (fun c_113 => ?_) (fun c_113 => ?_)
            · skip
              have c_113b := bI_0 c_113
              refine lv_aload hx hb dX5_copy_60 (lv_at hl 1 rfl) ?_
              refine va_get (ci := 0) (v := .int (bits 1)) (C := RX2) (T := TX2) (N := 3) hx hb hts inX2 hown hK hP 42 rfl rfl 0 (by decide) f206 (fun _ h9 => h9) rfl dX5_copy_62 ?_
              refine lv_aload hx hb dX5_copy_65 (lv_at hl 0 rfl) ?_
              refine va_get (ci := 0) (v := .int (bits 3)) (C := RX2) (T := TX2) (N := 3) hx hb hts inX2 hown hK hP 46 rfl rfl 0 (by decide) f206 (fun _ h9 => h9) rfl dX5_copy_67 ?_
              refine lv_icmp_eq (tgt := 80) hx hb dX5_copy_70 (by decide) (fun c_114 => ?_) (fun c_114 => ?_)
              · skip
                refine lv_aload hx hb dX5_copy_80 (lv_at hl 1 rfl) ?_
                refine lv_iload_n hx hb dX5_copy_82 rfl (lv_at hl 4 rfl) ?_
                refine lv_iload hx hb dX5_copy_83 (lv_at hl 7 rfl) ?_
                refine callE (W.runV (As := [.int x1, .int x4]) (rest := []) ⟨hx, hb, hml, hown, hts⟩ (k_X2_hasRun l D cI cL cS (b 7 1) (b 8 1) (bits 1) (size 1) (num 1) x1 x4) (cwV 2 hts gX5_copy_X2_hasRun rfl rfl rfl (by decide +kernel) ⟨Nat.le_of_ble_eq_true rfl, Nat.le_of_ble_eq_true rfl⟩) ⟨PcR_fb, va_recv hK hP (ci := 0) (q0 := 42) rfl rfl, PcR_pre (va_seg hP 42 2 rfl) hK⟩ rfl rfl hl.1 rfl (lv_room (Nat.le_of_ble_eq_true rfl)) dX5_copy_85 ⟨Nat.zero_le _, Nat.zero_le _⟩) ?_
                refine lv_if_eq (tgt := 103) hx hb dX5_copy_88 (by decide) (fun c_115 => ?_) (fun c_115 => ?_)
                · skip
                  have c_115b := bI_0 c_115
                  refine lv_aload_n hx hb dX5_copy_103 rfl (lv_at hl 2 rfl) ?_
                  refine lv_ldc hx hb hown k52 dX5_copy_104 ?_
                  refine callMi (va_runV (As := [.int (-1000000001)]) (rest := []) ⟨hx, hb, hml, hown, hts⟩ (k_X5_found l D cI cL cS b s1 w1 m1 n1 s2 w2 m2 n2 s3 w3 m3 n3 ik bt ln tk sb en nm bits size num fnd (-1000000001) (va_DT (hD _ rfl) rfl) (vp_in_iff.mpr (by decide))) (cwV 1 hts gX5_copy_X5_found rfl rfl rfl (by decide +kernel) ⟨Nat.le_of_ble_eq_true rfl, Nat.le_of_ble_eq_true rfl⟩) ⟨PcR_fb, va_recv hK hP (ci := 3) (q0 := 0) rfl rfl, PcR_pre hP hK⟩ rfl rfl hl.1 rfl (lv_room (Nat.le_of_ble_eq_true rfl)) dX5_copy_106 ⟨Nat.zero_le _, Nat.zero_le _⟩) hP (hD _ rfl) hS 0 49 rfl (fun r_117 u_116 H locs hu_116 hP hS => ?_)
                  obtain ⟨hu_116r, -⟩ := hu_116
                  subst hu_116r
                  have hP : va_P D vwCl (kcw cI cL cS b s1 w1 m1 n1 s2 w2 m2 n2 s3 w3 m3 n3 ik bt ln tk sb en nm bits size num (bump fnd (-1000000001))) H := hP
                  exact W.iret hx hb hr (fun t ht hW => ⟨⟨_, (num, bump fnd (-1000000001)), rfl, (by exact ((iF_t ⟨hs, htt⟩).trans ((iF_f (fun h => h.elim c_110b c_113b)).trans ((iF_t c_114).trans (iF_f (fun h => by first | exact absurd h.1 c_115b | exact absurd c_115b h.1 | exact absurd h.2 c_115b | exact absurd c_115b h.2))))).symm), by dsimp only; rw [ht]; exact hP⟩, hS.F ht⟩) hS.2.2 dX5_copy_109
                · skip
                  have c_115b := bI_n c_115
                  have hr1 := c_115b
                  refine lv_aload hx hb dX5_copy_91 (lv_at hl 0 rfl) ?_
                  refine lv_iload hx hb dX5_copy_93 (lv_at hl 6 rfl) ?_
                  refine lv_iload hx hb dX5_copy_95 (lv_at hl 7 rfl) ?_
                  refine callE (W.runV (As := [.int x3, .int x4]) (rest := []) ⟨hx, hb, hml, hown, hts⟩ (k_X2_hasRun l D cI cL cS (b 7 3) (b 8 3) (bits 3) (size 3) (num 3) x3 x4) (cwV 2 hts gX5_copy_X2_hasRun rfl rfl rfl (by decide +kernel) ⟨Nat.le_of_ble_eq_true rfl, Nat.le_of_ble_eq_true rfl⟩) ⟨PcR_fb, va_recv hK hP (ci := 0) (q0 := 46) rfl rfl, PcR_pre (va_seg hP 46 2 rfl) hK⟩ rfl rfl hl.1 rfl (lv_room (Nat.le_of_ble_eq_true rfl)) dX5_copy_97 ⟨Nat.zero_le _, Nat.zero_le _⟩) ?_
                  refine lv_if_ne (tgt := 110) hx hb dX5_copy_100 (by decide) (fun c_118 => ?_) (fun c_118 => ?_)
                  · skip
                    have c_118b := bI_n c_118
                    have hr2 := c_118b
                    refine lv_aload hx hb dX5_copy_110 (lv_at hl 1 rfl) ?_
                    refine va_get (ci := 0) (v := .ref (b 8 1)) (C := RX2) (T := TX2) (N := 3) hx hb hts inX2 hown hK hP 42 rfl rfl 2 (by decide) f198 (fun _ h9 => h9) rfl dX5_copy_112 ?_
                    refine lv_iload_n hx hb dX5_copy_115 rfl (lv_at hl 4 rfl) ?_
                    refine lv_aload hx hb dX5_copy_116 (lv_at hl 0 rfl) ?_
                    refine va_get (ci := 0) (v := .ref (b 8 3)) (C := RX2) (T := TX2) (N := 3) hx hb hts inX2 hown hK hP 46 rfl rfl 2 (by decide) f198 (fun _ h9 => h9) rfl dX5_copy_118 ?_
                    refine lv_iload hx hb dX5_copy_121 (lv_at hl 6 rfl) ?_
                    refine lv_iload hx hb dX5_copy_123 (lv_at hl 7 rfl) ?_
                    refine va_copyL hx hb (by rw [hml]; exact hl.1.symm) hown ml212 nAc sAc iSys hK hP (hD _ rfl) hS 43 47 1 1 rfl rfl rfl rfl hr1.1 hr2.1 hr1.2.1 (by have := run_in hz hr1; omega) (by have := run_in hy hr2; omega) (Nat.le_of_ble_eq_true rfl) (Nat.le_of_ble_eq_true rfl) dX5_copy_125 (fun H locs hP hS => ?_)
                    have hP : va_P D vwCl (kcw cI cL cS b s1 w1 m1 n1 s2 w2 m2 n2 s3 w3 m3 n3 ik bt ln tk sb en nm bits size (va_up num 3 (va_cpy (num 1) (num 3) (ix x1) (ix x3) (ix x4))) fnd) H := hP
                    refine lv_iload hx hb dX5_copy_128 (lv_at hl 7 rfl) ?_
                    exact W.iret hx hb hr (fun t ht hW => ⟨⟨_, ((va_up num 3 (va_cpy (num 1) (num 3) (ix x1) (ix x3) (ix x4))), fnd), rfl, (by exact ((iF_t ⟨hs, htt⟩).trans ((iF_f (fun h => h.elim c_110b c_113b)).trans ((iF_t c_114).trans (iF_t ⟨hr1, hr2⟩)))).symm), by dsimp only; rw [ht]; exact hP⟩, hS.F ht⟩) hS.2.2 dX5_copy_130
                  · skip
                    have c_118b := bI_0 c_118
                    refine lv_aload_n hx hb dX5_copy_103 rfl (lv_at hl 2 rfl) ?_
                    refine lv_ldc hx hb hown k52 dX5_copy_104 ?_
                    refine callMi (va_runV (As := [.int (-1000000001)]) (rest := []) ⟨hx, hb, hml, hown, hts⟩ (k_X5_found l D cI cL cS b s1 w1 m1 n1 s2 w2 m2 n2 s3 w3 m3 n3 ik bt ln tk sb en nm bits size num fnd (-1000000001) (va_DT (hD _ rfl) rfl) (vp_in_iff.mpr (by decide))) (cwV 1 hts gX5_copy_X5_found rfl rfl rfl (by decide +kernel) ⟨Nat.le_of_ble_eq_true rfl, Nat.le_of_ble_eq_true rfl⟩) ⟨PcR_fb, va_recv hK hP (ci := 3) (q0 := 0) rfl rfl, PcR_pre hP hK⟩ rfl rfl hl.1 rfl (lv_room (Nat.le_of_ble_eq_true rfl)) dX5_copy_106 ⟨Nat.zero_le _, Nat.zero_le _⟩) hP (hD _ rfl) hS 0 49 rfl (fun r_120 u_119 H locs hu_119 hP hS => ?_)
                    obtain ⟨hu_119r, -⟩ := hu_119
                    subst hu_119r
                    have hP : va_P D vwCl (kcw cI cL cS b s1 w1 m1 n1 s2 w2 m2 n2 s3 w3 m3 n3 ik bt ln tk sb en nm bits size num (bump fnd (-1000000001))) H := hP
                    exact W.iret hx hb hr (fun t ht hW => ⟨⟨_, (num, bump fnd (-1000000001)), rfl, (by exact ((iF_t ⟨hs, htt⟩).trans ((iF_f (fun h => h.elim c_110b c_113b)).trans ((iF_t c_114).trans (iF_f (fun h => by first | exact absurd h.1 c_118b | exact absurd c_118b h.1 | exact absurd h.2 c_118b | exact absurd c_118b h.2))))).symm), by dsimp only; rw [ht]; exact hP⟩, hS.F ht⟩) hS.2.2 dX5_copy_109
              · skip
                refine lv_aload_n hx hb dX5_copy_73 rfl (lv_at hl 2 rfl) ?_
                refine lv_ldc hx hb hown k144 dX5_copy_74 ?_
                refine callMi (va_runV (As := [.int (-1000000003)]) (rest := []) ⟨hx, hb, hml, hown, hts⟩ (k_X5_found l D cI cL cS b s1 w1 m1 n1 s2 w2 m2 n2 s3 w3 m3 n3 ik bt ln tk sb en nm bits size num fnd (-1000000003) (va_DT (hD _ rfl) rfl) (vp_in_iff.mpr (by decide))) (cwV 1 hts gX5_copy_X5_found rfl rfl rfl (by decide +kernel) ⟨Nat.le_of_ble_eq_true rfl, Nat.le_of_ble_eq_true rfl⟩) ⟨PcR_fb, va_recv hK hP (ci := 3) (q0 := 0) rfl rfl, PcR_pre hP hK⟩ rfl rfl hl.1 rfl (lv_room (Nat.le_of_ble_eq_true rfl)) dX5_copy_76 ⟨Nat.zero_le _, Nat.zero_le _⟩) hP (hD _ rfl) hS 0 49 rfl (fun r_122 u_121 H locs hu_121 hP hS => ?_)
                obtain ⟨hu_121r, -⟩ := hu_121
                subst hu_121r
                have hP : va_P D vwCl (kcw cI cL cS b s1 w1 m1 n1 s2 w2 m2 n2 s3 w3 m3 n3 ik bt ln tk sb en nm bits size num (bump fnd (-1000000003))) H := hP
                exact W.iret hx hb hr (fun t ht hW => ⟨⟨_, (num, bump fnd (-1000000003)), rfl, (by exact ((iF_t ⟨hs, htt⟩).trans ((iF_f (fun h => h.elim c_110b c_113b)).trans (iF_f c_114))).symm), by dsimp only; rw [ht]; exact hP⟩, hS.F ht⟩) hS.2.2 dX5_copy_79
            · skip
              have c_113b := bI_n c_113
              refine lv_aload_n hx hb dX5_copy_53 rfl (lv_at hl 2 rfl) ?_
              refine lv_ldc hx hb hown k196 dX5_copy_54 ?_
              refine callMi (va_runV (As := [.int (-1000000006)]) (rest := []) ⟨hx, hb, hml, hown, hts⟩ (k_X5_found l D cI cL cS b s1 w1 m1 n1 s2 w2 m2 n2 s3 w3 m3 n3 ik bt ln tk sb en nm bits size num fnd (-1000000006) (va_DT (hD _ rfl) rfl) (vp_in_iff.mpr (by decide))) (cwV 1 hts gX5_copy_X5_found rfl rfl rfl (by decide +kernel) ⟨Nat.le_of_ble_eq_true rfl, Nat.le_of_ble_eq_true rfl⟩) ⟨PcR_fb, va_recv hK hP (ci := 3) (q0 := 0) rfl rfl, PcR_pre hP hK⟩ rfl rfl hl.1 rfl (lv_room (Nat.le_of_ble_eq_true rfl)) dX5_copy_56 ⟨Nat.zero_le _, Nat.zero_le _⟩) hP (hD _ rfl) hS 0 49 rfl (fun r_124 u_123 H locs hu_123 hP hS => ?_)
              obtain ⟨hu_123r, -⟩ := hu_123
              subst hu_123r
              have hP : va_P D vwCl (kcw cI cL cS b s1 w1 m1 n1 s2 w2 m2 n2 s3 w3 m3 n3 ik bt ln tk sb en nm bits size num (bump fnd (-1000000006))) H := hP
              exact W.iret hx hb hr (fun t ht hW => ⟨⟨_, (num, bump fnd (-1000000006)), rfl, (by exact ((iF_t ⟨hs, htt⟩).trans (iF_t (Or.inr c_113b))).symm), by dsimp only; rw [ht]; exact hP⟩, hS.F ht⟩) hS.2.2 dX5_copy_59
      · skip
        rcases in4 htt with rfl | rfl | rfl | rfl
        · skip
          have hz := (oh 2 (by decide)).1
          have hy := (oh 0 (by decide)).1
          refine lv_aload_n hx hb dX5_copy_21 rfl (lv_at hl 0 rfl) ?_
          refine va_get (ci := 3) (v := .ref (b 6 0)) (C := RX5) (T := TX5) (N := 7) hx hb hts inX5 hown hK hP 0 rfl rfl 5 (by decide) f35 (fun _ h9 => h9) rfl dX5_copy_22 ?_
          refine lv_iload_n hx hb dX5_copy_25 rfl (lv_at hl 1 rfl) ?_
          refine va_aldq (f := fun s => some (b 7 s)) hx hb hK hP 39 2 rfl rfl (vp_in_iff.mpr (by decide)) dX5_copy_26 ?_
          refine W.eq (g2 := F0 m 27 ls [.ref (b 7 2)]) rfl ?_
          refine lv_astore (lv' := [(6, .ref (b 7 2)), (0, .ref (b 0 0)), (1, .int 2), (2, .int x1), (3, .int 0), (4, .int x3), (5, .int x4)]) hx hb dX5_copy_27 hl (by decide) rfl (fun ls hl => ?_)
          refine lv_aload_n hx hb dX5_copy_29 rfl (lv_at hl 1 rfl) ?_
          refine va_get (ci := 3) (v := .ref (b 6 0)) (C := RX5) (T := TX5) (N := 7) hx hb hts inX5 hown hK hP 0 rfl rfl 5 (by decide) f35 (fun _ h9 => h9) rfl dX5_copy_30 ?_
          refine lv_iload_n hx hb dX5_copy_33 rfl (lv_at hl 4 rfl) ?_
          refine va_aldq (f := fun s => some (b 7 s)) hx hb hK hP 39 2 rfl rfl (vp_in_iff.mpr (by decide)) dX5_copy_34 ?_
          refine W.eq (g2 := F0 m 35 ls [.ref (b 7 0)]) rfl ?_
          refine lv_astore (lv' := [(7, .ref (b 7 0)), (6, .ref (b 7 2)), (0, .ref (b 0 0)), (1, .int 2), (2, .int x1), (3, .int 0), (4, .int x3), (5, .int x4)]) hx hb dX5_copy_35 hl (by decide) rfl (fun ls hl => ?_)
          refine lv_aload hx hb dX5_copy_37 (lv_at hl 1 rfl) ?_
          refine callE (W.runV (As := []) (rest := []) ⟨hx, hb, hml, hown, hts⟩ (k_X2_isMissing l D cI cL cS (b 7 2) (b 8 2) (bits 2) (size 2) (num 2)) (cwV 0 hts gX5_copy_X2_isMissing rfl rfl rfl (by decide +kernel) ⟨Nat.le_of_ble_eq_true rfl, Nat.le_of_ble_eq_true rfl⟩) ⟨PcR_fb, va_recv hK hP (ci := 0) (q0 := 44) rfl rfl, PcR_pre (va_seg hP 44 2 rfl) hK⟩ rfl rfl hl.1 rfl (lv_room (Nat.le_of_ble_eq_true rfl)) dX5_copy_39 ⟨Nat.zero_le _, Nat.zero_le _⟩) ?_
          refine lv_if_ne (tgt := 53) hx hb dX5_copy_42 (by decide) (fun c_125 => ?_) (fun c_125 => ?_)
          · skip
            have c_125b := bI_n c_125
            refine lv_aload_n hx hb dX5_copy_53 rfl (lv_at hl 2 rfl) ?_
            refine lv_ldc hx hb hown k196 dX5_copy_54 ?_
            refine callMi (va_runV (As := [.int (-1000000006)]) (rest := []) ⟨hx, hb, hml, hown, hts⟩ (k_X5_found l D cI cL cS b s1 w1 m1 n1 s2 w2 m2 n2 s3 w3 m3 n3 ik bt ln tk sb en nm bits size num fnd (-1000000006) (va_DT (hD _ rfl) rfl) (vp_in_iff.mpr (by decide))) (cwV 1 hts gX5_copy_X5_found rfl rfl rfl (by decide +kernel) ⟨Nat.le_of_ble_eq_true rfl, Nat.le_of_ble_eq_true rfl⟩) ⟨PcR_fb, va_recv hK hP (ci := 3) (q0 := 0) rfl rfl, PcR_pre hP hK⟩ rfl rfl hl.1 rfl (lv_room (Nat.le_of_ble_eq_true rfl)) dX5_copy_56 ⟨Nat.zero_le _, Nat.zero_le _⟩) hP (hD _ rfl) hS 0 49 rfl (fun r_127 u_126 H locs hu_126 hP hS => ?_)
            obtain ⟨hu_126r, -⟩ := hu_126
            subst hu_126r
            have hP : va_P D vwCl (kcw cI cL cS b s1 w1 m1 n1 s2 w2 m2 n2 s3 w3 m3 n3 ik bt ln tk sb en nm bits size num (bump fnd (-1000000006))) H := hP
            exact W.iret hx hb hr (fun t ht hW => ⟨⟨_, (num, bump fnd (-1000000006)), rfl, (by exact ((iF_t ⟨hs, htt⟩).trans (iF_t (Or.inl c_125b))).symm), by dsimp only; rw [ht]; exact hP⟩, hS.F ht⟩) hS.2.2 dX5_copy_59
          · skip
            have c_125b := bI_0 c_125
            refine lv_aload hx hb dX5_copy_45 (lv_at hl 0 rfl) ?_
            refine callE (W.runV (As := []) (rest := []) ⟨hx, hb, hml, hown, hts⟩ (k_X2_isMissing l D cI cL cS (b 7 0) (b 8 0) (bits 0) (size 0) (num 0)) (cwV 0 hts gX5_copy_X2_isMissing rfl rfl rfl (by decide +kernel) ⟨Nat.le_of_ble_eq_true rfl, Nat.le_of_ble_eq_true rfl⟩) ⟨PcR_fb, va_recv hK hP (ci := 0) (q0 := 40) rfl rfl, PcR_pre (va_seg hP 40 2 rfl) hK⟩ rfl rfl hl.1 rfl (lv_room (Nat.le_of_ble_eq_true rfl)) dX5_copy_47 ⟨Nat.zero_le _, Nat.zero_le _⟩) ?_
            refine lv_if_eq (tgt := 60) hx hb dX5_copy_50 (by decide) (fun c_128 => ?_) (fun c_128 => ?_)
            · skip
              have c_128b := bI_0 c_128
              refine lv_aload hx hb dX5_copy_60 (lv_at hl 1 rfl) ?_
              refine va_get (ci := 0) (v := .int (bits 2)) (C := RX2) (T := TX2) (N := 3) hx hb hts inX2 hown hK hP 44 rfl rfl 0 (by decide) f206 (fun _ h9 => h9) rfl dX5_copy_62 ?_
              refine lv_aload hx hb dX5_copy_65 (lv_at hl 0 rfl) ?_
              refine va_get (ci := 0) (v := .int (bits 0)) (C := RX2) (T := TX2) (N := 3) hx hb hts inX2 hown hK hP 40 rfl rfl 0 (by decide) f206 (fun _ h9 => h9) rfl dX5_copy_67 ?_
              refine lv_icmp_eq (tgt := 80) hx hb dX5_copy_70 (by decide) (fun c_129 => ?_) (fun c_129 => ?_)
              · skip
                refine lv_aload hx hb dX5_copy_80 (lv_at hl 1 rfl) ?_
                refine lv_iload_n hx hb dX5_copy_82 rfl (lv_at hl 4 rfl) ?_
                refine lv_iload hx hb dX5_copy_83 (lv_at hl 7 rfl) ?_
                refine callE (W.runV (As := [.int x1, .int x4]) (rest := []) ⟨hx, hb, hml, hown, hts⟩ (k_X2_hasRun l D cI cL cS (b 7 2) (b 8 2) (bits 2) (size 2) (num 2) x1 x4) (cwV 2 hts gX5_copy_X2_hasRun rfl rfl rfl (by decide +kernel) ⟨Nat.le_of_ble_eq_true rfl, Nat.le_of_ble_eq_true rfl⟩) ⟨PcR_fb, va_recv hK hP (ci := 0) (q0 := 44) rfl rfl, PcR_pre (va_seg hP 44 2 rfl) hK⟩ rfl rfl hl.1 rfl (lv_room (Nat.le_of_ble_eq_true rfl)) dX5_copy_85 ⟨Nat.zero_le _, Nat.zero_le _⟩) ?_
                refine lv_if_eq (tgt := 103) hx hb dX5_copy_88 (by decide) (fun c_130 => ?_) (fun c_130 => ?_)
                · skip
                  have c_130b := bI_0 c_130
                  refine lv_aload_n hx hb dX5_copy_103 rfl (lv_at hl 2 rfl) ?_
                  refine lv_ldc hx hb hown k52 dX5_copy_104 ?_
                  refine callMi (va_runV (As := [.int (-1000000001)]) (rest := []) ⟨hx, hb, hml, hown, hts⟩ (k_X5_found l D cI cL cS b s1 w1 m1 n1 s2 w2 m2 n2 s3 w3 m3 n3 ik bt ln tk sb en nm bits size num fnd (-1000000001) (va_DT (hD _ rfl) rfl) (vp_in_iff.mpr (by decide))) (cwV 1 hts gX5_copy_X5_found rfl rfl rfl (by decide +kernel) ⟨Nat.le_of_ble_eq_true rfl, Nat.le_of_ble_eq_true rfl⟩) ⟨PcR_fb, va_recv hK hP (ci := 3) (q0 := 0) rfl rfl, PcR_pre hP hK⟩ rfl rfl hl.1 rfl (lv_room (Nat.le_of_ble_eq_true rfl)) dX5_copy_106 ⟨Nat.zero_le _, Nat.zero_le _⟩) hP (hD _ rfl) hS 0 49 rfl (fun r_132 u_131 H locs hu_131 hP hS => ?_)
                  obtain ⟨hu_131r, -⟩ := hu_131
                  subst hu_131r
                  have hP : va_P D vwCl (kcw cI cL cS b s1 w1 m1 n1 s2 w2 m2 n2 s3 w3 m3 n3 ik bt ln tk sb en nm bits size num (bump fnd (-1000000001))) H := hP
                  exact W.iret hx hb hr (fun t ht hW => ⟨⟨_, (num, bump fnd (-1000000001)), rfl, (by exact ((iF_t ⟨hs, htt⟩).trans ((iF_f (fun h => h.elim c_125b c_128b)).trans ((iF_t c_129).trans (iF_f (fun h => by first | exact absurd h.1 c_130b | exact absurd c_130b h.1 | exact absurd h.2 c_130b | exact absurd c_130b h.2))))).symm), by dsimp only; rw [ht]; exact hP⟩, hS.F ht⟩) hS.2.2 dX5_copy_109
                · skip
                  have c_130b := bI_n c_130
                  have hr1 := c_130b
                  refine lv_aload hx hb dX5_copy_91 (lv_at hl 0 rfl) ?_
                  refine lv_iload hx hb dX5_copy_93 (lv_at hl 6 rfl) ?_
                  refine lv_iload hx hb dX5_copy_95 (lv_at hl 7 rfl) ?_
                  refine callE (W.runV (As := [.int x3, .int x4]) (rest := []) ⟨hx, hb, hml, hown, hts⟩ (k_X2_hasRun l D cI cL cS (b 7 0) (b 8 0) (bits 0) (size 0) (num 0) x3 x4) (cwV 2 hts gX5_copy_X2_hasRun rfl rfl rfl (by decide +kernel) ⟨Nat.le_of_ble_eq_true rfl, Nat.le_of_ble_eq_true rfl⟩) ⟨PcR_fb, va_recv hK hP (ci := 0) (q0 := 40) rfl rfl, PcR_pre (va_seg hP 40 2 rfl) hK⟩ rfl rfl hl.1 rfl (lv_room (Nat.le_of_ble_eq_true rfl)) dX5_copy_97 ⟨Nat.zero_le _, Nat.zero_le _⟩) ?_
                  refine lv_if_ne (tgt := 110) hx hb dX5_copy_100 (by decide) (fun c_133 => ?_) (fun c_133 => ?_)
                  · skip
                    have c_133b := bI_n c_133
                    have hr2 := c_133b
                    refine lv_aload hx hb dX5_copy_110 (lv_at hl 1 rfl) ?_
                    refine va_get (ci := 0) (v := .ref (b 8 2)) (C := RX2) (T := TX2) (N := 3) hx hb hts inX2 hown hK hP 44 rfl rfl 2 (by decide) f198 (fun _ h9 => h9) rfl dX5_copy_112 ?_
                    refine lv_iload_n hx hb dX5_copy_115 rfl (lv_at hl 4 rfl) ?_
                    refine lv_aload hx hb dX5_copy_116 (lv_at hl 0 rfl) ?_
                    refine va_get (ci := 0) (v := .ref (b 8 0)) (C := RX2) (T := TX2) (N := 3) hx hb hts inX2 hown hK hP 40 rfl rfl 2 (by decide) f198 (fun _ h9 => h9) rfl dX5_copy_118 ?_
                    refine lv_iload hx hb dX5_copy_121 (lv_at hl 6 rfl) ?_
                    refine lv_iload hx hb dX5_copy_123 (lv_at hl 7 rfl) ?_
                    refine va_copyL hx hb (by rw [hml]; exact hl.1.symm) hown ml212 nAc sAc iSys hK hP (hD _ rfl) hS 45 41 1 1 rfl rfl rfl rfl hr1.1 hr2.1 hr1.2.1 (by have := run_in hz hr1; omega) (by have := run_in hy hr2; omega) (Nat.le_of_ble_eq_true rfl) (Nat.le_of_ble_eq_true rfl) dX5_copy_125 (fun H locs hP hS => ?_)
                    have hP : va_P D vwCl (kcw cI cL cS b s1 w1 m1 n1 s2 w2 m2 n2 s3 w3 m3 n3 ik bt ln tk sb en nm bits size (va_up num 0 (va_cpy (num 2) (num 0) (ix x1) (ix x3) (ix x4))) fnd) H := hP
                    refine lv_iload hx hb dX5_copy_128 (lv_at hl 7 rfl) ?_
                    exact W.iret hx hb hr (fun t ht hW => ⟨⟨_, ((va_up num 0 (va_cpy (num 2) (num 0) (ix x1) (ix x3) (ix x4))), fnd), rfl, (by exact ((iF_t ⟨hs, htt⟩).trans ((iF_f (fun h => h.elim c_125b c_128b)).trans ((iF_t c_129).trans (iF_t ⟨hr1, hr2⟩)))).symm), by dsimp only; rw [ht]; exact hP⟩, hS.F ht⟩) hS.2.2 dX5_copy_130
                  · skip
                    have c_133b := bI_0 c_133
                    refine lv_aload_n hx hb dX5_copy_103 rfl (lv_at hl 2 rfl) ?_
                    refine lv_ldc hx hb hown k52 dX5_copy_104 ?_
                    refine callMi (va_runV (As := [.int (-1000000001)]) (rest := []) ⟨hx, hb, hml, hown, hts⟩ (k_X5_found l D cI cL cS b s1 w1 m1 n1 s2 w2 m2 n2 s3 w3 m3 n3 ik bt ln tk sb en nm bits size num fnd (-1000000001) (va_DT (hD _ rfl) rfl) (vp_in_iff.mpr (by decide))) (cwV 1 hts gX5_copy_X5_found rfl rfl rfl (by decide +kernel) ⟨Nat.le_of_ble_eq_true rfl, Nat.le_of_ble_eq_true rfl⟩) ⟨PcR_fb, va_recv hK hP (ci := 3) (q0 := 0) rfl rfl, PcR_pre hP hK⟩ rfl rfl hl.1 rfl (lv_room (Nat.le_of_ble_eq_true rfl)) dX5_copy_106 ⟨Nat.zero_le _, Nat.zero_le _⟩) hP (hD _ rfl) hS 0 49 rfl (fun r_135 u_134 H locs hu_134 hP hS => ?_)
                    obtain ⟨hu_134r, -⟩ := hu_134
                    subst hu_134r
                    have hP : va_P D vwCl (kcw cI cL cS b s1 w1 m1 n1 s2 w2 m2 n2 s3 w3 m3 n3 ik bt ln tk sb en nm bits size num (bump fnd (-1000000001))) H := hP
                    exact W.iret hx hb hr (fun t ht hW => ⟨⟨_, (num, bump fnd (-1000000001)), rfl, (by exact ((iF_t ⟨hs, htt⟩).trans ((iF_f (fun h => h.elim c_125b c_128b)).trans ((iF_t c_129).trans (iF_f (fun h => by first | exact absurd h.1 c_133b | exact absurd c_133b h.1 | exact absurd h.2 c_133b | exact absurd c_133b h.2))))).symm), by dsimp only; rw [ht]; exact hP⟩, hS.F ht⟩) hS.2.2 dX5_copy_109
              · skip
                refine lv_aload_n hx hb dX5_copy_73 rfl (lv_at hl 2 rfl) ?_
                refine lv_ldc hx hb hown k144 dX5_copy_74 ?_
                refine callMi (va_runV (As := [.int (-1000000003)]) (rest := []) ⟨hx, hb, hml, hown, hts⟩ (k_X5_found l D cI cL cS b s1 w1 m1 n1 s2 w2 m2 n2 s3 w3 m3 n3 ik bt ln tk sb en nm bits size num fnd (-1000000003) (va_DT (hD _ rfl) rfl) (vp_in_iff.mpr (by decide))) (cwV 1 hts gX5_copy_X5_found rfl rfl rfl (by decide +kernel) ⟨Nat.le_of_ble_eq_true rfl, Nat.le_of_ble_eq_true rfl⟩) ⟨PcR_fb, va_recv hK hP (ci := 3) (q0 := 0) rfl rfl, PcR_pre hP hK⟩ rfl rfl hl.1 rfl (lv_room (Nat.le_of_ble_eq_true rfl)) dX5_copy_76 ⟨Nat.zero_le _, Nat.zero_le _⟩) hP (hD _ rfl) hS 0 49 rfl (fun r_137 u_136 H locs hu_136 hP hS => ?_)
                obtain ⟨hu_136r, -⟩ := hu_136
                subst hu_136r
                have hP : va_P D vwCl (kcw cI cL cS b s1 w1 m1 n1 s2 w2 m2 n2 s3 w3 m3 n3 ik bt ln tk sb en nm bits size num (bump fnd (-1000000003))) H := hP
                exact W.iret hx hb hr (fun t ht hW => ⟨⟨_, (num, bump fnd (-1000000003)), rfl, (by exact ((iF_t ⟨hs, htt⟩).trans ((iF_f (fun h => h.elim c_125b c_128b)).trans (iF_f c_129))).symm), by dsimp only; rw [ht]; exact hP⟩, hS.F ht⟩) hS.2.2 dX5_copy_79
            · skip
              have c_128b := bI_n c_128
              refine lv_aload_n hx hb dX5_copy_53 rfl (lv_at hl 2 rfl) ?_
              refine lv_ldc hx hb hown k196 dX5_copy_54 ?_
              refine callMi (va_runV (As := [.int (-1000000006)]) (rest := []) ⟨hx, hb, hml, hown, hts⟩ (k_X5_found l D cI cL cS b s1 w1 m1 n1 s2 w2 m2 n2 s3 w3 m3 n3 ik bt ln tk sb en nm bits size num fnd (-1000000006) (va_DT (hD _ rfl) rfl) (vp_in_iff.mpr (by decide))) (cwV 1 hts gX5_copy_X5_found rfl rfl rfl (by decide +kernel) ⟨Nat.le_of_ble_eq_true rfl, Nat.le_of_ble_eq_true rfl⟩) ⟨PcR_fb, va_recv hK hP (ci := 3) (q0 := 0) rfl rfl, PcR_pre hP hK⟩ rfl rfl hl.1 rfl (lv_room (Nat.le_of_ble_eq_true rfl)) dX5_copy_56 ⟨Nat.zero_le _, Nat.zero_le _⟩) hP (hD _ rfl) hS 0 49 rfl (fun r_139 u_138 H locs hu_138 hP hS => ?_)
              obtain ⟨hu_138r, -⟩ := hu_138
              subst hu_138r
              have hP : va_P D vwCl (kcw cI cL cS b s1 w1 m1 n1 s2 w2 m2 n2 s3 w3 m3 n3 ik bt ln tk sb en nm bits size num (bump fnd (-1000000006))) H := hP
              exact W.iret hx hb hr (fun t ht hW => ⟨⟨_, (num, bump fnd (-1000000006)), rfl, (by exact ((iF_t ⟨hs, htt⟩).trans (iF_t (Or.inr c_128b))).symm), by dsimp only; rw [ht]; exact hP⟩, hS.F ht⟩) hS.2.2 dX5_copy_59
        · skip
          have hz := (oh 2 (by decide)).1
          have hy := (oh 1 (by decide)).1
          refine lv_aload_n hx hb dX5_copy_21 rfl (lv_at hl 0 rfl) ?_
          refine va_get (ci := 3) (v := .ref (b 6 0)) (C := RX5) (T := TX5) (N := 7) hx hb hts inX5 hown hK hP 0 rfl rfl 5 (by decide) f35 (fun _ h9 => h9) rfl dX5_copy_22 ?_
          refine lv_iload_n hx hb dX5_copy_25 rfl (lv_at hl 1 rfl) ?_
          refine va_aldq (f := fun s => some (b 7 s)) hx hb hK hP 39 2 rfl rfl (vp_in_iff.mpr (by decide)) dX5_copy_26 ?_
          refine W.eq (g2 := F0 m 27 ls [.ref (b 7 2)]) rfl ?_
          refine lv_astore (lv' := [(6, .ref (b 7 2)), (0, .ref (b 0 0)), (1, .int 2), (2, .int x1), (3, .int 1), (4, .int x3), (5, .int x4)]) hx hb dX5_copy_27 hl (by decide) rfl (fun ls hl => ?_)
          refine lv_aload_n hx hb dX5_copy_29 rfl (lv_at hl 1 rfl) ?_
          refine va_get (ci := 3) (v := .ref (b 6 0)) (C := RX5) (T := TX5) (N := 7) hx hb hts inX5 hown hK hP 0 rfl rfl 5 (by decide) f35 (fun _ h9 => h9) rfl dX5_copy_30 ?_
          refine lv_iload_n hx hb dX5_copy_33 rfl (lv_at hl 4 rfl) ?_
          refine va_aldq (f := fun s => some (b 7 s)) hx hb hK hP 39 2 rfl rfl (vp_in_iff.mpr (by decide)) dX5_copy_34 ?_
          refine W.eq (g2 := F0 m 35 ls [.ref (b 7 1)]) rfl ?_
          refine lv_astore (lv' := [(7, .ref (b 7 1)), (6, .ref (b 7 2)), (0, .ref (b 0 0)), (1, .int 2), (2, .int x1), (3, .int 1), (4, .int x3), (5, .int x4)]) hx hb dX5_copy_35 hl (by decide) rfl (fun ls hl => ?_)
          refine lv_aload hx hb dX5_copy_37 (lv_at hl 1 rfl) ?_
          refine callE (W.runV (As := []) (rest := []) ⟨hx, hb, hml, hown, hts⟩ (k_X2_isMissing l D cI cL cS (b 7 2) (b 8 2) (bits 2) (size 2) (num 2)) (cwV 0 hts gX5_copy_X2_isMissing rfl rfl rfl (by decide +kernel) ⟨Nat.le_of_ble_eq_true rfl, Nat.le_of_ble_eq_true rfl⟩) ⟨PcR_fb, va_recv hK hP (ci := 0) (q0 := 44) rfl rfl, PcR_pre (va_seg hP 44 2 rfl) hK⟩ rfl rfl hl.1 rfl (lv_room (Nat.le_of_ble_eq_true rfl)) dX5_copy_39 ⟨Nat.zero_le _, Nat.zero_le _⟩) ?_
          refine lv_if_ne (tgt := 53) hx hb dX5_copy_42 (by decide) (fun c_140 => ?_) (fun c_140 => ?_)
          · skip
            have c_140b := bI_n c_140
            refine lv_aload_n hx hb dX5_copy_53 rfl (lv_at hl 2 rfl) ?_
            refine lv_ldc hx hb hown k196 dX5_copy_54 ?_
            refine callMi (va_runV (As := [.int (-1000000006)]) (rest := []) ⟨hx, hb, hml, hown, hts⟩ (k_X5_found l D cI cL cS b s1 w1 m1 n1 s2 w2 m2 n2 s3 w3 m3 n3 ik bt ln tk sb en nm bits size num fnd (-1000000006) (va_DT (hD _ rfl) rfl) (vp_in_iff.mpr (by decide))) (cwV 1 hts gX5_copy_X5_found rfl rfl rfl (by decide +kernel) ⟨Nat.le_of_ble_eq_true rfl, Nat.le_of_ble_eq_true rfl⟩) ⟨PcR_fb, va_recv hK hP (ci := 3) (q0 := 0) rfl rfl, PcR_pre hP hK⟩ rfl rfl hl.1 rfl (lv_room (Nat.le_of_ble_eq_true rfl)) dX5_copy_56 ⟨Nat.zero_le _, Nat.zero_le _⟩) hP (hD _ rfl) hS 0 49 rfl (fun r_142 u_141 H locs hu_141 hP hS => ?_)
            obtain ⟨hu_141r, -⟩ := hu_141
            subst hu_141r
            have hP : va_P D vwCl (kcw cI cL cS b s1 w1 m1 n1 s2 w2 m2 n2 s3 w3 m3 n3 ik bt ln tk sb en nm bits size num (bump fnd (-1000000006))) H := hP
            exact W.iret hx hb hr (fun t ht hW => ⟨⟨_, (num, bump fnd (-1000000006)), rfl, (by exact ((iF_t ⟨hs, htt⟩).trans (iF_t (Or.inl c_140b))).symm), by dsimp only; rw [ht]; exact hP⟩, hS.F ht⟩) hS.2.2 dX5_copy_59
          · skip
            have c_140b := bI_0 c_140
            refine lv_aload hx hb dX5_copy_45 (lv_at hl 0 rfl) ?_
            refine callE (W.runV (As := []) (rest := []) ⟨hx, hb, hml, hown, hts⟩ (k_X2_isMissing l D cI cL cS (b 7 1) (b 8 1) (bits 1) (size 1) (num 1)) (cwV 0 hts gX5_copy_X2_isMissing rfl rfl rfl (by decide +kernel) ⟨Nat.le_of_ble_eq_true rfl, Nat.le_of_ble_eq_true rfl⟩) ⟨PcR_fb, va_recv hK hP (ci := 0) (q0 := 42) rfl rfl, PcR_pre (va_seg hP 42 2 rfl) hK⟩ rfl rfl hl.1 rfl (lv_room (Nat.le_of_ble_eq_true rfl)) dX5_copy_47 ⟨Nat.zero_le _, Nat.zero_le _⟩) ?_
            refine lv_if_eq (tgt := 60) hx hb dX5_copy_50 (by decide) (fun c_143 => ?_) (fun c_143 => ?_)
            · skip
              have c_143b := bI_0 c_143
              refine lv_aload hx hb dX5_copy_60 (lv_at hl 1 rfl) ?_
              refine va_get (ci := 0) (v := .int (bits 2)) (C := RX2) (T := TX2) (N := 3) hx hb hts inX2 hown hK hP 44 rfl rfl 0 (by decide) f206 (fun _ h9 => h9) rfl dX5_copy_62 ?_
              refine lv_aload hx hb dX5_copy_65 (lv_at hl 0 rfl) ?_
              refine va_get (ci := 0) (v := .int (bits 1)) (C := RX2) (T := TX2) (N := 3) hx hb hts inX2 hown hK hP 42 rfl rfl 0 (by decide) f206 (fun _ h9 => h9) rfl dX5_copy_67 ?_
              refine lv_icmp_eq (tgt := 80) hx hb dX5_copy_70 (by decide) (fun c_144 => ?_) (fun c_144 => ?_)
              · skip
                refine lv_aload hx hb dX5_copy_80 (lv_at hl 1 rfl) ?_
                refine lv_iload_n hx hb dX5_copy_82 rfl (lv_at hl 4 rfl) ?_
                refine lv_iload hx hb dX5_copy_83 (lv_at hl 7 rfl) ?_
                refine callE (W.runV (As := [.int x1, .int x4]) (rest := []) ⟨hx, hb, hml, hown, hts⟩ (k_X2_hasRun l D cI cL cS (b 7 2) (b 8 2) (bits 2) (size 2) (num 2) x1 x4) (cwV 2 hts gX5_copy_X2_hasRun rfl rfl rfl (by decide +kernel) ⟨Nat.le_of_ble_eq_true rfl, Nat.le_of_ble_eq_true rfl⟩) ⟨PcR_fb, va_recv hK hP (ci := 0) (q0 := 44) rfl rfl, PcR_pre (va_seg hP 44 2 rfl) hK⟩ rfl rfl hl.1 rfl (lv_room (Nat.le_of_ble_eq_true rfl)) dX5_copy_85 ⟨Nat.zero_le _, Nat.zero_le _⟩) ?_
                refine lv_if_eq (tgt := 103) hx hb dX5_copy_88 (by decide) (fun c_145 => ?_) (fun c_145 => ?_)
                · skip
                  have c_145b := bI_0 c_145
                  refine lv_aload_n hx hb dX5_copy_103 rfl (lv_at hl 2 rfl) ?_
                  refine lv_ldc hx hb hown k52 dX5_copy_104 ?_
                  refine callMi (va_runV (As := [.int (-1000000001)]) (rest := []) ⟨hx, hb, hml, hown, hts⟩ (k_X5_found l D cI cL cS b s1 w1 m1 n1 s2 w2 m2 n2 s3 w3 m3 n3 ik bt ln tk sb en nm bits size num fnd (-1000000001) (va_DT (hD _ rfl) rfl) (vp_in_iff.mpr (by decide))) (cwV 1 hts gX5_copy_X5_found rfl rfl rfl (by decide +kernel) ⟨Nat.le_of_ble_eq_true rfl, Nat.le_of_ble_eq_true rfl⟩) ⟨PcR_fb, va_recv hK hP (ci := 3) (q0 := 0) rfl rfl, PcR_pre hP hK⟩ rfl rfl hl.1 rfl (lv_room (Nat.le_of_ble_eq_true rfl)) dX5_copy_106 ⟨Nat.zero_le _, Nat.zero_le _⟩) hP (hD _ rfl) hS 0 49 rfl (fun r_147 u_146 H locs hu_146 hP hS => ?_)
                  obtain ⟨hu_146r, -⟩ := hu_146
                  subst hu_146r
                  have hP : va_P D vwCl (kcw cI cL cS b s1 w1 m1 n1 s2 w2 m2 n2 s3 w3 m3 n3 ik bt ln tk sb en nm bits size num (bump fnd (-1000000001))) H := hP
                  exact W.iret hx hb hr (fun t ht hW => ⟨⟨_, (num, bump fnd (-1000000001)), rfl, (by exact ((iF_t ⟨hs, htt⟩).trans ((iF_f (fun h => h.elim c_140b c_143b)).trans ((iF_t c_144).trans (iF_f (fun h => by first | exact absurd h.1 c_145b | exact absurd c_145b h.1 | exact absurd h.2 c_145b | exact absurd c_145b h.2))))).symm), by dsimp only; rw [ht]; exact hP⟩, hS.F ht⟩) hS.2.2 dX5_copy_109
                · skip
                  have c_145b := bI_n c_145
                  have hr1 := c_145b
                  refine lv_aload hx hb dX5_copy_91 (lv_at hl 0 rfl) ?_
                  refine lv_iload hx hb dX5_copy_93 (lv_at hl 6 rfl) ?_
                  refine lv_iload hx hb dX5_copy_95 (lv_at hl 7 rfl) ?_
                  refine callE (W.runV (As := [.int x3, .int x4]) (rest := []) ⟨hx, hb, hml, hown, hts⟩ (k_X2_hasRun l D cI cL cS (b 7 1) (b 8 1) (bits 1) (size 1) (num 1) x3 x4) (cwV 2 hts gX5_copy_X2_hasRun rfl rfl rfl (by decide +kernel) ⟨Nat.le_of_ble_eq_true rfl, Nat.le_of_ble_eq_true rfl⟩) ⟨PcR_fb, va_recv hK hP (ci := 0) (q0 := 42) rfl rfl, PcR_pre (va_seg hP 42 2 rfl) hK⟩ rfl rfl hl.1 rfl (lv_room (Nat.le_of_ble_eq_true rfl)) dX5_copy_97 ⟨Nat.zero_le _, Nat.zero_le _⟩) ?_
                  refine lv_if_ne (tgt := 110) hx hb dX5_copy_100 (by decide) (fun c_148 => ?_) (fun c_148 => ?_)
                  · skip
                    have c_148b := bI_n c_148
                    have hr2 := c_148b
                    refine lv_aload hx hb dX5_copy_110 (lv_at hl 1 rfl) ?_
                    refine va_get (ci := 0) (v := .ref (b 8 2)) (C := RX2) (T := TX2) (N := 3) hx hb hts inX2 hown hK hP 44 rfl rfl 2 (by decide) f198 (fun _ h9 => h9) rfl dX5_copy_112 ?_
                    refine lv_iload_n hx hb dX5_copy_115 rfl (lv_at hl 4 rfl) ?_
                    refine lv_aload hx hb dX5_copy_116 (lv_at hl 0 rfl) ?_
                    refine va_get (ci := 0) (v := .ref (b 8 1)) (C := RX2) (T := TX2) (N := 3) hx hb hts inX2 hown hK hP 42 rfl rfl 2 (by decide) f198 (fun _ h9 => h9) rfl dX5_copy_118 ?_
                    refine lv_iload hx hb dX5_copy_121 (lv_at hl 6 rfl) ?_
                    refine lv_iload hx hb dX5_copy_123 (lv_at hl 7 rfl) ?_
                    refine va_copyL hx hb (by rw [hml]; exact hl.1.symm) hown ml212 nAc sAc iSys hK hP (hD _ rfl) hS 45 43 1 1 rfl rfl rfl rfl hr1.1 hr2.1 hr1.2.1 (by have := run_in hz hr1; omega) (by have := run_in hy hr2; omega) (Nat.le_of_ble_eq_true rfl) (Nat.le_of_ble_eq_true rfl) dX5_copy_125 (fun H locs hP hS => ?_)
                    have hP : va_P D vwCl (kcw cI cL cS b s1 w1 m1 n1 s2 w2 m2 n2 s3 w3 m3 n3 ik bt ln tk sb en nm bits size (va_up num 1 (va_cpy (num 2) (num 1) (ix x1) (ix x3) (ix x4))) fnd) H := hP
                    refine lv_iload hx hb dX5_copy_128 (lv_at hl 7 rfl) ?_
                    exact W.iret hx hb hr (fun t ht hW => ⟨⟨_, ((va_up num 1 (va_cpy (num 2) (num 1) (ix x1) (ix x3) (ix x4))), fnd), rfl, (by exact ((iF_t ⟨hs, htt⟩).trans ((iF_f (fun h => h.elim c_140b c_143b)).trans ((iF_t c_144).trans (iF_t ⟨hr1, hr2⟩)))).symm), by dsimp only; rw [ht]; exact hP⟩, hS.F ht⟩) hS.2.2 dX5_copy_130
                  · skip
                    have c_148b := bI_0 c_148
                    refine lv_aload_n hx hb dX5_copy_103 rfl (lv_at hl 2 rfl) ?_
                    refine lv_ldc hx hb hown k52 dX5_copy_104 ?_
                    refine callMi (va_runV (As := [.int (-1000000001)]) (rest := []) ⟨hx, hb, hml, hown, hts⟩ (k_X5_found l D cI cL cS b s1 w1 m1 n1 s2 w2 m2 n2 s3 w3 m3 n3 ik bt ln tk sb en nm bits size num fnd (-1000000001) (va_DT (hD _ rfl) rfl) (vp_in_iff.mpr (by decide))) (cwV 1 hts gX5_copy_X5_found rfl rfl rfl (by decide +kernel) ⟨Nat.le_of_ble_eq_true rfl, Nat.le_of_ble_eq_true rfl⟩) ⟨PcR_fb, va_recv hK hP (ci := 3) (q0 := 0) rfl rfl, PcR_pre hP hK⟩ rfl rfl hl.1 rfl (lv_room (Nat.le_of_ble_eq_true rfl)) dX5_copy_106 ⟨Nat.zero_le _, Nat.zero_le _⟩) hP (hD _ rfl) hS 0 49 rfl (fun r_150 u_149 H locs hu_149 hP hS => ?_)
                    obtain ⟨hu_149r, -⟩ := hu_149
                    subst hu_149r
                    have hP : va_P D vwCl (kcw cI cL cS b s1 w1 m1 n1 s2 w2 m2 n2 s3 w3 m3 n3 ik bt ln tk sb en nm bits size num (bump fnd (-1000000001))) H := hP
                    exact W.iret hx hb hr (fun t ht hW => ⟨⟨_, (num, bump fnd (-1000000001)), rfl, (by exact ((iF_t ⟨hs, htt⟩).trans ((iF_f (fun h => h.elim c_140b c_143b)).trans ((iF_t c_144).trans (iF_f (fun h => by first | exact absurd h.1 c_148b | exact absurd c_148b h.1 | exact absurd h.2 c_148b | exact absurd c_148b h.2))))).symm), by dsimp only; rw [ht]; exact hP⟩, hS.F ht⟩) hS.2.2 dX5_copy_109
              · skip
                refine lv_aload_n hx hb dX5_copy_73 rfl (lv_at hl 2 rfl) ?_
                refine lv_ldc hx hb hown k144 dX5_copy_74 ?_
                refine callMi (va_runV (As := [.int (-1000000003)]) (rest := []) ⟨hx, hb, hml, hown, hts⟩ (k_X5_found l D cI cL cS b s1 w1 m1 n1 s2 w2 m2 n2 s3 w3 m3 n3 ik bt ln tk sb en nm bits size num fnd (-1000000003) (va_DT (hD _ rfl) rfl) (vp_in_iff.mpr (by decide))) (cwV 1 hts gX5_copy_X5_found rfl rfl rfl (by decide +kernel) ⟨Nat.le_of_ble_eq_true rfl, Nat.le_of_ble_eq_true rfl⟩) ⟨PcR_fb, va_recv hK hP (ci := 3) (q0 := 0) rfl rfl, PcR_pre hP hK⟩ rfl rfl hl.1 rfl (lv_room (Nat.le_of_ble_eq_true rfl)) dX5_copy_76 ⟨Nat.zero_le _, Nat.zero_le _⟩) hP (hD _ rfl) hS 0 49 rfl (fun r_152 u_151 H locs hu_151 hP hS => ?_)
                obtain ⟨hu_151r, -⟩ := hu_151
                subst hu_151r
                have hP : va_P D vwCl (kcw cI cL cS b s1 w1 m1 n1 s2 w2 m2 n2 s3 w3 m3 n3 ik bt ln tk sb en nm bits size num (bump fnd (-1000000003))) H := hP
                exact W.iret hx hb hr (fun t ht hW => ⟨⟨_, (num, bump fnd (-1000000003)), rfl, (by exact ((iF_t ⟨hs, htt⟩).trans ((iF_f (fun h => h.elim c_140b c_143b)).trans (iF_f c_144))).symm), by dsimp only; rw [ht]; exact hP⟩, hS.F ht⟩) hS.2.2 dX5_copy_79
            · skip
              have c_143b := bI_n c_143
              refine lv_aload_n hx hb dX5_copy_53 rfl (lv_at hl 2 rfl) ?_
              refine lv_ldc hx hb hown k196 dX5_copy_54 ?_
              refine callMi (va_runV (As := [.int (-1000000006)]) (rest := []) ⟨hx, hb, hml, hown, hts⟩ (k_X5_found l D cI cL cS b s1 w1 m1 n1 s2 w2 m2 n2 s3 w3 m3 n3 ik bt ln tk sb en nm bits size num fnd (-1000000006) (va_DT (hD _ rfl) rfl) (vp_in_iff.mpr (by decide))) (cwV 1 hts gX5_copy_X5_found rfl rfl rfl (by decide +kernel) ⟨Nat.le_of_ble_eq_true rfl, Nat.le_of_ble_eq_true rfl⟩) ⟨PcR_fb, va_recv hK hP (ci := 3) (q0 := 0) rfl rfl, PcR_pre hP hK⟩ rfl rfl hl.1 rfl (lv_room (Nat.le_of_ble_eq_true rfl)) dX5_copy_56 ⟨Nat.zero_le _, Nat.zero_le _⟩) hP (hD _ rfl) hS 0 49 rfl (fun r_154 u_153 H locs hu_153 hP hS => ?_)
              obtain ⟨hu_153r, -⟩ := hu_153
              subst hu_153r
              have hP : va_P D vwCl (kcw cI cL cS b s1 w1 m1 n1 s2 w2 m2 n2 s3 w3 m3 n3 ik bt ln tk sb en nm bits size num (bump fnd (-1000000006))) H := hP
              exact W.iret hx hb hr (fun t ht hW => ⟨⟨_, (num, bump fnd (-1000000006)), rfl, (by exact ((iF_t ⟨hs, htt⟩).trans (iF_t (Or.inr c_143b))).symm), by dsimp only; rw [ht]; exact hP⟩, hS.F ht⟩) hS.2.2 dX5_copy_59
        · skip
          have hz := (oh 2 (by decide)).1
          have hy := (oh 2 (by decide)).1
          refine lv_aload_n hx hb dX5_copy_21 rfl (lv_at hl 0 rfl) ?_
          refine va_get (ci := 3) (v := .ref (b 6 0)) (C := RX5) (T := TX5) (N := 7) hx hb hts inX5 hown hK hP 0 rfl rfl 5 (by decide) f35 (fun _ h9 => h9) rfl dX5_copy_22 ?_
          refine lv_iload_n hx hb dX5_copy_25 rfl (lv_at hl 1 rfl) ?_
          refine va_aldq (f := fun s => some (b 7 s)) hx hb hK hP 39 2 rfl rfl (vp_in_iff.mpr (by decide)) dX5_copy_26 ?_
          refine W.eq (g2 := F0 m 27 ls [.ref (b 7 2)]) rfl ?_
          refine lv_astore (lv' := [(6, .ref (b 7 2)), (0, .ref (b 0 0)), (1, .int 2), (2, .int x1), (3, .int 2), (4, .int x3), (5, .int x4)]) hx hb dX5_copy_27 hl (by decide) rfl (fun ls hl => ?_)
          refine lv_aload_n hx hb dX5_copy_29 rfl (lv_at hl 1 rfl) ?_
          refine va_get (ci := 3) (v := .ref (b 6 0)) (C := RX5) (T := TX5) (N := 7) hx hb hts inX5 hown hK hP 0 rfl rfl 5 (by decide) f35 (fun _ h9 => h9) rfl dX5_copy_30 ?_
          refine lv_iload_n hx hb dX5_copy_33 rfl (lv_at hl 4 rfl) ?_
          refine va_aldq (f := fun s => some (b 7 s)) hx hb hK hP 39 2 rfl rfl (vp_in_iff.mpr (by decide)) dX5_copy_34 ?_
          refine W.eq (g2 := F0 m 35 ls [.ref (b 7 2)]) rfl ?_
          refine lv_astore (lv' := [(7, .ref (b 7 2)), (6, .ref (b 7 2)), (0, .ref (b 0 0)), (1, .int 2), (2, .int x1), (3, .int 2), (4, .int x3), (5, .int x4)]) hx hb dX5_copy_35 hl (by decide) rfl (fun ls hl => ?_)
          refine lv_aload hx hb dX5_copy_37 (lv_at hl 1 rfl) ?_
          refine callE (W.runV (As := []) (rest := []) ⟨hx, hb, hml, hown, hts⟩ (k_X2_isMissing l D cI cL cS (b 7 2) (b 8 2) (bits 2) (size 2) (num 2)) (cwV 0 hts gX5_copy_X2_isMissing rfl rfl rfl (by decide +kernel) ⟨Nat.le_of_ble_eq_true rfl, Nat.le_of_ble_eq_true rfl⟩) ⟨PcR_fb, va_recv hK hP (ci := 0) (q0 := 44) rfl rfl, PcR_pre (va_seg hP 44 2 rfl) hK⟩ rfl rfl hl.1 rfl (lv_room (Nat.le_of_ble_eq_true rfl)) dX5_copy_39 ⟨Nat.zero_le _, Nat.zero_le _⟩) ?_
          refine lv_if_ne (tgt := 53) hx hb dX5_copy_42 (by decide) (fun c_155 => ?_) (fun c_155 => ?_)
          · skip
            have c_155b := bI_n c_155
            refine lv_aload_n hx hb dX5_copy_53 rfl (lv_at hl 2 rfl) ?_
            refine lv_ldc hx hb hown k196 dX5_copy_54 ?_
            refine callMi (va_runV (As := [.int (-1000000006)]) (rest := []) ⟨hx, hb, hml, hown, hts⟩ (k_X5_found l D cI cL cS b s1 w1 m1 n1 s2 w2 m2 n2 s3 w3 m3 n3 ik bt ln tk sb en nm bits size num fnd (-1000000006) (va_DT (hD _ rfl) rfl) (vp_in_iff.mpr (by decide))) (cwV 1 hts gX5_copy_X5_found rfl rfl rfl (by decide +kernel) ⟨Nat.le_of_ble_eq_true rfl, Nat.le_of_ble_eq_true rfl⟩) ⟨PcR_fb, va_recv hK hP (ci := 3) (q0 := 0) rfl rfl, PcR_pre hP hK⟩ rfl rfl hl.1 rfl (lv_room (Nat.le_of_ble_eq_true rfl)) dX5_copy_56 ⟨Nat.zero_le _, Nat.zero_le _⟩) hP (hD _ rfl) hS 0 49 rfl (fun r_157 u_156 H locs hu_156 hP hS => ?_)
            obtain ⟨hu_156r, -⟩ := hu_156
            subst hu_156r
            have hP : va_P D vwCl (kcw cI cL cS b s1 w1 m1 n1 s2 w2 m2 n2 s3 w3 m3 n3 ik bt ln tk sb en nm bits size num (bump fnd (-1000000006))) H := hP
            exact W.iret hx hb hr (fun t ht hW => ⟨⟨_, (num, bump fnd (-1000000006)), rfl, (by exact ((iF_t ⟨hs, htt⟩).trans (iF_t (Or.inl c_155b))).symm), by dsimp only; rw [ht]; exact hP⟩, hS.F ht⟩) hS.2.2 dX5_copy_59
          · skip
            have c_155b := bI_0 c_155
            refine lv_aload hx hb dX5_copy_45 (lv_at hl 0 rfl) ?_
            refine callE (W.runV (As := []) (rest := []) ⟨hx, hb, hml, hown, hts⟩ (k_X2_isMissing l D cI cL cS (b 7 2) (b 8 2) (bits 2) (size 2) (num 2)) (cwV 0 hts gX5_copy_X2_isMissing rfl rfl rfl (by decide +kernel) ⟨Nat.le_of_ble_eq_true rfl, Nat.le_of_ble_eq_true rfl⟩) ⟨PcR_fb, va_recv hK hP (ci := 0) (q0 := 44) rfl rfl, PcR_pre (va_seg hP 44 2 rfl) hK⟩ rfl rfl hl.1 rfl (lv_room (Nat.le_of_ble_eq_true rfl)) dX5_copy_47 ⟨Nat.zero_le _, Nat.zero_le _⟩) ?_
            refine lv_if_eq (tgt := 60) hx hb dX5_copy_50 (by decide) (fun c_158 => ?_) (fun c_158 => ?_)
            · skip
              have c_158b := bI_0 c_158
              refine lv_aload hx hb dX5_copy_60 (lv_at hl 1 rfl) ?_
              refine va_get (ci := 0) (v := .int (bits 2)) (C := RX2) (T := TX2) (N := 3) hx hb hts inX2 hown hK hP 44 rfl rfl 0 (by decide) f206 (fun _ h9 => h9) rfl dX5_copy_62 ?_
              refine lv_aload hx hb dX5_copy_65 (lv_at hl 0 rfl) ?_
              refine va_get (ci := 0) (v := .int (bits 2)) (C := RX2) (T := TX2) (N := 3) hx hb hts inX2 hown hK hP 44 rfl rfl 0 (by decide) f206 (fun _ h9 => h9) rfl dX5_copy_67 ?_
              refine lv_icmp_eq (tgt := 80) hx hb dX5_copy_70 (by decide) (fun c_159 => ?_) (fun c_159 => ?_)
              · skip
                refine lv_aload hx hb dX5_copy_80 (lv_at hl 1 rfl) ?_
                refine lv_iload_n hx hb dX5_copy_82 rfl (lv_at hl 4 rfl) ?_
                refine lv_iload hx hb dX5_copy_83 (lv_at hl 7 rfl) ?_
                refine callE (W.runV (As := [.int x1, .int x4]) (rest := []) ⟨hx, hb, hml, hown, hts⟩ (k_X2_hasRun l D cI cL cS (b 7 2) (b 8 2) (bits 2) (size 2) (num 2) x1 x4) (cwV 2 hts gX5_copy_X2_hasRun rfl rfl rfl (by decide +kernel) ⟨Nat.le_of_ble_eq_true rfl, Nat.le_of_ble_eq_true rfl⟩) ⟨PcR_fb, va_recv hK hP (ci := 0) (q0 := 44) rfl rfl, PcR_pre (va_seg hP 44 2 rfl) hK⟩ rfl rfl hl.1 rfl (lv_room (Nat.le_of_ble_eq_true rfl)) dX5_copy_85 ⟨Nat.zero_le _, Nat.zero_le _⟩) ?_
                refine lv_if_eq (tgt := 103) hx hb dX5_copy_88 (by decide) (fun c_160 => ?_) (fun c_160 => ?_)
                · skip
                  have c_160b := bI_0 c_160
                  refine lv_aload_n hx hb dX5_copy_103 rfl (lv_at hl 2 rfl) ?_
                  refine lv_ldc hx hb hown k52 dX5_copy_104 ?_
                  refine callMi (va_runV (As := [.int (-1000000001)]) (rest := []) ⟨hx, hb, hml, hown, hts⟩ (k_X5_found l D cI cL cS b s1 w1 m1 n1 s2 w2 m2 n2 s3 w3 m3 n3 ik bt ln tk sb en nm bits size num fnd (-1000000001) (va_DT (hD _ rfl) rfl) (vp_in_iff.mpr (by decide))) (cwV 1 hts gX5_copy_X5_found rfl rfl rfl (by decide +kernel) ⟨Nat.le_of_ble_eq_true rfl, Nat.le_of_ble_eq_true rfl⟩) ⟨PcR_fb, va_recv hK hP (ci := 3) (q0 := 0) rfl rfl, PcR_pre hP hK⟩ rfl rfl hl.1 rfl (lv_room (Nat.le_of_ble_eq_true rfl)) dX5_copy_106 ⟨Nat.zero_le _, Nat.zero_le _⟩) hP (hD _ rfl) hS 0 49 rfl (fun r_162 u_161 H locs hu_161 hP hS => ?_)
                  obtain ⟨hu_161r, -⟩ := hu_161
                  subst hu_161r
                  have hP : va_P D vwCl (kcw cI cL cS b s1 w1 m1 n1 s2 w2 m2 n2 s3 w3 m3 n3 ik bt ln tk sb en nm bits size num (bump fnd (-1000000001))) H := hP
                  exact W.iret hx hb hr (fun t ht hW => ⟨⟨_, (num, bump fnd (-1000000001)), rfl, (by exact ((iF_t ⟨hs, htt⟩).trans ((iF_f (fun h => h.elim c_155b c_158b)).trans ((iF_t c_159).trans (iF_f (fun h => by first | exact absurd h.1 c_160b | exact absurd c_160b h.1 | exact absurd h.2 c_160b | exact absurd c_160b h.2))))).symm), by dsimp only; rw [ht]; exact hP⟩, hS.F ht⟩) hS.2.2 dX5_copy_109
                · skip
                  have c_160b := bI_n c_160
                  have hr1 := c_160b
                  refine lv_aload hx hb dX5_copy_91 (lv_at hl 0 rfl) ?_
                  refine lv_iload hx hb dX5_copy_93 (lv_at hl 6 rfl) ?_
                  refine lv_iload hx hb dX5_copy_95 (lv_at hl 7 rfl) ?_
                  refine callE (W.runV (As := [.int x3, .int x4]) (rest := []) ⟨hx, hb, hml, hown, hts⟩ (k_X2_hasRun l D cI cL cS (b 7 2) (b 8 2) (bits 2) (size 2) (num 2) x3 x4) (cwV 2 hts gX5_copy_X2_hasRun rfl rfl rfl (by decide +kernel) ⟨Nat.le_of_ble_eq_true rfl, Nat.le_of_ble_eq_true rfl⟩) ⟨PcR_fb, va_recv hK hP (ci := 0) (q0 := 44) rfl rfl, PcR_pre (va_seg hP 44 2 rfl) hK⟩ rfl rfl hl.1 rfl (lv_room (Nat.le_of_ble_eq_true rfl)) dX5_copy_97 ⟨Nat.zero_le _, Nat.zero_le _⟩) ?_
                  refine lv_if_ne (tgt := 110) hx hb dX5_copy_100 (by decide) (fun c_163 => ?_) (fun c_163 => ?_)
                  · skip
                    have c_163b := bI_n c_163
                    have hr2 := c_163b
                    refine lv_aload hx hb dX5_copy_110 (lv_at hl 1 rfl) ?_
                    refine va_get (ci := 0) (v := .ref (b 8 2)) (C := RX2) (T := TX2) (N := 3) hx hb hts inX2 hown hK hP 44 rfl rfl 2 (by decide) f198 (fun _ h9 => h9) rfl dX5_copy_112 ?_
                    refine lv_iload_n hx hb dX5_copy_115 rfl (lv_at hl 4 rfl) ?_
                    refine lv_aload hx hb dX5_copy_116 (lv_at hl 0 rfl) ?_
                    refine va_get (ci := 0) (v := .ref (b 8 2)) (C := RX2) (T := TX2) (N := 3) hx hb hts inX2 hown hK hP 44 rfl rfl 2 (by decide) f198 (fun _ h9 => h9) rfl dX5_copy_118 ?_
                    refine lv_iload hx hb dX5_copy_121 (lv_at hl 6 rfl) ?_
                    refine lv_iload hx hb dX5_copy_123 (lv_at hl 7 rfl) ?_
                    refine va_copyL hx hb (by rw [hml]; exact hl.1.symm) hown ml212 nAc sAc iSys hK hP (hD _ rfl) hS 45 45 1 1 rfl rfl rfl rfl hr1.1 hr2.1 hr1.2.1 (by have := run_in hz hr1; omega) (by have := run_in hy hr2; omega) (Nat.le_of_ble_eq_true rfl) (Nat.le_of_ble_eq_true rfl) dX5_copy_125 (fun H locs hP hS => ?_)
                    have hP : va_P D vwCl (kcw cI cL cS b s1 w1 m1 n1 s2 w2 m2 n2 s3 w3 m3 n3 ik bt ln tk sb en nm bits size (va_up num 2 (va_cpy (num 2) (num 2) (ix x1) (ix x3) (ix x4))) fnd) H := hP
                    refine lv_iload hx hb dX5_copy_128 (lv_at hl 7 rfl) ?_
                    exact W.iret hx hb hr (fun t ht hW => ⟨⟨_, ((va_up num 2 (va_cpy (num 2) (num 2) (ix x1) (ix x3) (ix x4))), fnd), rfl, (by exact ((iF_t ⟨hs, htt⟩).trans ((iF_f (fun h => h.elim c_155b c_158b)).trans ((iF_t c_159).trans (iF_t ⟨hr1, hr2⟩)))).symm), by dsimp only; rw [ht]; exact hP⟩, hS.F ht⟩) hS.2.2 dX5_copy_130
                  · skip
                    have c_163b := bI_0 c_163
                    refine lv_aload_n hx hb dX5_copy_103 rfl (lv_at hl 2 rfl) ?_
                    refine lv_ldc hx hb hown k52 dX5_copy_104 ?_
                    refine callMi (va_runV (As := [.int (-1000000001)]) (rest := []) ⟨hx, hb, hml, hown, hts⟩ (k_X5_found l D cI cL cS b s1 w1 m1 n1 s2 w2 m2 n2 s3 w3 m3 n3 ik bt ln tk sb en nm bits size num fnd (-1000000001) (va_DT (hD _ rfl) rfl) (vp_in_iff.mpr (by decide))) (cwV 1 hts gX5_copy_X5_found rfl rfl rfl (by decide +kernel) ⟨Nat.le_of_ble_eq_true rfl, Nat.le_of_ble_eq_true rfl⟩) ⟨PcR_fb, va_recv hK hP (ci := 3) (q0 := 0) rfl rfl, PcR_pre hP hK⟩ rfl rfl hl.1 rfl (lv_room (Nat.le_of_ble_eq_true rfl)) dX5_copy_106 ⟨Nat.zero_le _, Nat.zero_le _⟩) hP (hD _ rfl) hS 0 49 rfl (fun r_165 u_164 H locs hu_164 hP hS => ?_)
                    obtain ⟨hu_164r, -⟩ := hu_164
                    subst hu_164r
                    have hP : va_P D vwCl (kcw cI cL cS b s1 w1 m1 n1 s2 w2 m2 n2 s3 w3 m3 n3 ik bt ln tk sb en nm bits size num (bump fnd (-1000000001))) H := hP
                    exact W.iret hx hb hr (fun t ht hW => ⟨⟨_, (num, bump fnd (-1000000001)), rfl, (by exact ((iF_t ⟨hs, htt⟩).trans ((iF_f (fun h => h.elim c_155b c_158b)).trans ((iF_t c_159).trans (iF_f (fun h => by first | exact absurd h.1 c_163b | exact absurd c_163b h.1 | exact absurd h.2 c_163b | exact absurd c_163b h.2))))).symm), by dsimp only; rw [ht]; exact hP⟩, hS.F ht⟩) hS.2.2 dX5_copy_109
              · skip
                refine lv_aload_n hx hb dX5_copy_73 rfl (lv_at hl 2 rfl) ?_
                refine lv_ldc hx hb hown k144 dX5_copy_74 ?_
                refine callMi (va_runV (As := [.int (-1000000003)]) (rest := []) ⟨hx, hb, hml, hown, hts⟩ (k_X5_found l D cI cL cS b s1 w1 m1 n1 s2 w2 m2 n2 s3 w3 m3 n3 ik bt ln tk sb en nm bits size num fnd (-1000000003) (va_DT (hD _ rfl) rfl) (vp_in_iff.mpr (by decide))) (cwV 1 hts gX5_copy_X5_found rfl rfl rfl (by decide +kernel) ⟨Nat.le_of_ble_eq_true rfl, Nat.le_of_ble_eq_true rfl⟩) ⟨PcR_fb, va_recv hK hP (ci := 3) (q0 := 0) rfl rfl, PcR_pre hP hK⟩ rfl rfl hl.1 rfl (lv_room (Nat.le_of_ble_eq_true rfl)) dX5_copy_76 ⟨Nat.zero_le _, Nat.zero_le _⟩) hP (hD _ rfl) hS 0 49 rfl (fun r_167 u_166 H locs hu_166 hP hS => ?_)
                obtain ⟨hu_166r, -⟩ := hu_166
                subst hu_166r
                have hP : va_P D vwCl (kcw cI cL cS b s1 w1 m1 n1 s2 w2 m2 n2 s3 w3 m3 n3 ik bt ln tk sb en nm bits size num (bump fnd (-1000000003))) H := hP
                exact W.iret hx hb hr (fun t ht hW => ⟨⟨_, (num, bump fnd (-1000000003)), rfl, (by exact ((iF_t ⟨hs, htt⟩).trans ((iF_f (fun h => h.elim c_155b c_158b)).trans (iF_f c_159))).symm), by dsimp only; rw [ht]; exact hP⟩, hS.F ht⟩) hS.2.2 dX5_copy_79
            · skip
              have c_158b := bI_n c_158
              refine lv_aload_n hx hb dX5_copy_53 rfl (lv_at hl 2 rfl) ?_
              refine lv_ldc hx hb hown k196 dX5_copy_54 ?_
              refine callMi (va_runV (As := [.int (-1000000006)]) (rest := []) ⟨hx, hb, hml, hown, hts⟩ (k_X5_found l D cI cL cS b s1 w1 m1 n1 s2 w2 m2 n2 s3 w3 m3 n3 ik bt ln tk sb en nm bits size num fnd (-1000000006) (va_DT (hD _ rfl) rfl) (vp_in_iff.mpr (by decide))) (cwV 1 hts gX5_copy_X5_found rfl rfl rfl (by decide +kernel) ⟨Nat.le_of_ble_eq_true rfl, Nat.le_of_ble_eq_true rfl⟩) ⟨PcR_fb, va_recv hK hP (ci := 3) (q0 := 0) rfl rfl, PcR_pre hP hK⟩ rfl rfl hl.1 rfl (lv_room (Nat.le_of_ble_eq_true rfl)) dX5_copy_56 ⟨Nat.zero_le _, Nat.zero_le _⟩) hP (hD _ rfl) hS 0 49 rfl (fun r_169 u_168 H locs hu_168 hP hS => ?_)
              obtain ⟨hu_168r, -⟩ := hu_168
              subst hu_168r
              have hP : va_P D vwCl (kcw cI cL cS b s1 w1 m1 n1 s2 w2 m2 n2 s3 w3 m3 n3 ik bt ln tk sb en nm bits size num (bump fnd (-1000000006))) H := hP
              exact W.iret hx hb hr (fun t ht hW => ⟨⟨_, (num, bump fnd (-1000000006)), rfl, (by exact ((iF_t ⟨hs, htt⟩).trans (iF_t (Or.inr c_158b))).symm), by dsimp only; rw [ht]; exact hP⟩, hS.F ht⟩) hS.2.2 dX5_copy_59
        · skip
          have hz := (oh 2 (by decide)).1
          have hy := (oh 3 (by decide)).1
          refine lv_aload_n hx hb dX5_copy_21 rfl (lv_at hl 0 rfl) ?_
          refine va_get (ci := 3) (v := .ref (b 6 0)) (C := RX5) (T := TX5) (N := 7) hx hb hts inX5 hown hK hP 0 rfl rfl 5 (by decide) f35 (fun _ h9 => h9) rfl dX5_copy_22 ?_
          refine lv_iload_n hx hb dX5_copy_25 rfl (lv_at hl 1 rfl) ?_
          refine va_aldq (f := fun s => some (b 7 s)) hx hb hK hP 39 2 rfl rfl (vp_in_iff.mpr (by decide)) dX5_copy_26 ?_
          refine W.eq (g2 := F0 m 27 ls [.ref (b 7 2)]) rfl ?_
          refine lv_astore (lv' := [(6, .ref (b 7 2)), (0, .ref (b 0 0)), (1, .int 2), (2, .int x1), (3, .int 3), (4, .int x3), (5, .int x4)]) hx hb dX5_copy_27 hl (by decide) rfl (fun ls hl => ?_)
          refine lv_aload_n hx hb dX5_copy_29 rfl (lv_at hl 1 rfl) ?_
          refine va_get (ci := 3) (v := .ref (b 6 0)) (C := RX5) (T := TX5) (N := 7) hx hb hts inX5 hown hK hP 0 rfl rfl 5 (by decide) f35 (fun _ h9 => h9) rfl dX5_copy_30 ?_
          refine lv_iload_n hx hb dX5_copy_33 rfl (lv_at hl 4 rfl) ?_
          refine va_aldq (f := fun s => some (b 7 s)) hx hb hK hP 39 2 rfl rfl (vp_in_iff.mpr (by decide)) dX5_copy_34 ?_
          refine W.eq (g2 := F0 m 35 ls [.ref (b 7 3)]) rfl ?_
          refine lv_astore (lv' := [(7, .ref (b 7 3)), (6, .ref (b 7 2)), (0, .ref (b 0 0)), (1, .int 2), (2, .int x1), (3, .int 3), (4, .int x3), (5, .int x4)]) hx hb dX5_copy_35 hl (by decide) rfl (fun ls hl => ?_)
          refine lv_aload hx hb dX5_copy_37 (lv_at hl 1 rfl) ?_
          refine callE (W.runV (As := []) (rest := []) ⟨hx, hb, hml, hown, hts⟩ (k_X2_isMissing l D cI cL cS (b 7 2) (b 8 2) (bits 2) (size 2) (num 2)) (cwV 0 hts gX5_copy_X2_isMissing rfl rfl rfl (by decide +kernel) ⟨Nat.le_of_ble_eq_true rfl, Nat.le_of_ble_eq_true rfl⟩) ⟨PcR_fb, va_recv hK hP (ci := 0) (q0 := 44) rfl rfl, PcR_pre (va_seg hP 44 2 rfl) hK⟩ rfl rfl hl.1 rfl (lv_room (Nat.le_of_ble_eq_true rfl)) dX5_copy_39 ⟨Nat.zero_le _, Nat.zero_le _⟩) ?_
          refine lv_if_ne (tgt := 53) hx hb dX5_copy_42 (by decide) (fun c_170 => ?_) (fun c_170 => ?_)
          · skip
            have c_170b := bI_n c_170
            refine lv_aload_n hx hb dX5_copy_53 rfl (lv_at hl 2 rfl) ?_
            refine lv_ldc hx hb hown k196 dX5_copy_54 ?_
            refine callMi (va_runV (As := [.int (-1000000006)]) (rest := []) ⟨hx, hb, hml, hown, hts⟩ (k_X5_found l D cI cL cS b s1 w1 m1 n1 s2 w2 m2 n2 s3 w3 m3 n3 ik bt ln tk sb en nm bits size num fnd (-1000000006) (va_DT (hD _ rfl) rfl) (vp_in_iff.mpr (by decide))) (cwV 1 hts gX5_copy_X5_found rfl rfl rfl (by decide +kernel) ⟨Nat.le_of_ble_eq_true rfl, Nat.le_of_ble_eq_true rfl⟩) ⟨PcR_fb, va_recv hK hP (ci := 3) (q0 := 0) rfl rfl, PcR_pre hP hK⟩ rfl rfl hl.1 rfl (lv_room (Nat.le_of_ble_eq_true rfl)) dX5_copy_56 ⟨Nat.zero_le _, Nat.zero_le _⟩) hP (hD _ rfl) hS 0 49 rfl (fun r_172 u_171 H locs hu_171 hP hS => ?_)
            obtain ⟨hu_171r, -⟩ := hu_171
            subst hu_171r
            have hP : va_P D vwCl (kcw cI cL cS b s1 w1 m1 n1 s2 w2 m2 n2 s3 w3 m3 n3 ik bt ln tk sb en nm bits size num (bump fnd (-1000000006))) H := hP
            exact W.iret hx hb hr (fun t ht hW => ⟨⟨_, (num, bump fnd (-1000000006)), rfl, (by exact ((iF_t ⟨hs, htt⟩).trans (iF_t (Or.inl c_170b))).symm), by dsimp only; rw [ht]; exact hP⟩, hS.F ht⟩) hS.2.2 dX5_copy_59
          · skip
            have c_170b := bI_0 c_170
            refine lv_aload hx hb dX5_copy_45 (lv_at hl 0 rfl) ?_
            refine callE (W.runV (As := []) (rest := []) ⟨hx, hb, hml, hown, hts⟩ (k_X2_isMissing l D cI cL cS (b 7 3) (b 8 3) (bits 3) (size 3) (num 3)) (cwV 0 hts gX5_copy_X2_isMissing rfl rfl rfl (by decide +kernel) ⟨Nat.le_of_ble_eq_true rfl, Nat.le_of_ble_eq_true rfl⟩) ⟨PcR_fb, va_recv hK hP (ci := 0) (q0 := 46) rfl rfl, PcR_pre (va_seg hP 46 2 rfl) hK⟩ rfl rfl hl.1 rfl (lv_room (Nat.le_of_ble_eq_true rfl)) dX5_copy_47 ⟨Nat.zero_le _, Nat.zero_le _⟩) ?_
            refine lv_if_eq (tgt := 60) hx hb dX5_copy_50 (by decide) (fun c_173 => ?_) (fun c_173 => ?_)
            · skip
              have c_173b := bI_0 c_173
              refine lv_aload hx hb dX5_copy_60 (lv_at hl 1 rfl) ?_
              refine va_get (ci := 0) (v := .int (bits 2)) (C := RX2) (T := TX2) (N := 3) hx hb hts inX2 hown hK hP 44 rfl rfl 0 (by decide) f206 (fun _ h9 => h9) rfl dX5_copy_62 ?_
              refine lv_aload hx hb dX5_copy_65 (lv_at hl 0 rfl) ?_
              refine va_get (ci := 0) (v := .int (bits 3)) (C := RX2) (T := TX2) (N := 3) hx hb hts inX2 hown hK hP 46 rfl rfl 0 (by decide) f206 (fun _ h9 => h9) rfl dX5_copy_67 ?_
              refine lv_icmp_eq (tgt := 80) hx hb dX5_copy_70 (by decide) (fun c_174 => ?_) (fun c_174 => ?_)
              · skip
                refine lv_aload hx hb dX5_copy_80 (lv_at hl 1 rfl) ?_
                refine lv_iload_n hx hb dX5_copy_82 rfl (lv_at hl 4 rfl) ?_
                refine lv_iload hx hb dX5_copy_83 (lv_at hl 7 rfl) ?_
                refine callE (W.runV (As := [.int x1, .int x4]) (rest := []) ⟨hx, hb, hml, hown, hts⟩ (k_X2_hasRun l D cI cL cS (b 7 2) (b 8 2) (bits 2) (size 2) (num 2) x1 x4) (cwV 2 hts gX5_copy_X2_hasRun rfl rfl rfl (by decide +kernel) ⟨Nat.le_of_ble_eq_true rfl, Nat.le_of_ble_eq_true rfl⟩) ⟨PcR_fb, va_recv hK hP (ci := 0) (q0 := 44) rfl rfl, PcR_pre (va_seg hP 44 2 rfl) hK⟩ rfl rfl hl.1 rfl (lv_room (Nat.le_of_ble_eq_true rfl)) dX5_copy_85 ⟨Nat.zero_le _, Nat.zero_le _⟩) ?_
                refine lv_if_eq (tgt := 103) hx hb dX5_copy_88 (by decide) (fun c_175 => ?_) (fun c_175 => ?_)
                · skip
                  have c_175b := bI_0 c_175
                  refine lv_aload_n hx hb dX5_copy_103 rfl (lv_at hl 2 rfl) ?_
                  refine lv_ldc hx hb hown k52 dX5_copy_104 ?_
                  refine callMi (va_runV (As := [.int (-1000000001)]) (rest := []) ⟨hx, hb, hml, hown, hts⟩ (k_X5_found l D cI cL cS b s1 w1 m1 n1 s2 w2 m2 n2 s3 w3 m3 n3 ik bt ln tk sb en nm bits size num fnd (-1000000001) (va_DT (hD _ rfl) rfl) (vp_in_iff.mpr (by decide))) (cwV 1 hts gX5_copy_X5_found rfl rfl rfl (by decide +kernel) ⟨Nat.le_of_ble_eq_true rfl, Nat.le_of_ble_eq_true rfl⟩) ⟨PcR_fb, va_recv hK hP (ci := 3) (q0 := 0) rfl rfl, PcR_pre hP hK⟩ rfl rfl hl.1 rfl (lv_room (Nat.le_of_ble_eq_true rfl)) dX5_copy_106 ⟨Nat.zero_le _, Nat.zero_le _⟩) hP (hD _ rfl) hS 0 49 rfl (fun r_177 u_176 H locs hu_176 hP hS => ?_)
                  obtain ⟨hu_176r, -⟩ := hu_176
                  subst hu_176r
                  have hP : va_P D vwCl (kcw cI cL cS b s1 w1 m1 n1 s2 w2 m2 n2 s3 w3 m3 n3 ik bt ln tk sb en nm bits size num (bump fnd (-1000000001))) H := hP
                  exact W.iret hx hb hr (fun t ht hW => ⟨⟨_, (num, bump fnd (-1000000001)), rfl, (by exact ((iF_t ⟨hs, htt⟩).trans ((iF_f (fun h => h.elim c_170b c_173b)).trans ((iF_t c_174).trans (iF_f (fun h => by first | exact absurd h.1 c_175b | exact absurd c_175b h.1 | exact absurd h.2 c_175b | exact absurd c_175b h.2))))).symm), by dsimp only; rw [ht]; exact hP⟩, hS.F ht⟩) hS.2.2 dX5_copy_109
                · skip
                  have c_175b := bI_n c_175
                  have hr1 := c_175b
                  refine lv_aload hx hb dX5_copy_91 (lv_at hl 0 rfl) ?_
                  refine lv_iload hx hb dX5_copy_93 (lv_at hl 6 rfl) ?_
                  refine lv_iload hx hb dX5_copy_95 (lv_at hl 7 rfl) ?_
                  refine callE (W.runV (As := [.int x3, .int x4]) (rest := []) ⟨hx, hb, hml, hown, hts⟩ (k_X2_hasRun l D cI cL cS (b 7 3) (b 8 3) (bits 3) (size 3) (num 3) x3 x4) (cwV 2 hts gX5_copy_X2_hasRun rfl rfl rfl (by decide +kernel) ⟨Nat.le_of_ble_eq_true rfl, Nat.le_of_ble_eq_true rfl⟩) ⟨PcR_fb, va_recv hK hP (ci := 0) (q0 := 46) rfl rfl, PcR_pre (va_seg hP 46 2 rfl) hK⟩ rfl rfl hl.1 rfl (lv_room (Nat.le_of_ble_eq_true rfl)) dX5_copy_97 ⟨Nat.zero_le _, Nat.zero_le _⟩) ?_
                  refine lv_if_ne (tgt := 110) hx hb dX5_copy_100 (by decide) (fun c_178 => ?_) (fun c_178 => ?_)
                  · skip
                    have c_178b := bI_n c_178
                    have hr2 := c_178b
                    refine lv_aload hx hb dX5_copy_110 (lv_at hl 1 rfl) ?_
                    refine va_get (ci := 0) (v := .ref (b 8 2)) (C := RX2) (T := TX2) (N := 3) hx hb hts inX2 hown hK hP 44 rfl rfl 2 (by decide) f198 (fun _ h9 => h9) rfl dX5_copy_112 ?_
                    refine lv_iload_n hx hb dX5_copy_115 rfl (lv_at hl 4 rfl) ?_
                    refine lv_aload hx hb dX5_copy_116 (lv_at hl 0 rfl) ?_
                    refine va_get (ci := 0) (v := .ref (b 8 3)) (C := RX2) (T := TX2) (N := 3) hx hb hts inX2 hown hK hP 46 rfl rfl 2 (by decide) f198 (fun _ h9 => h9) rfl dX5_copy_118 ?_
                    refine lv_iload hx hb dX5_copy_121 (lv_at hl 6 rfl) ?_
                    refine lv_iload hx hb dX5_copy_123 (lv_at hl 7 rfl) ?_
                    refine va_copyL hx hb (by rw [hml]; exact hl.1.symm) hown ml212 nAc sAc iSys hK hP (hD _ rfl) hS 45 47 1 1 rfl rfl rfl rfl hr1.1 hr2.1 hr1.2.1 (by have := run_in hz hr1; omega) (by have := run_in hy hr2; omega) (Nat.le_of_ble_eq_true rfl) (Nat.le_of_ble_eq_true rfl) dX5_copy_125 (fun H locs hP hS => ?_)
                    have hP : va_P D vwCl (kcw cI cL cS b s1 w1 m1 n1 s2 w2 m2 n2 s3 w3 m3 n3 ik bt ln tk sb en nm bits size (va_up num 3 (va_cpy (num 2) (num 3) (ix x1) (ix x3) (ix x4))) fnd) H := hP
                    refine lv_iload hx hb dX5_copy_128 (lv_at hl 7 rfl) ?_
                    exact W.iret hx hb hr (fun t ht hW => ⟨⟨_, ((va_up num 3 (va_cpy (num 2) (num 3) (ix x1) (ix x3) (ix x4))), fnd), rfl, (by exact ((iF_t ⟨hs, htt⟩).trans ((iF_f (fun h => h.elim c_170b c_173b)).trans ((iF_t c_174).trans (iF_t ⟨hr1, hr2⟩)))).symm), by dsimp only; rw [ht]; exact hP⟩, hS.F ht⟩) hS.2.2 dX5_copy_130
                  · skip
                    have c_178b := bI_0 c_178
                    refine lv_aload_n hx hb dX5_copy_103 rfl (lv_at hl 2 rfl) ?_
                    refine lv_ldc hx hb hown k52 dX5_copy_104 ?_
                    refine callMi (va_runV (As := [.int (-1000000001)]) (rest := []) ⟨hx, hb, hml, hown, hts⟩ (k_X5_found l D cI cL cS b s1 w1 m1 n1 s2 w2 m2 n2 s3 w3 m3 n3 ik bt ln tk sb en nm bits size num fnd (-1000000001) (va_DT (hD _ rfl) rfl) (vp_in_iff.mpr (by decide))) (cwV 1 hts gX5_copy_X5_found rfl rfl rfl (by decide +kernel) ⟨Nat.le_of_ble_eq_true rfl, Nat.le_of_ble_eq_true rfl⟩) ⟨PcR_fb, va_recv hK hP (ci := 3) (q0 := 0) rfl rfl, PcR_pre hP hK⟩ rfl rfl hl.1 rfl (lv_room (Nat.le_of_ble_eq_true rfl)) dX5_copy_106 ⟨Nat.zero_le _, Nat.zero_le _⟩) hP (hD _ rfl) hS 0 49 rfl (fun r_180 u_179 H locs hu_179 hP hS => ?_)
                    obtain ⟨hu_179r, -⟩ := hu_179
                    subst hu_179r
                    have hP : va_P D vwCl (kcw cI cL cS b s1 w1 m1 n1 s2 w2 m2 n2 s3 w3 m3 n3 ik bt ln tk sb en nm bits size num (bump fnd (-1000000001))) H := hP
                    exact W.iret hx hb hr (fun t ht hW => ⟨⟨_, (num, bump fnd (-1000000001)), rfl, (by exact ((iF_t ⟨hs, htt⟩).trans ((iF_f (fun h => h.elim c_170b c_173b)).trans ((iF_t c_174).trans (iF_f (fun h => by first | exact absurd h.1 c_178b | exact absurd c_178b h.1 | exact absurd h.2 c_178b | exact absurd c_178b h.2))))).symm), by dsimp only; rw [ht]; exact hP⟩, hS.F ht⟩) hS.2.2 dX5_copy_109
              · skip
                refine lv_aload_n hx hb dX5_copy_73 rfl (lv_at hl 2 rfl) ?_
                refine lv_ldc hx hb hown k144 dX5_copy_74 ?_
                refine callMi (va_runV (As := [.int (-1000000003)]) (rest := []) ⟨hx, hb, hml, hown, hts⟩ (k_X5_found l D cI cL cS b s1 w1 m1 n1 s2 w2 m2 n2 s3 w3 m3 n3 ik bt ln tk sb en nm bits size num fnd (-1000000003) (va_DT (hD _ rfl) rfl) (vp_in_iff.mpr (by decide))) (cwV 1 hts gX5_copy_X5_found rfl rfl rfl (by decide +kernel) ⟨Nat.le_of_ble_eq_true rfl, Nat.le_of_ble_eq_true rfl⟩) ⟨PcR_fb, va_recv hK hP (ci := 3) (q0 := 0) rfl rfl, PcR_pre hP hK⟩ rfl rfl hl.1 rfl (lv_room (Nat.le_of_ble_eq_true rfl)) dX5_copy_76 ⟨Nat.zero_le _, Nat.zero_le _⟩) hP (hD _ rfl) hS 0 49 rfl (fun r_182 u_181 H locs hu_181 hP hS => ?_)
                obtain ⟨hu_181r, -⟩ := hu_181
                subst hu_181r
                have hP : va_P D vwCl (kcw cI cL cS b s1 w1 m1 n1 s2 w2 m2 n2 s3 w3 m3 n3 ik bt ln tk sb en nm bits size num (bump fnd (-1000000003))) H := hP
                exact W.iret hx hb hr (fun t ht hW => ⟨⟨_, (num, bump fnd (-1000000003)), rfl, (by exact ((iF_t ⟨hs, htt⟩).trans ((iF_f (fun h => h.elim c_170b c_173b)).trans (iF_f c_174))).symm), by dsimp only; rw [ht]; exact hP⟩, hS.F ht⟩) hS.2.2 dX5_copy_79
            · skip
              have c_173b := bI_n c_173
              refine lv_aload_n hx hb dX5_copy_53 rfl (lv_at hl 2 rfl) ?_
              refine lv_ldc hx hb hown k196 dX5_copy_54 ?_
              refine callMi (va_runV (As := [.int (-1000000006)]) (rest := []) ⟨hx, hb, hml, hown, hts⟩ (k_X5_found l D cI cL cS b s1 w1 m1 n1 s2 w2 m2 n2 s3 w3 m3 n3 ik bt ln tk sb en nm bits size num fnd (-1000000006) (va_DT (hD _ rfl) rfl) (vp_in_iff.mpr (by decide))) (cwV 1 hts gX5_copy_X5_found rfl rfl rfl (by decide +kernel) ⟨Nat.le_of_ble_eq_true rfl, Nat.le_of_ble_eq_true rfl⟩) ⟨PcR_fb, va_recv hK hP (ci := 3) (q0 := 0) rfl rfl, PcR_pre hP hK⟩ rfl rfl hl.1 rfl (lv_room (Nat.le_of_ble_eq_true rfl)) dX5_copy_56 ⟨Nat.zero_le _, Nat.zero_le _⟩) hP (hD _ rfl) hS 0 49 rfl (fun r_184 u_183 H locs hu_183 hP hS => ?_)
              obtain ⟨hu_183r, -⟩ := hu_183
              subst hu_183r
              have hP : va_P D vwCl (kcw cI cL cS b s1 w1 m1 n1 s2 w2 m2 n2 s3 w3 m3 n3 ik bt ln tk sb en nm bits size num (bump fnd (-1000000006))) H := hP
              exact W.iret hx hb hr (fun t ht hW => ⟨⟨_, (num, bump fnd (-1000000006)), rfl, (by exact ((iF_t ⟨hs, htt⟩).trans (iF_t (Or.inr c_173b))).symm), by dsimp only; rw [ht]; exact hP⟩, hS.F ht⟩) hS.2.2 dX5_copy_59
      · skip
        rcases in4 htt with rfl | rfl | rfl | rfl
        · skip
          have hz := (oh 3 (by decide)).1
          have hy := (oh 0 (by decide)).1
          refine lv_aload_n hx hb dX5_copy_21 rfl (lv_at hl 0 rfl) ?_
          refine va_get (ci := 3) (v := .ref (b 6 0)) (C := RX5) (T := TX5) (N := 7) hx hb hts inX5 hown hK hP 0 rfl rfl 5 (by decide) f35 (fun _ h9 => h9) rfl dX5_copy_22 ?_
          refine lv_iload_n hx hb dX5_copy_25 rfl (lv_at hl 1 rfl) ?_
          refine va_aldq (f := fun s => some (b 7 s)) hx hb hK hP 39 2 rfl rfl (vp_in_iff.mpr (by decide)) dX5_copy_26 ?_
          refine W.eq (g2 := F0 m 27 ls [.ref (b 7 3)]) rfl ?_
          refine lv_astore (lv' := [(6, .ref (b 7 3)), (0, .ref (b 0 0)), (1, .int 3), (2, .int x1), (3, .int 0), (4, .int x3), (5, .int x4)]) hx hb dX5_copy_27 hl (by decide) rfl (fun ls hl => ?_)
          refine lv_aload_n hx hb dX5_copy_29 rfl (lv_at hl 1 rfl) ?_
          refine va_get (ci := 3) (v := .ref (b 6 0)) (C := RX5) (T := TX5) (N := 7) hx hb hts inX5 hown hK hP 0 rfl rfl 5 (by decide) f35 (fun _ h9 => h9) rfl dX5_copy_30 ?_
          refine lv_iload_n hx hb dX5_copy_33 rfl (lv_at hl 4 rfl) ?_
          refine va_aldq (f := fun s => some (b 7 s)) hx hb hK hP 39 2 rfl rfl (vp_in_iff.mpr (by decide)) dX5_copy_34 ?_
          refine W.eq (g2 := F0 m 35 ls [.ref (b 7 0)]) rfl ?_
          refine lv_astore (lv' := [(7, .ref (b 7 0)), (6, .ref (b 7 3)), (0, .ref (b 0 0)), (1, .int 3), (2, .int x1), (3, .int 0), (4, .int x3), (5, .int x4)]) hx hb dX5_copy_35 hl (by decide) rfl (fun ls hl => ?_)
          refine lv_aload hx hb dX5_copy_37 (lv_at hl 1 rfl) ?_
          refine callE (W.runV (As := []) (rest := []) ⟨hx, hb, hml, hown, hts⟩ (k_X2_isMissing l D cI cL cS (b 7 3) (b 8 3) (bits 3) (size 3) (num 3)) (cwV 0 hts gX5_copy_X2_isMissing rfl rfl rfl (by decide +kernel) ⟨Nat.le_of_ble_eq_true rfl, Nat.le_of_ble_eq_true rfl⟩) ⟨PcR_fb, va_recv hK hP (ci := 0) (q0 := 46) rfl rfl, PcR_pre (va_seg hP 46 2 rfl) hK⟩ rfl rfl hl.1 rfl (lv_room (Nat.le_of_ble_eq_true rfl)) dX5_copy_39 ⟨Nat.zero_le _, Nat.zero_le _⟩) ?_
          refine lv_if_ne (tgt := 53) hx hb dX5_copy_42 (by decide) (fun c_185 => ?_) (fun c_185 => ?_)
          · skip
            have c_185b := bI_n c_185
            refine lv_aload_n hx hb dX5_copy_53 rfl (lv_at hl 2 rfl) ?_
            refine lv_ldc hx hb hown k196 dX5_copy_54 ?_
            refine callMi (va_runV (As := [.int (-1000000006)]) (rest := []) ⟨hx, hb, hml, hown, hts⟩ (k_X5_found l D cI cL cS b s1 w1 m1 n1 s2 w2 m2 n2 s3 w3 m3 n3 ik bt ln tk sb en nm bits size num fnd (-1000000006) (va_DT (hD _ rfl) rfl) (vp_in_iff.mpr (by decide))) (cwV 1 hts gX5_copy_X5_found rfl rfl rfl (by decide +kernel) ⟨Nat.le_of_ble_eq_true rfl, Nat.le_of_ble_eq_true rfl⟩) ⟨PcR_fb, va_recv hK hP (ci := 3) (q0 := 0) rfl rfl, PcR_pre hP hK⟩ rfl rfl hl.1 rfl (lv_room (Nat.le_of_ble_eq_true rfl)) dX5_copy_56 ⟨Nat.zero_le _, Nat.zero_le _⟩) hP (hD _ rfl) hS 0 49 rfl (fun r_187 u_186 H locs hu_186 hP hS => ?_)
            obtain ⟨hu_186r, -⟩ := hu_186
            subst hu_186r
            have hP : va_P D vwCl (kcw cI cL cS b s1 w1 m1 n1 s2 w2 m2 n2 s3 w3 m3 n3 ik bt ln tk sb en nm bits size num (bump fnd (-1000000006))) H := hP
            exact W.iret hx hb hr (fun t ht hW => ⟨⟨_, (num, bump fnd (-1000000006)), rfl, (by exact ((iF_t ⟨hs, htt⟩).trans (iF_t (Or.inl c_185b))).symm), by dsimp only; rw [ht]; exact hP⟩, hS.F ht⟩) hS.2.2 dX5_copy_59
          · skip
            have c_185b := bI_0 c_185
            refine lv_aload hx hb dX5_copy_45 (lv_at hl 0 rfl) ?_
            refine callE (W.runV (As := []) (rest := []) ⟨hx, hb, hml, hown, hts⟩ (k_X2_isMissing l D cI cL cS (b 7 0) (b 8 0) (bits 0) (size 0) (num 0)) (cwV 0 hts gX5_copy_X2_isMissing rfl rfl rfl (by decide +kernel) ⟨Nat.le_of_ble_eq_true rfl, Nat.le_of_ble_eq_true rfl⟩) ⟨PcR_fb, va_recv hK hP (ci := 0) (q0 := 40) rfl rfl, PcR_pre (va_seg hP 40 2 rfl) hK⟩ rfl rfl hl.1 rfl (lv_room (Nat.le_of_ble_eq_true rfl)) dX5_copy_47 ⟨Nat.zero_le _, Nat.zero_le _⟩) ?_
            refine lv_if_eq (tgt := 60) hx hb dX5_copy_50 (by decide) (fun c_188 => ?_) (fun c_188 => ?_)
            · skip
              have c_188b := bI_0 c_188
              refine lv_aload hx hb dX5_copy_60 (lv_at hl 1 rfl) ?_
              refine va_get (ci := 0) (v := .int (bits 3)) (C := RX2) (T := TX2) (N := 3) hx hb hts inX2 hown hK hP 46 rfl rfl 0 (by decide) f206 (fun _ h9 => h9) rfl dX5_copy_62 ?_
              refine lv_aload hx hb dX5_copy_65 (lv_at hl 0 rfl) ?_
              refine va_get (ci := 0) (v := .int (bits 0)) (C := RX2) (T := TX2) (N := 3) hx hb hts inX2 hown hK hP 40 rfl rfl 0 (by decide) f206 (fun _ h9 => h9) rfl dX5_copy_67 ?_
              refine lv_icmp_eq (tgt := 80) hx hb dX5_copy_70 (by decide) (fun c_189 => ?_) (fun c_189 => ?_)
              · skip
                refine lv_aload hx hb dX5_copy_80 (lv_at hl 1 rfl) ?_
                refine lv_iload_n hx hb dX5_copy_82 rfl (lv_at hl 4 rfl) ?_
                refine lv_iload hx hb dX5_copy_83 (lv_at hl 7 rfl) ?_
                refine callE (W.runV (As := [.int x1, .int x4]) (rest := []) ⟨hx, hb, hml, hown, hts⟩ (k_X2_hasRun l D cI cL cS (b 7 3) (b 8 3) (bits 3) (size 3) (num 3) x1 x4) (cwV 2 hts gX5_copy_X2_hasRun rfl rfl rfl (by decide +kernel) ⟨Nat.le_of_ble_eq_true rfl, Nat.le_of_ble_eq_true rfl⟩) ⟨PcR_fb, va_recv hK hP (ci := 0) (q0 := 46) rfl rfl, PcR_pre (va_seg hP 46 2 rfl) hK⟩ rfl rfl hl.1 rfl (lv_room (Nat.le_of_ble_eq_true rfl)) dX5_copy_85 ⟨Nat.zero_le _, Nat.zero_le _⟩) ?_
                refine lv_if_eq (tgt := 103) hx hb dX5_copy_88 (by decide) (fun c_190 => ?_) (fun c_190 => ?_)
                · skip
                  have c_190b := bI_0 c_190
                  refine lv_aload_n hx hb dX5_copy_103 rfl (lv_at hl 2 rfl) ?_
                  refine lv_ldc hx hb hown k52 dX5_copy_104 ?_
                  refine callMi (va_runV (As := [.int (-1000000001)]) (rest := []) ⟨hx, hb, hml, hown, hts⟩ (k_X5_found l D cI cL cS b s1 w1 m1 n1 s2 w2 m2 n2 s3 w3 m3 n3 ik bt ln tk sb en nm bits size num fnd (-1000000001) (va_DT (hD _ rfl) rfl) (vp_in_iff.mpr (by decide))) (cwV 1 hts gX5_copy_X5_found rfl rfl rfl (by decide +kernel) ⟨Nat.le_of_ble_eq_true rfl, Nat.le_of_ble_eq_true rfl⟩) ⟨PcR_fb, va_recv hK hP (ci := 3) (q0 := 0) rfl rfl, PcR_pre hP hK⟩ rfl rfl hl.1 rfl (lv_room (Nat.le_of_ble_eq_true rfl)) dX5_copy_106 ⟨Nat.zero_le _, Nat.zero_le _⟩) hP (hD _ rfl) hS 0 49 rfl (fun r_192 u_191 H locs hu_191 hP hS => ?_)
                  obtain ⟨hu_191r, -⟩ := hu_191
                  subst hu_191r
                  have hP : va_P D vwCl (kcw cI cL cS b s1 w1 m1 n1 s2 w2 m2 n2 s3 w3 m3 n3 ik bt ln tk sb en nm bits size num (bump fnd (-1000000001))) H := hP
                  exact W.iret hx hb hr (fun t ht hW => ⟨⟨_, (num, bump fnd (-1000000001)), rfl, (by exact ((iF_t ⟨hs, htt⟩).trans ((iF_f (fun h => h.elim c_185b c_188b)).trans ((iF_t c_189).trans (iF_f (fun h => by first | exact absurd h.1 c_190b | exact absurd c_190b h.1 | exact absurd h.2 c_190b | exact absurd c_190b h.2))))).symm), by dsimp only; rw [ht]; exact hP⟩, hS.F ht⟩) hS.2.2 dX5_copy_109
                · skip
                  have c_190b := bI_n c_190
                  have hr1 := c_190b
                  refine lv_aload hx hb dX5_copy_91 (lv_at hl 0 rfl) ?_
                  refine lv_iload hx hb dX5_copy_93 (lv_at hl 6 rfl) ?_
                  refine lv_iload hx hb dX5_copy_95 (lv_at hl 7 rfl) ?_
                  refine callE (W.runV (As := [.int x3, .int x4]) (rest := []) ⟨hx, hb, hml, hown, hts⟩ (k_X2_hasRun l D cI cL cS (b 7 0) (b 8 0) (bits 0) (size 0) (num 0) x3 x4) (cwV 2 hts gX5_copy_X2_hasRun rfl rfl rfl (by decide +kernel) ⟨Nat.le_of_ble_eq_true rfl, Nat.le_of_ble_eq_true rfl⟩) ⟨PcR_fb, va_recv hK hP (ci := 0) (q0 := 40) rfl rfl, PcR_pre (va_seg hP 40 2 rfl) hK⟩ rfl rfl hl.1 rfl (lv_room (Nat.le_of_ble_eq_true rfl)) dX5_copy_97 ⟨Nat.zero_le _, Nat.zero_le _⟩) ?_
                  refine lv_if_ne (tgt := 110) hx hb dX5_copy_100 (by decide) (fun c_193 => ?_) (fun c_193 => ?_)
                  · skip
                    have c_193b := bI_n c_193
                    have hr2 := c_193b
                    refine lv_aload hx hb dX5_copy_110 (lv_at hl 1 rfl) ?_
                    refine va_get (ci := 0) (v := .ref (b 8 3)) (C := RX2) (T := TX2) (N := 3) hx hb hts inX2 hown hK hP 46 rfl rfl 2 (by decide) f198 (fun _ h9 => h9) rfl dX5_copy_112 ?_
                    refine lv_iload_n hx hb dX5_copy_115 rfl (lv_at hl 4 rfl) ?_
                    refine lv_aload hx hb dX5_copy_116 (lv_at hl 0 rfl) ?_
                    refine va_get (ci := 0) (v := .ref (b 8 0)) (C := RX2) (T := TX2) (N := 3) hx hb hts inX2 hown hK hP 40 rfl rfl 2 (by decide) f198 (fun _ h9 => h9) rfl dX5_copy_118 ?_
                    refine lv_iload hx hb dX5_copy_121 (lv_at hl 6 rfl) ?_
                    refine lv_iload hx hb dX5_copy_123 (lv_at hl 7 rfl) ?_
                    refine va_copyL hx hb (by rw [hml]; exact hl.1.symm) hown ml212 nAc sAc iSys hK hP (hD _ rfl) hS 47 41 1 1 rfl rfl rfl rfl hr1.1 hr2.1 hr1.2.1 (by have := run_in hz hr1; omega) (by have := run_in hy hr2; omega) (Nat.le_of_ble_eq_true rfl) (Nat.le_of_ble_eq_true rfl) dX5_copy_125 (fun H locs hP hS => ?_)
                    have hP : va_P D vwCl (kcw cI cL cS b s1 w1 m1 n1 s2 w2 m2 n2 s3 w3 m3 n3 ik bt ln tk sb en nm bits size (va_up num 0 (va_cpy (num 3) (num 0) (ix x1) (ix x3) (ix x4))) fnd) H := hP
                    refine lv_iload hx hb dX5_copy_128 (lv_at hl 7 rfl) ?_
                    exact W.iret hx hb hr (fun t ht hW => ⟨⟨_, ((va_up num 0 (va_cpy (num 3) (num 0) (ix x1) (ix x3) (ix x4))), fnd), rfl, (by exact ((iF_t ⟨hs, htt⟩).trans ((iF_f (fun h => h.elim c_185b c_188b)).trans ((iF_t c_189).trans (iF_t ⟨hr1, hr2⟩)))).symm), by dsimp only; rw [ht]; exact hP⟩, hS.F ht⟩) hS.2.2 dX5_copy_130
                  · skip
                    have c_193b := bI_0 c_193
                    refine lv_aload_n hx hb dX5_copy_103 rfl (lv_at hl 2 rfl) ?_
                    refine lv_ldc hx hb hown k52 dX5_copy_104 ?_
                    refine callMi (va_runV (As := [.int (-1000000001)]) (rest := []) ⟨hx, hb, hml, hown, hts⟩ (k_X5_found l D cI cL cS b s1 w1 m1 n1 s2 w2 m2 n2 s3 w3 m3 n3 ik bt ln tk sb en nm bits size num fnd (-1000000001) (va_DT (hD _ rfl) rfl) (vp_in_iff.mpr (by decide))) (cwV 1 hts gX5_copy_X5_found rfl rfl rfl (by decide +kernel) ⟨Nat.le_of_ble_eq_true rfl, Nat.le_of_ble_eq_true rfl⟩) ⟨PcR_fb, va_recv hK hP (ci := 3) (q0 := 0) rfl rfl, PcR_pre hP hK⟩ rfl rfl hl.1 rfl (lv_room (Nat.le_of_ble_eq_true rfl)) dX5_copy_106 ⟨Nat.zero_le _, Nat.zero_le _⟩) hP (hD _ rfl) hS 0 49 rfl (fun r_195 u_194 H locs hu_194 hP hS => ?_)
                    obtain ⟨hu_194r, -⟩ := hu_194
                    subst hu_194r
                    have hP : va_P D vwCl (kcw cI cL cS b s1 w1 m1 n1 s2 w2 m2 n2 s3 w3 m3 n3 ik bt ln tk sb en nm bits size num (bump fnd (-1000000001))) H := hP
                    exact W.iret hx hb hr (fun t ht hW => ⟨⟨_, (num, bump fnd (-1000000001)), rfl, (by exact ((iF_t ⟨hs, htt⟩).trans ((iF_f (fun h => h.elim c_185b c_188b)).trans ((iF_t c_189).trans (iF_f (fun h => by first | exact absurd h.1 c_193b | exact absurd c_193b h.1 | exact absurd h.2 c_193b | exact absurd c_193b h.2))))).symm), by dsimp only; rw [ht]; exact hP⟩, hS.F ht⟩) hS.2.2 dX5_copy_109
              · skip
                refine lv_aload_n hx hb dX5_copy_73 rfl (lv_at hl 2 rfl) ?_
                refine lv_ldc hx hb hown k144 dX5_copy_74 ?_
                refine callMi (va_runV (As := [.int (-1000000003)]) (rest := []) ⟨hx, hb, hml, hown, hts⟩ (k_X5_found l D cI cL cS b s1 w1 m1 n1 s2 w2 m2 n2 s3 w3 m3 n3 ik bt ln tk sb en nm bits size num fnd (-1000000003) (va_DT (hD _ rfl) rfl) (vp_in_iff.mpr (by decide))) (cwV 1 hts gX5_copy_X5_found rfl rfl rfl (by decide +kernel) ⟨Nat.le_of_ble_eq_true rfl, Nat.le_of_ble_eq_true rfl⟩) ⟨PcR_fb, va_recv hK hP (ci := 3) (q0 := 0) rfl rfl, PcR_pre hP hK⟩ rfl rfl hl.1 rfl (lv_room (Nat.le_of_ble_eq_true rfl)) dX5_copy_76 ⟨Nat.zero_le _, Nat.zero_le _⟩) hP (hD _ rfl) hS 0 49 rfl (fun r_197 u_196 H locs hu_196 hP hS => ?_)
                obtain ⟨hu_196r, -⟩ := hu_196
                subst hu_196r
                have hP : va_P D vwCl (kcw cI cL cS b s1 w1 m1 n1 s2 w2 m2 n2 s3 w3 m3 n3 ik bt ln tk sb en nm bits size num (bump fnd (-1000000003))) H := hP
                exact W.iret hx hb hr (fun t ht hW => ⟨⟨_, (num, bump fnd (-1000000003)), rfl, (by exact ((iF_t ⟨hs, htt⟩).trans ((iF_f (fun h => h.elim c_185b c_188b)).trans (iF_f c_189))).symm), by dsimp only; rw [ht]; exact hP⟩, hS.F ht⟩) hS.2.2 dX5_copy_79
            · skip
              have c_188b := bI_n c_188
              refine lv_aload_n hx hb dX5_copy_53 rfl (lv_at hl 2 rfl) ?_
              refine lv_ldc hx hb hown k196 dX5_copy_54 ?_
              refine callMi (va_runV (As := [.int (-1000000006)]) (rest := []) ⟨hx, hb, hml, hown, hts⟩ (k_X5_found l D cI cL cS b s1 w1 m1 n1 s2 w2 m2 n2 s3 w3 m3 n3 ik bt ln tk sb en nm bits size num fnd (-1000000006) (va_DT (hD _ rfl) rfl) (vp_in_iff.mpr (by decide))) (cwV 1 hts gX5_copy_X5_found rfl rfl rfl (by decide +kernel) ⟨Nat.le_of_ble_eq_true rfl, Nat.le_of_ble_eq_true rfl⟩) ⟨PcR_fb, va_recv hK hP (ci := 3) (q0 := 0) rfl rfl, PcR_pre hP hK⟩ rfl rfl hl.1 rfl (lv_room (Nat.le_of_ble_eq_true rfl)) dX5_copy_56 ⟨Nat.zero_le _, Nat.zero_le _⟩) hP (hD _ rfl) hS 0 49 rfl (fun r_199 u_198 H locs hu_198 hP hS => ?_)
              obtain ⟨hu_198r, -⟩ := hu_198
              subst hu_198r
              have hP : va_P D vwCl (kcw cI cL cS b s1 w1 m1 n1 s2 w2 m2 n2 s3 w3 m3 n3 ik bt ln tk sb en nm bits size num (bump fnd (-1000000006))) H := hP
              exact W.iret hx hb hr (fun t ht hW => ⟨⟨_, (num, bump fnd (-1000000006)), rfl, (by exact ((iF_t ⟨hs, htt⟩).trans (iF_t (Or.inr c_188b))).symm), by dsimp only; rw [ht]; exact hP⟩, hS.F ht⟩) hS.2.2 dX5_copy_59
        · skip
          have hz := (oh 3 (by decide)).1
          have hy := (oh 1 (by decide)).1
          refine lv_aload_n hx hb dX5_copy_21 rfl (lv_at hl 0 rfl) ?_
          refine va_get (ci := 3) (v := .ref (b 6 0)) (C := RX5) (T := TX5) (N := 7) hx hb hts inX5 hown hK hP 0 rfl rfl 5 (by decide) f35 (fun _ h9 => h9) rfl dX5_copy_22 ?_
          refine lv_iload_n hx hb dX5_copy_25 rfl (lv_at hl 1 rfl) ?_
          refine va_aldq (f := fun s => some (b 7 s)) hx hb hK hP 39 2 rfl rfl (vp_in_iff.mpr (by decide)) dX5_copy_26 ?_
          refine W.eq (g2 := F0 m 27 ls [.ref (b 7 3)]) rfl ?_
          refine lv_astore (lv' := [(6, .ref (b 7 3)), (0, .ref (b 0 0)), (1, .int 3), (2, .int x1), (3, .int 1), (4, .int x3), (5, .int x4)]) hx hb dX5_copy_27 hl (by decide) rfl (fun ls hl => ?_)
          refine lv_aload_n hx hb dX5_copy_29 rfl (lv_at hl 1 rfl) ?_
          refine va_get (ci := 3) (v := .ref (b 6 0)) (C := RX5) (T := TX5) (N := 7) hx hb hts inX5 hown hK hP 0 rfl rfl 5 (by decide) f35 (fun _ h9 => h9) rfl dX5_copy_30 ?_
          refine lv_iload_n hx hb dX5_copy_33 rfl (lv_at hl 4 rfl) ?_
          refine va_aldq (f := fun s => some (b 7 s)) hx hb hK hP 39 2 rfl rfl (vp_in_iff.mpr (by decide)) dX5_copy_34 ?_
          refine W.eq (g2 := F0 m 35 ls [.ref (b 7 1)]) rfl ?_
          refine lv_astore (lv' := [(7, .ref (b 7 1)), (6, .ref (b 7 3)), (0, .ref (b 0 0)), (1, .int 3), (2, .int x1), (3, .int 1), (4, .int x3), (5, .int x4)]) hx hb dX5_copy_35 hl (by decide) rfl (fun ls hl => ?_)
          refine lv_aload hx hb dX5_copy_37 (lv_at hl 1 rfl) ?_
          refine callE (W.runV (As := []) (rest := []) ⟨hx, hb, hml, hown, hts⟩ (k_X2_isMissing l D cI cL cS (b 7 3) (b 8 3) (bits 3) (size 3) (num 3)) (cwV 0 hts gX5_copy_X2_isMissing rfl rfl rfl (by decide +kernel) ⟨Nat.le_of_ble_eq_true rfl, Nat.le_of_ble_eq_true rfl⟩) ⟨PcR_fb, va_recv hK hP (ci := 0) (q0 := 46) rfl rfl, PcR_pre (va_seg hP 46 2 rfl) hK⟩ rfl rfl hl.1 rfl (lv_room (Nat.le_of_ble_eq_true rfl)) dX5_copy_39 ⟨Nat.zero_le _, Nat.zero_le _⟩) ?_
          refine lv_if_ne (tgt := 53) hx hb dX5_copy_42 (by decide) (fun c_200 => ?_) (fun c_200 => ?_)
          · skip
            have c_200b := bI_n c_200
            refine lv_aload_n hx hb dX5_copy_53 rfl (lv_at hl 2 rfl) ?_
            refine lv_ldc hx hb hown k196 dX5_copy_54 ?_
            refine callMi (va_runV (As := [.int (-1000000006)]) (rest := []) ⟨hx, hb, hml, hown, hts⟩ (k_X5_found l D cI cL cS b s1 w1 m1 n1 s2 w2 m2 n2 s3 w3 m3 n3 ik bt ln tk sb en nm bits size num fnd (-1000000006) (va_DT (hD _ rfl) rfl) (vp_in_iff.mpr (by decide))) (cwV 1 hts gX5_copy_X5_found rfl rfl rfl (by decide +kernel) ⟨Nat.le_of_ble_eq_true rfl, Nat.le_of_ble_eq_true rfl⟩) ⟨PcR_fb, va_recv hK hP (ci := 3) (q0 := 0) rfl rfl, PcR_pre hP hK⟩ rfl rfl hl.1 rfl (lv_room (Nat.le_of_ble_eq_true rfl)) dX5_copy_56 ⟨Nat.zero_le _, Nat.zero_le _⟩) hP (hD _ rfl) hS 0 49 rfl (fun r_202 u_201 H locs hu_201 hP hS => ?_)
            obtain ⟨hu_201r, -⟩ := hu_201
            subst hu_201r
            have hP : va_P D vwCl (kcw cI cL cS b s1 w1 m1 n1 s2 w2 m2 n2 s3 w3 m3 n3 ik bt ln tk sb en nm bits size num (bump fnd (-1000000006))) H := hP
            exact W.iret hx hb hr (fun t ht hW => ⟨⟨_, (num, bump fnd (-1000000006)), rfl, (by exact ((iF_t ⟨hs, htt⟩).trans (iF_t (Or.inl c_200b))).symm), by dsimp only; rw [ht]; exact hP⟩, hS.F ht⟩) hS.2.2 dX5_copy_59
          · skip
            have c_200b := bI_0 c_200
            refine lv_aload hx hb dX5_copy_45 (lv_at hl 0 rfl) ?_
            refine callE (W.runV (As := []) (rest := []) ⟨hx, hb, hml, hown, hts⟩ (k_X2_isMissing l D cI cL cS (b 7 1) (b 8 1) (bits 1) (size 1) (num 1)) (cwV 0 hts gX5_copy_X2_isMissing rfl rfl rfl (by decide +kernel) ⟨Nat.le_of_ble_eq_true rfl, Nat.le_of_ble_eq_true rfl⟩) ⟨PcR_fb, va_recv hK hP (ci := 0) (q0 := 42) rfl rfl, PcR_pre (va_seg hP 42 2 rfl) hK⟩ rfl rfl hl.1 rfl (lv_room (Nat.le_of_ble_eq_true rfl)) dX5_copy_47 ⟨Nat.zero_le _, Nat.zero_le _⟩) ?_
            refine lv_if_eq (tgt := 60) hx hb dX5_copy_50 (by decide) (fun c_203 => ?_) (fun c_203 => ?_)
            · skip
              have c_203b := bI_0 c_203
              refine lv_aload hx hb dX5_copy_60 (lv_at hl 1 rfl) ?_
              refine va_get (ci := 0) (v := .int (bits 3)) (C := RX2) (T := TX2) (N := 3) hx hb hts inX2 hown hK hP 46 rfl rfl 0 (by decide) f206 (fun _ h9 => h9) rfl dX5_copy_62 ?_
              refine lv_aload hx hb dX5_copy_65 (lv_at hl 0 rfl) ?_
              refine va_get (ci := 0) (v := .int (bits 1)) (C := RX2) (T := TX2) (N := 3) hx hb hts inX2 hown hK hP 42 rfl rfl 0 (by decide) f206 (fun _ h9 => h9) rfl dX5_copy_67 ?_
              refine lv_icmp_eq (tgt := 80) hx hb dX5_copy_70 (by decide) (fun c_204 => ?_) (fun c_204 => ?_)
              · skip
                refine lv_aload hx hb dX5_copy_80 (lv_at hl 1 rfl) ?_
                refine lv_iload_n hx hb dX5_copy_82 rfl (lv_at hl 4 rfl) ?_
                refine lv_iload hx hb dX5_copy_83 (lv_at hl 7 rfl) ?_
                refine callE (W.runV (As := [.int x1, .int x4]) (rest := []) ⟨hx, hb, hml, hown, hts⟩ (k_X2_hasRun l D cI cL cS (b 7 3) (b 8 3) (bits 3) (size 3) (num 3) x1 x4) (cwV 2 hts gX5_copy_X2_hasRun rfl rfl rfl (by decide +kernel) ⟨Nat.le_of_ble_eq_true rfl, Nat.le_of_ble_eq_true rfl⟩) ⟨PcR_fb, va_recv hK hP (ci := 0) (q0 := 46) rfl rfl, PcR_pre (va_seg hP 46 2 rfl) hK⟩ rfl rfl hl.1 rfl (lv_room (Nat.le_of_ble_eq_true rfl)) dX5_copy_85 ⟨Nat.zero_le _, Nat.zero_le _⟩) ?_
                refine lv_if_eq (tgt := 103) hx hb dX5_copy_88 (by decide) (fun c_205 => ?_) (fun c_205 => ?_)
                · skip
                  have c_205b := bI_0 c_205
                  refine lv_aload_n hx hb dX5_copy_103 rfl (lv_at hl 2 rfl) ?_
                  refine lv_ldc hx hb hown k52 dX5_copy_104 ?_
                  refine callMi (va_runV (As := [.int (-1000000001)]) (rest := []) ⟨hx, hb, hml, hown, hts⟩ (k_X5_found l D cI cL cS b s1 w1 m1 n1 s2 w2 m2 n2 s3 w3 m3 n3 ik bt ln tk sb en nm bits size num fnd (-1000000001) (va_DT (hD _ rfl) rfl) (vp_in_iff.mpr (by decide))) (cwV 1 hts gX5_copy_X5_found rfl rfl rfl (by decide +kernel) ⟨Nat.le_of_ble_eq_true rfl, Nat.le_of_ble_eq_true rfl⟩) ⟨PcR_fb, va_recv hK hP (ci := 3) (q0 := 0) rfl rfl, PcR_pre hP hK⟩ rfl rfl hl.1 rfl (lv_room (Nat.le_of_ble_eq_true rfl)) dX5_copy_106 ⟨Nat.zero_le _, Nat.zero_le _⟩) hP (hD _ rfl) hS 0 49 rfl (fun r_207 u_206 H locs hu_206 hP hS => ?_)
                  obtain ⟨hu_206r, -⟩ := hu_206
                  subst hu_206r
                  have hP : va_P D vwCl (kcw cI cL cS b s1 w1 m1 n1 s2 w2 m2 n2 s3 w3 m3 n3 ik bt ln tk sb en nm bits size num (bump fnd (-1000000001))) H := hP
                  exact W.iret hx hb hr (fun t ht hW => ⟨⟨_, (num, bump fnd (-1000000001)), rfl, (by exact ((iF_t ⟨hs, htt⟩).trans ((iF_f (fun h => h.elim c_200b c_203b)).trans ((iF_t c_204).trans (iF_f (fun h => by first | exact absurd h.1 c_205b | exact absurd c_205b h.1 | exact absurd h.2 c_205b | exact absurd c_205b h.2))))).symm), by dsimp only; rw [ht]; exact hP⟩, hS.F ht⟩) hS.2.2 dX5_copy_109
                · skip
                  have c_205b := bI_n c_205
                  have hr1 := c_205b
                  refine lv_aload hx hb dX5_copy_91 (lv_at hl 0 rfl) ?_
                  refine lv_iload hx hb dX5_copy_93 (lv_at hl 6 rfl) ?_
                  refine lv_iload hx hb dX5_copy_95 (lv_at hl 7 rfl) ?_
                  refine callE (W.runV (As := [.int x3, .int x4]) (rest := []) ⟨hx, hb, hml, hown, hts⟩ (k_X2_hasRun l D cI cL cS (b 7 1) (b 8 1) (bits 1) (size 1) (num 1) x3 x4) (cwV 2 hts gX5_copy_X2_hasRun rfl rfl rfl (by decide +kernel) ⟨Nat.le_of_ble_eq_true rfl, Nat.le_of_ble_eq_true rfl⟩) ⟨PcR_fb, va_recv hK hP (ci := 0) (q0 := 42) rfl rfl, PcR_pre (va_seg hP 42 2 rfl) hK⟩ rfl rfl hl.1 rfl (lv_room (Nat.le_of_ble_eq_true rfl)) dX5_copy_97 ⟨Nat.zero_le _, Nat.zero_le _⟩) ?_
                  refine lv_if_ne (tgt := 110) hx hb dX5_copy_100 (by decide) (fun c_208 => ?_) (fun c_208 => ?_)
                  · skip
                    have c_208b := bI_n c_208
                    have hr2 := c_208b
                    refine lv_aload hx hb dX5_copy_110 (lv_at hl 1 rfl) ?_
                    refine va_get (ci := 0) (v := .ref (b 8 3)) (C := RX2) (T := TX2) (N := 3) hx hb hts inX2 hown hK hP 46 rfl rfl 2 (by decide) f198 (fun _ h9 => h9) rfl dX5_copy_112 ?_
                    refine lv_iload_n hx hb dX5_copy_115 rfl (lv_at hl 4 rfl) ?_
                    refine lv_aload hx hb dX5_copy_116 (lv_at hl 0 rfl) ?_
                    refine va_get (ci := 0) (v := .ref (b 8 1)) (C := RX2) (T := TX2) (N := 3) hx hb hts inX2 hown hK hP 42 rfl rfl 2 (by decide) f198 (fun _ h9 => h9) rfl dX5_copy_118 ?_
                    refine lv_iload hx hb dX5_copy_121 (lv_at hl 6 rfl) ?_
                    refine lv_iload hx hb dX5_copy_123 (lv_at hl 7 rfl) ?_
                    refine va_copyL hx hb (by rw [hml]; exact hl.1.symm) hown ml212 nAc sAc iSys hK hP (hD _ rfl) hS 47 43 1 1 rfl rfl rfl rfl hr1.1 hr2.1 hr1.2.1 (by have := run_in hz hr1; omega) (by have := run_in hy hr2; omega) (Nat.le_of_ble_eq_true rfl) (Nat.le_of_ble_eq_true rfl) dX5_copy_125 (fun H locs hP hS => ?_)
                    have hP : va_P D vwCl (kcw cI cL cS b s1 w1 m1 n1 s2 w2 m2 n2 s3 w3 m3 n3 ik bt ln tk sb en nm bits size (va_up num 1 (va_cpy (num 3) (num 1) (ix x1) (ix x3) (ix x4))) fnd) H := hP
                    refine lv_iload hx hb dX5_copy_128 (lv_at hl 7 rfl) ?_
                    exact W.iret hx hb hr (fun t ht hW => ⟨⟨_, ((va_up num 1 (va_cpy (num 3) (num 1) (ix x1) (ix x3) (ix x4))), fnd), rfl, (by exact ((iF_t ⟨hs, htt⟩).trans ((iF_f (fun h => h.elim c_200b c_203b)).trans ((iF_t c_204).trans (iF_t ⟨hr1, hr2⟩)))).symm), by dsimp only; rw [ht]; exact hP⟩, hS.F ht⟩) hS.2.2 dX5_copy_130
                  · skip
                    have c_208b := bI_0 c_208
                    refine lv_aload_n hx hb dX5_copy_103 rfl (lv_at hl 2 rfl) ?_
                    refine lv_ldc hx hb hown k52 dX5_copy_104 ?_
                    refine callMi (va_runV (As := [.int (-1000000001)]) (rest := []) ⟨hx, hb, hml, hown, hts⟩ (k_X5_found l D cI cL cS b s1 w1 m1 n1 s2 w2 m2 n2 s3 w3 m3 n3 ik bt ln tk sb en nm bits size num fnd (-1000000001) (va_DT (hD _ rfl) rfl) (vp_in_iff.mpr (by decide))) (cwV 1 hts gX5_copy_X5_found rfl rfl rfl (by decide +kernel) ⟨Nat.le_of_ble_eq_true rfl, Nat.le_of_ble_eq_true rfl⟩) ⟨PcR_fb, va_recv hK hP (ci := 3) (q0 := 0) rfl rfl, PcR_pre hP hK⟩ rfl rfl hl.1 rfl (lv_room (Nat.le_of_ble_eq_true rfl)) dX5_copy_106 ⟨Nat.zero_le _, Nat.zero_le _⟩) hP (hD _ rfl) hS 0 49 rfl (fun r_210 u_209 H locs hu_209 hP hS => ?_)
                    obtain ⟨hu_209r, -⟩ := hu_209
                    subst hu_209r
                    have hP : va_P D vwCl (kcw cI cL cS b s1 w1 m1 n1 s2 w2 m2 n2 s3 w3 m3 n3 ik bt ln tk sb en nm bits size num (bump fnd (-1000000001))) H := hP
                    exact W.iret hx hb hr (fun t ht hW => ⟨⟨_, (num, bump fnd (-1000000001)), rfl, (by exact ((iF_t ⟨hs, htt⟩).trans ((iF_f (fun h => h.elim c_200b c_203b)).trans ((iF_t c_204).trans (iF_f (fun h => by first | exact absurd h.1 c_208b | exact absurd c_208b h.1 | exact absurd h.2 c_208b | exact absurd c_208b h.2))))).symm), by dsimp only; rw [ht]; exact hP⟩, hS.F ht⟩) hS.2.2 dX5_copy_109
              · skip
                refine lv_aload_n hx hb dX5_copy_73 rfl (lv_at hl 2 rfl) ?_
                refine lv_ldc hx hb hown k144 dX5_copy_74 ?_
                refine callMi (va_runV (As := [.int (-1000000003)]) (rest := []) ⟨hx, hb, hml, hown, hts⟩ (k_X5_found l D cI cL cS b s1 w1 m1 n1 s2 w2 m2 n2 s3 w3 m3 n3 ik bt ln tk sb en nm bits size num fnd (-1000000003) (va_DT (hD _ rfl) rfl) (vp_in_iff.mpr (by decide))) (cwV 1 hts gX5_copy_X5_found rfl rfl rfl (by decide +kernel) ⟨Nat.le_of_ble_eq_true rfl, Nat.le_of_ble_eq_true rfl⟩) ⟨PcR_fb, va_recv hK hP (ci := 3) (q0 := 0) rfl rfl, PcR_pre hP hK⟩ rfl rfl hl.1 rfl (lv_room (Nat.le_of_ble_eq_true rfl)) dX5_copy_76 ⟨Nat.zero_le _, Nat.zero_le _⟩) hP (hD _ rfl) hS 0 49 rfl (fun r_212 u_211 H locs hu_211 hP hS => ?_)
                obtain ⟨hu_211r, -⟩ := hu_211
                subst hu_211r
                have hP : va_P D vwCl (kcw cI cL cS b s1 w1 m1 n1 s2 w2 m2 n2 s3 w3 m3 n3 ik bt ln tk sb en nm bits size num (bump fnd (-1000000003))) H := hP
                exact W.iret hx hb hr (fun t ht hW => ⟨⟨_, (num, bump fnd (-1000000003)), rfl, (by exact ((iF_t ⟨hs, htt⟩).trans ((iF_f (fun h => h.elim c_200b c_203b)).trans (iF_f c_204))).symm), by dsimp only; rw [ht]; exact hP⟩, hS.F ht⟩) hS.2.2 dX5_copy_79
            · skip
              have c_203b := bI_n c_203
              refine lv_aload_n hx hb dX5_copy_53 rfl (lv_at hl 2 rfl) ?_
              refine lv_ldc hx hb hown k196 dX5_copy_54 ?_
              refine callMi (va_runV (As := [.int (-1000000006)]) (rest := []) ⟨hx, hb, hml, hown, hts⟩ (k_X5_found l D cI cL cS b s1 w1 m1 n1 s2 w2 m2 n2 s3 w3 m3 n3 ik bt ln tk sb en nm bits size num fnd (-1000000006) (va_DT (hD _ rfl) rfl) (vp_in_iff.mpr (by decide))) (cwV 1 hts gX5_copy_X5_found rfl rfl rfl (by decide +kernel) ⟨Nat.le_of_ble_eq_true rfl, Nat.le_of_ble_eq_true rfl⟩) ⟨PcR_fb, va_recv hK hP (ci := 3) (q0 := 0) rfl rfl, PcR_pre hP hK⟩ rfl rfl hl.1 rfl (lv_room (Nat.le_of_ble_eq_true rfl)) dX5_copy_56 ⟨Nat.zero_le _, Nat.zero_le _⟩) hP (hD _ rfl) hS 0 49 rfl (fun r_214 u_213 H locs hu_213 hP hS => ?_)
              obtain ⟨hu_213r, -⟩ := hu_213
              subst hu_213r
              have hP : va_P D vwCl (kcw cI cL cS b s1 w1 m1 n1 s2 w2 m2 n2 s3 w3 m3 n3 ik bt ln tk sb en nm bits size num (bump fnd (-1000000006))) H := hP
              exact W.iret hx hb hr (fun t ht hW => ⟨⟨_, (num, bump fnd (-1000000006)), rfl, (by exact ((iF_t ⟨hs, htt⟩).trans (iF_t (Or.inr c_203b))).symm), by dsimp only; rw [ht]; exact hP⟩, hS.F ht⟩) hS.2.2 dX5_copy_59
        · skip
          have hz := (oh 3 (by decide)).1
          have hy := (oh 2 (by decide)).1
          refine lv_aload_n hx hb dX5_copy_21 rfl (lv_at hl 0 rfl) ?_
          refine va_get (ci := 3) (v := .ref (b 6 0)) (C := RX5) (T := TX5) (N := 7) hx hb hts inX5 hown hK hP 0 rfl rfl 5 (by decide) f35 (fun _ h9 => h9) rfl dX5_copy_22 ?_
          refine lv_iload_n hx hb dX5_copy_25 rfl (lv_at hl 1 rfl) ?_
          refine va_aldq (f := fun s => some (b 7 s)) hx hb hK hP 39 2 rfl rfl (vp_in_iff.mpr (by decide)) dX5_copy_26 ?_
          refine W.eq (g2 := F0 m 27 ls [.ref (b 7 3)]) rfl ?_
          refine lv_astore (lv' := [(6, .ref (b 7 3)), (0, .ref (b 0 0)), (1, .int 3), (2, .int x1), (3, .int 2), (4, .int x3), (5, .int x4)]) hx hb dX5_copy_27 hl (by decide) rfl (fun ls hl => ?_)
          refine lv_aload_n hx hb dX5_copy_29 rfl (lv_at hl 1 rfl) ?_
          refine va_get (ci := 3) (v := .ref (b 6 0)) (C := RX5) (T := TX5) (N := 7) hx hb hts inX5 hown hK hP 0 rfl rfl 5 (by decide) f35 (fun _ h9 => h9) rfl dX5_copy_30 ?_
          refine lv_iload_n hx hb dX5_copy_33 rfl (lv_at hl 4 rfl) ?_
          refine va_aldq (f := fun s => some (b 7 s)) hx hb hK hP 39 2 rfl rfl (vp_in_iff.mpr (by decide)) dX5_copy_34 ?_
          refine W.eq (g2 := F0 m 35 ls [.ref (b 7 2)]) rfl ?_
          refine lv_astore (lv' := [(7, .ref (b 7 2)), (6, .ref (b 7 3)), (0, .ref (b 0 0)), (1, .int 3), (2, .int x1), (3, .int 2), (4, .int x3), (5, .int x4)]) hx hb dX5_copy_35 hl (by decide) rfl (fun ls hl => ?_)
          refine lv_aload hx hb dX5_copy_37 (lv_at hl 1 rfl) ?_
          refine callE (W.runV (As := []) (rest := []) ⟨hx, hb, hml, hown, hts⟩ (k_X2_isMissing l D cI cL cS (b 7 3) (b 8 3) (bits 3) (size 3) (num 3)) (cwV 0 hts gX5_copy_X2_isMissing rfl rfl rfl (by decide +kernel) ⟨Nat.le_of_ble_eq_true rfl, Nat.le_of_ble_eq_true rfl⟩) ⟨PcR_fb, va_recv hK hP (ci := 0) (q0 := 46) rfl rfl, PcR_pre (va_seg hP 46 2 rfl) hK⟩ rfl rfl hl.1 rfl (lv_room (Nat.le_of_ble_eq_true rfl)) dX5_copy_39 ⟨Nat.zero_le _, Nat.zero_le _⟩) ?_
          refine lv_if_ne (tgt := 53) hx hb dX5_copy_42 (by decide) (fun c_215 => ?_) (fun c_215 => ?_)
          · skip
            have c_215b := bI_n c_215
            refine lv_aload_n hx hb dX5_copy_53 rfl (lv_at hl 2 rfl) ?_
            refine lv_ldc hx hb hown k196 dX5_copy_54 ?_
            refine callMi (va_runV (As := [.int (-1000000006)]) (rest := []) ⟨hx, hb, hml, hown, hts⟩ (k_X5_found l D cI cL cS b s1 w1 m1 n1 s2 w2 m2 n2 s3 w3 m3 n3 ik bt ln tk sb en nm bits size num fnd (-1000000006) (va_DT (hD _ rfl) rfl) (vp_in_iff.mpr (by decide))) (cwV 1 hts gX5_copy_X5_found rfl rfl rfl (by decide +kernel) ⟨Nat.le_of_ble_eq_true rfl, Nat.le_of_ble_eq_true rfl⟩) ⟨PcR_fb, va_recv hK hP (ci := 3) (q0 := 0) rfl rfl, PcR_pre hP hK⟩ rfl rfl hl.1 rfl (lv_room (Nat.le_of_ble_eq_true rfl)) dX5_copy_56 ⟨Nat.zero_le _, Nat.zero_le _⟩) hP (hD _ rfl) hS 0 49 rfl (fun r_217 u_216 H locs hu_216 hP hS => ?_)
            obtain ⟨hu_216r, -⟩ := hu_216
            subst hu_216r
            have hP : va_P D vwCl (kcw cI cL cS b s1 w1 m1 n1 s2 w2 m2 n2 s3 w3 m3 n3 ik bt ln tk sb en nm bits size num (bump fnd (-1000000006))) H := hP
            exact W.iret hx hb hr (fun t ht hW => ⟨⟨_, (num, bump fnd (-1000000006)), rfl, (by exact ((iF_t ⟨hs, htt⟩).trans (iF_t (Or.inl c_215b))).symm), by dsimp only; rw [ht]; exact hP⟩, hS.F ht⟩) hS.2.2 dX5_copy_59
          · skip
            have c_215b := bI_0 c_215
            refine lv_aload hx hb dX5_copy_45 (lv_at hl 0 rfl) ?_
            refine callE (W.runV (As := []) (rest := []) ⟨hx, hb, hml, hown, hts⟩ (k_X2_isMissing l D cI cL cS (b 7 2) (b 8 2) (bits 2) (size 2) (num 2)) (cwV 0 hts gX5_copy_X2_isMissing rfl rfl rfl (by decide +kernel) ⟨Nat.le_of_ble_eq_true rfl, Nat.le_of_ble_eq_true rfl⟩) ⟨PcR_fb, va_recv hK hP (ci := 0) (q0 := 44) rfl rfl, PcR_pre (va_seg hP 44 2 rfl) hK⟩ rfl rfl hl.1 rfl (lv_room (Nat.le_of_ble_eq_true rfl)) dX5_copy_47 ⟨Nat.zero_le _, Nat.zero_le _⟩) ?_
            refine lv_if_eq (tgt := 60) hx hb dX5_copy_50 (by decide) (fun c_218 => ?_) (fun c_218 => ?_)
            · skip
              have c_218b := bI_0 c_218
              refine lv_aload hx hb dX5_copy_60 (lv_at hl 1 rfl) ?_
              refine va_get (ci := 0) (v := .int (bits 3)) (C := RX2) (T := TX2) (N := 3) hx hb hts inX2 hown hK hP 46 rfl rfl 0 (by decide) f206 (fun _ h9 => h9) rfl dX5_copy_62 ?_
              refine lv_aload hx hb dX5_copy_65 (lv_at hl 0 rfl) ?_
              refine va_get (ci := 0) (v := .int (bits 2)) (C := RX2) (T := TX2) (N := 3) hx hb hts inX2 hown hK hP 44 rfl rfl 0 (by decide) f206 (fun _ h9 => h9) rfl dX5_copy_67 ?_
              refine lv_icmp_eq (tgt := 80) hx hb dX5_copy_70 (by decide) (fun c_219 => ?_) (fun c_219 => ?_)
              · skip
                refine lv_aload hx hb dX5_copy_80 (lv_at hl 1 rfl) ?_
                refine lv_iload_n hx hb dX5_copy_82 rfl (lv_at hl 4 rfl) ?_
                refine lv_iload hx hb dX5_copy_83 (lv_at hl 7 rfl) ?_
                refine callE (W.runV (As := [.int x1, .int x4]) (rest := []) ⟨hx, hb, hml, hown, hts⟩ (k_X2_hasRun l D cI cL cS (b 7 3) (b 8 3) (bits 3) (size 3) (num 3) x1 x4) (cwV 2 hts gX5_copy_X2_hasRun rfl rfl rfl (by decide +kernel) ⟨Nat.le_of_ble_eq_true rfl, Nat.le_of_ble_eq_true rfl⟩) ⟨PcR_fb, va_recv hK hP (ci := 0) (q0 := 46) rfl rfl, PcR_pre (va_seg hP 46 2 rfl) hK⟩ rfl rfl hl.1 rfl (lv_room (Nat.le_of_ble_eq_true rfl)) dX5_copy_85 ⟨Nat.zero_le _, Nat.zero_le _⟩) ?_
                refine lv_if_eq (tgt := 103) hx hb dX5_copy_88 (by decide) (fun c_220 => ?_) (fun c_220 => ?_)
                · skip
                  have c_220b := bI_0 c_220
                  refine lv_aload_n hx hb dX5_copy_103 rfl (lv_at hl 2 rfl) ?_
                  refine lv_ldc hx hb hown k52 dX5_copy_104 ?_
                  refine callMi (va_runV (As := [.int (-1000000001)]) (rest := []) ⟨hx, hb, hml, hown, hts⟩ (k_X5_found l D cI cL cS b s1 w1 m1 n1 s2 w2 m2 n2 s3 w3 m3 n3 ik bt ln tk sb en nm bits size num fnd (-1000000001) (va_DT (hD _ rfl) rfl) (vp_in_iff.mpr (by decide))) (cwV 1 hts gX5_copy_X5_found rfl rfl rfl (by decide +kernel) ⟨Nat.le_of_ble_eq_true rfl, Nat.le_of_ble_eq_true rfl⟩) ⟨PcR_fb, va_recv hK hP (ci := 3) (q0 := 0) rfl rfl, PcR_pre hP hK⟩ rfl rfl hl.1 rfl (lv_room (Nat.le_of_ble_eq_true rfl)) dX5_copy_106 ⟨Nat.zero_le _, Nat.zero_le _⟩) hP (hD _ rfl) hS 0 49 rfl (fun r_222 u_221 H locs hu_221 hP hS => ?_)
                  obtain ⟨hu_221r, -⟩ := hu_221
                  subst hu_221r
                  have hP : va_P D vwCl (kcw cI cL cS b s1 w1 m1 n1 s2 w2 m2 n2 s3 w3 m3 n3 ik bt ln tk sb en nm bits size num (bump fnd (-1000000001))) H := hP
                  exact W.iret hx hb hr (fun t ht hW => ⟨⟨_, (num, bump fnd (-1000000001)), rfl, (by exact ((iF_t ⟨hs, htt⟩).trans ((iF_f (fun h => h.elim c_215b c_218b)).trans ((iF_t c_219).trans (iF_f (fun h => by first | exact absurd h.1 c_220b | exact absurd c_220b h.1 | exact absurd h.2 c_220b | exact absurd c_220b h.2))))).symm), by dsimp only; rw [ht]; exact hP⟩, hS.F ht⟩) hS.2.2 dX5_copy_109
                · skip
                  have c_220b := bI_n c_220
                  have hr1 := c_220b
                  refine lv_aload hx hb dX5_copy_91 (lv_at hl 0 rfl) ?_
                  refine lv_iload hx hb dX5_copy_93 (lv_at hl 6 rfl) ?_
                  refine lv_iload hx hb dX5_copy_95 (lv_at hl 7 rfl) ?_
                  refine callE (W.runV (As := [.int x3, .int x4]) (rest := []) ⟨hx, hb, hml, hown, hts⟩ (k_X2_hasRun l D cI cL cS (b 7 2) (b 8 2) (bits 2) (size 2) (num 2) x3 x4) (cwV 2 hts gX5_copy_X2_hasRun rfl rfl rfl (by decide +kernel) ⟨Nat.le_of_ble_eq_true rfl, Nat.le_of_ble_eq_true rfl⟩) ⟨PcR_fb, va_recv hK hP (ci := 0) (q0 := 44) rfl rfl, PcR_pre (va_seg hP 44 2 rfl) hK⟩ rfl rfl hl.1 rfl (lv_room (Nat.le_of_ble_eq_true rfl)) dX5_copy_97 ⟨Nat.zero_le _, Nat.zero_le _⟩) ?_
                  refine lv_if_ne (tgt := 110) hx hb dX5_copy_100 (by decide) (fun c_223 => ?_) (fun c_223 => ?_)
                  · skip
                    have c_223b := bI_n c_223
                    have hr2 := c_223b
                    refine lv_aload hx hb dX5_copy_110 (lv_at hl 1 rfl) ?_
                    refine va_get (ci := 0) (v := .ref (b 8 3)) (C := RX2) (T := TX2) (N := 3) hx hb hts inX2 hown hK hP 46 rfl rfl 2 (by decide) f198 (fun _ h9 => h9) rfl dX5_copy_112 ?_
                    refine lv_iload_n hx hb dX5_copy_115 rfl (lv_at hl 4 rfl) ?_
                    refine lv_aload hx hb dX5_copy_116 (lv_at hl 0 rfl) ?_
                    refine va_get (ci := 0) (v := .ref (b 8 2)) (C := RX2) (T := TX2) (N := 3) hx hb hts inX2 hown hK hP 44 rfl rfl 2 (by decide) f198 (fun _ h9 => h9) rfl dX5_copy_118 ?_
                    refine lv_iload hx hb dX5_copy_121 (lv_at hl 6 rfl) ?_
                    refine lv_iload hx hb dX5_copy_123 (lv_at hl 7 rfl) ?_
                    refine va_copyL hx hb (by rw [hml]; exact hl.1.symm) hown ml212 nAc sAc iSys hK hP (hD _ rfl) hS 47 45 1 1 rfl rfl rfl rfl hr1.1 hr2.1 hr1.2.1 (by have := run_in hz hr1; omega) (by have := run_in hy hr2; omega) (Nat.le_of_ble_eq_true rfl) (Nat.le_of_ble_eq_true rfl) dX5_copy_125 (fun H locs hP hS => ?_)
                    have hP : va_P D vwCl (kcw cI cL cS b s1 w1 m1 n1 s2 w2 m2 n2 s3 w3 m3 n3 ik bt ln tk sb en nm bits size (va_up num 2 (va_cpy (num 3) (num 2) (ix x1) (ix x3) (ix x4))) fnd) H := hP
                    refine lv_iload hx hb dX5_copy_128 (lv_at hl 7 rfl) ?_
                    exact W.iret hx hb hr (fun t ht hW => ⟨⟨_, ((va_up num 2 (va_cpy (num 3) (num 2) (ix x1) (ix x3) (ix x4))), fnd), rfl, (by exact ((iF_t ⟨hs, htt⟩).trans ((iF_f (fun h => h.elim c_215b c_218b)).trans ((iF_t c_219).trans (iF_t ⟨hr1, hr2⟩)))).symm), by dsimp only; rw [ht]; exact hP⟩, hS.F ht⟩) hS.2.2 dX5_copy_130
                  · skip
                    have c_223b := bI_0 c_223
                    refine lv_aload_n hx hb dX5_copy_103 rfl (lv_at hl 2 rfl) ?_
                    refine lv_ldc hx hb hown k52 dX5_copy_104 ?_
                    refine callMi (va_runV (As := [.int (-1000000001)]) (rest := []) ⟨hx, hb, hml, hown, hts⟩ (k_X5_found l D cI cL cS b s1 w1 m1 n1 s2 w2 m2 n2 s3 w3 m3 n3 ik bt ln tk sb en nm bits size num fnd (-1000000001) (va_DT (hD _ rfl) rfl) (vp_in_iff.mpr (by decide))) (cwV 1 hts gX5_copy_X5_found rfl rfl rfl (by decide +kernel) ⟨Nat.le_of_ble_eq_true rfl, Nat.le_of_ble_eq_true rfl⟩) ⟨PcR_fb, va_recv hK hP (ci := 3) (q0 := 0) rfl rfl, PcR_pre hP hK⟩ rfl rfl hl.1 rfl (lv_room (Nat.le_of_ble_eq_true rfl)) dX5_copy_106 ⟨Nat.zero_le _, Nat.zero_le _⟩) hP (hD _ rfl) hS 0 49 rfl (fun r_225 u_224 H locs hu_224 hP hS => ?_)
                    obtain ⟨hu_224r, -⟩ := hu_224
                    subst hu_224r
                    have hP : va_P D vwCl (kcw cI cL cS b s1 w1 m1 n1 s2 w2 m2 n2 s3 w3 m3 n3 ik bt ln tk sb en nm bits size num (bump fnd (-1000000001))) H := hP
                    exact W.iret hx hb hr (fun t ht hW => ⟨⟨_, (num, bump fnd (-1000000001)), rfl, (by exact ((iF_t ⟨hs, htt⟩).trans ((iF_f (fun h => h.elim c_215b c_218b)).trans ((iF_t c_219).trans (iF_f (fun h => by first | exact absurd h.1 c_223b | exact absurd c_223b h.1 | exact absurd h.2 c_223b | exact absurd c_223b h.2))))).symm), by dsimp only; rw [ht]; exact hP⟩, hS.F ht⟩) hS.2.2 dX5_copy_109
              · skip
                refine lv_aload_n hx hb dX5_copy_73 rfl (lv_at hl 2 rfl) ?_
                refine lv_ldc hx hb hown k144 dX5_copy_74 ?_
                refine callMi (va_runV (As := [.int (-1000000003)]) (rest := []) ⟨hx, hb, hml, hown, hts⟩ (k_X5_found l D cI cL cS b s1 w1 m1 n1 s2 w2 m2 n2 s3 w3 m3 n3 ik bt ln tk sb en nm bits size num fnd (-1000000003) (va_DT (hD _ rfl) rfl) (vp_in_iff.mpr (by decide))) (cwV 1 hts gX5_copy_X5_found rfl rfl rfl (by decide +kernel) ⟨Nat.le_of_ble_eq_true rfl, Nat.le_of_ble_eq_true rfl⟩) ⟨PcR_fb, va_recv hK hP (ci := 3) (q0 := 0) rfl rfl, PcR_pre hP hK⟩ rfl rfl hl.1 rfl (lv_room (Nat.le_of_ble_eq_true rfl)) dX5_copy_76 ⟨Nat.zero_le _, Nat.zero_le _⟩) hP (hD _ rfl) hS 0 49 rfl (fun r_227 u_226 H locs hu_226 hP hS => ?_)
                obtain ⟨hu_226r, -⟩ := hu_226
                subst hu_226r
                have hP : va_P D vwCl (kcw cI cL cS b s1 w1 m1 n1 s2 w2 m2 n2 s3 w3 m3 n3 ik bt ln tk sb en nm bits size num (bump fnd (-1000000003))) H := hP
                exact W.iret hx hb hr (fun t ht hW => ⟨⟨_, (num, bump fnd (-1000000003)), rfl, (by exact ((iF_t ⟨hs, htt⟩).trans ((iF_f (fun h => h.elim c_215b c_218b)).trans (iF_f c_219))).symm), by dsimp only; rw [ht]; exact hP⟩, hS.F ht⟩) hS.2.2 dX5_copy_79
            · skip
              have c_218b := bI_n c_218
              refine lv_aload_n hx hb dX5_copy_53 rfl (lv_at hl 2 rfl) ?_
              refine lv_ldc hx hb hown k196 dX5_copy_54 ?_
              refine callMi (va_runV (As := [.int (-1000000006)]) (rest := []) ⟨hx, hb, hml, hown, hts⟩ (k_X5_found l D cI cL cS b s1 w1 m1 n1 s2 w2 m2 n2 s3 w3 m3 n3 ik bt ln tk sb en nm bits size num fnd (-1000000006) (va_DT (hD _ rfl) rfl) (vp_in_iff.mpr (by decide))) (cwV 1 hts gX5_copy_X5_found rfl rfl rfl (by decide +kernel) ⟨Nat.le_of_ble_eq_true rfl, Nat.le_of_ble_eq_true rfl⟩) ⟨PcR_fb, va_recv hK hP (ci := 3) (q0 := 0) rfl rfl, PcR_pre hP hK⟩ rfl rfl hl.1 rfl (lv_room (Nat.le_of_ble_eq_true rfl)) dX5_copy_56 ⟨Nat.zero_le _, Nat.zero_le _⟩) hP (hD _ rfl) hS 0 49 rfl (fun r_229 u_228 H locs hu_228 hP hS => ?_)
              obtain ⟨hu_228r, -⟩ := hu_228
              subst hu_228r
              have hP : va_P D vwCl (kcw cI cL cS b s1 w1 m1 n1 s2 w2 m2 n2 s3 w3 m3 n3 ik bt ln tk sb en nm bits size num (bump fnd (-1000000006))) H := hP
              exact W.iret hx hb hr (fun t ht hW => ⟨⟨_, (num, bump fnd (-1000000006)), rfl, (by exact ((iF_t ⟨hs, htt⟩).trans (iF_t (Or.inr c_218b))).symm), by dsimp only; rw [ht]; exact hP⟩, hS.F ht⟩) hS.2.2 dX5_copy_59
        · skip
          have hz := (oh 3 (by decide)).1
          have hy := (oh 3 (by decide)).1
          refine lv_aload_n hx hb dX5_copy_21 rfl (lv_at hl 0 rfl) ?_
          refine va_get (ci := 3) (v := .ref (b 6 0)) (C := RX5) (T := TX5) (N := 7) hx hb hts inX5 hown hK hP 0 rfl rfl 5 (by decide) f35 (fun _ h9 => h9) rfl dX5_copy_22 ?_
          refine lv_iload_n hx hb dX5_copy_25 rfl (lv_at hl 1 rfl) ?_
          refine va_aldq (f := fun s => some (b 7 s)) hx hb hK hP 39 2 rfl rfl (vp_in_iff.mpr (by decide)) dX5_copy_26 ?_
          refine W.eq (g2 := F0 m 27 ls [.ref (b 7 3)]) rfl ?_
          refine lv_astore (lv' := [(6, .ref (b 7 3)), (0, .ref (b 0 0)), (1, .int 3), (2, .int x1), (3, .int 3), (4, .int x3), (5, .int x4)]) hx hb dX5_copy_27 hl (by decide) rfl (fun ls hl => ?_)
          refine lv_aload_n hx hb dX5_copy_29 rfl (lv_at hl 1 rfl) ?_
          refine va_get (ci := 3) (v := .ref (b 6 0)) (C := RX5) (T := TX5) (N := 7) hx hb hts inX5 hown hK hP 0 rfl rfl 5 (by decide) f35 (fun _ h9 => h9) rfl dX5_copy_30 ?_
          refine lv_iload_n hx hb dX5_copy_33 rfl (lv_at hl 4 rfl) ?_
          refine va_aldq (f := fun s => some (b 7 s)) hx hb hK hP 39 2 rfl rfl (vp_in_iff.mpr (by decide)) dX5_copy_34 ?_
          refine W.eq (g2 := F0 m 35 ls [.ref (b 7 3)]) rfl ?_
          refine lv_astore (lv' := [(7, .ref (b 7 3)), (6, .ref (b 7 3)), (0, .ref (b 0 0)), (1, .int 3), (2, .int x1), (3, .int 3), (4, .int x3), (5, .int x4)]) hx hb dX5_copy_35 hl (by decide) rfl (fun ls hl => ?_)
          refine lv_aload hx hb dX5_copy_37 (lv_at hl 1 rfl) ?_
          refine callE (W.runV (As := []) (rest := []) ⟨hx, hb, hml, hown, hts⟩ (k_X2_isMissing l D cI cL cS (b 7 3) (b 8 3) (bits 3) (size 3) (num 3)) (cwV 0 hts gX5_copy_X2_isMissing rfl rfl rfl (by decide +kernel) ⟨Nat.le_of_ble_eq_true rfl, Nat.le_of_ble_eq_true rfl⟩) ⟨PcR_fb, va_recv hK hP (ci := 0) (q0 := 46) rfl rfl, PcR_pre (va_seg hP 46 2 rfl) hK⟩ rfl rfl hl.1 rfl (lv_room (Nat.le_of_ble_eq_true rfl)) dX5_copy_39 ⟨Nat.zero_le _, Nat.zero_le _⟩) ?_
          refine lv_if_ne (tgt := 53) hx hb dX5_copy_42 (by decide) (fun c_230 => ?_) (fun c_230 => ?_)
          · skip
            have c_230b := bI_n c_230
            refine lv_aload_n hx hb dX5_copy_53 rfl (lv_at hl 2 rfl) ?_
            refine lv_ldc hx hb hown k196 dX5_copy_54 ?_
            refine callMi (va_runV (As := [.int (-1000000006)]) (rest := []) ⟨hx, hb, hml, hown, hts⟩ (k_X5_found l D cI cL cS b s1 w1 m1 n1 s2 w2 m2 n2 s3 w3 m3 n3 ik bt ln tk sb en nm bits size num fnd (-1000000006) (va_DT (hD _ rfl) rfl) (vp_in_iff.mpr (by decide))) (cwV 1 hts gX5_copy_X5_found rfl rfl rfl (by decide +kernel) ⟨Nat.le_of_ble_eq_true rfl, Nat.le_of_ble_eq_true rfl⟩) ⟨PcR_fb, va_recv hK hP (ci := 3) (q0 := 0) rfl rfl, PcR_pre hP hK⟩ rfl rfl hl.1 rfl (lv_room (Nat.le_of_ble_eq_true rfl)) dX5_copy_56 ⟨Nat.zero_le _, Nat.zero_le _⟩) hP (hD _ rfl) hS 0 49 rfl (fun r_232 u_231 H locs hu_231 hP hS => ?_)
            obtain ⟨hu_231r, -⟩ := hu_231
            subst hu_231r
            have hP : va_P D vwCl (kcw cI cL cS b s1 w1 m1 n1 s2 w2 m2 n2 s3 w3 m3 n3 ik bt ln tk sb en nm bits size num (bump fnd (-1000000006))) H := hP
            exact W.iret hx hb hr (fun t ht hW => ⟨⟨_, (num, bump fnd (-1000000006)), rfl, (by exact ((iF_t ⟨hs, htt⟩).trans (iF_t (Or.inl c_230b))).symm), by dsimp only; rw [ht]; exact hP⟩, hS.F ht⟩) hS.2.2 dX5_copy_59
          · skip
            have c_230b := bI_0 c_230
            refine lv_aload hx hb dX5_copy_45 (lv_at hl 0 rfl) ?_
            refine callE (W.runV (As := []) (rest := []) ⟨hx, hb, hml, hown, hts⟩ (k_X2_isMissing l D cI cL cS (b 7 3) (b 8 3) (bits 3) (size 3) (num 3)) (cwV 0 hts gX5_copy_X2_isMissing rfl rfl rfl (by decide +kernel) ⟨Nat.le_of_ble_eq_true rfl, Nat.le_of_ble_eq_true rfl⟩) ⟨PcR_fb, va_recv hK hP (ci := 0) (q0 := 46) rfl rfl, PcR_pre (va_seg hP 46 2 rfl) hK⟩ rfl rfl hl.1 rfl (lv_room (Nat.le_of_ble_eq_true rfl)) dX5_copy_47 ⟨Nat.zero_le _, Nat.zero_le _⟩) ?_
            refine lv_if_eq (tgt := 60) hx hb dX5_copy_50 (by decide) (fun c_233 => ?_) (fun c_233 => ?_)
            · skip
              have c_233b := bI_0 c_233
              refine lv_aload hx hb dX5_copy_60 (lv_at hl 1 rfl) ?_
              refine va_get (ci := 0) (v := .int (bits 3)) (C := RX2) (T := TX2) (N := 3) hx hb hts inX2 hown hK hP 46 rfl rfl 0 (by decide) f206 (fun _ h9 => h9) rfl dX5_copy_62 ?_
              refine lv_aload hx hb dX5_copy_65 (lv_at hl 0 rfl) ?_
              refine va_get (ci := 0) (v := .int (bits 3)) (C := RX2) (T := TX2) (N := 3) hx hb hts inX2 hown hK hP 46 rfl rfl 0 (by decide) f206 (fun _ h9 => h9) rfl dX5_copy_67 ?_
              refine lv_icmp_eq (tgt := 80) hx hb dX5_copy_70 (by decide) (fun c_234 => ?_) (fun c_234 => ?_)
              · skip
                refine lv_aload hx hb dX5_copy_80 (lv_at hl 1 rfl) ?_
                refine lv_iload_n hx hb dX5_copy_82 rfl (lv_at hl 4 rfl) ?_
                refine lv_iload hx hb dX5_copy_83 (lv_at hl 7 rfl) ?_
                refine callE (W.runV (As := [.int x1, .int x4]) (rest := []) ⟨hx, hb, hml, hown, hts⟩ (k_X2_hasRun l D cI cL cS (b 7 3) (b 8 3) (bits 3) (size 3) (num 3) x1 x4) (cwV 2 hts gX5_copy_X2_hasRun rfl rfl rfl (by decide +kernel) ⟨Nat.le_of_ble_eq_true rfl, Nat.le_of_ble_eq_true rfl⟩) ⟨PcR_fb, va_recv hK hP (ci := 0) (q0 := 46) rfl rfl, PcR_pre (va_seg hP 46 2 rfl) hK⟩ rfl rfl hl.1 rfl (lv_room (Nat.le_of_ble_eq_true rfl)) dX5_copy_85 ⟨Nat.zero_le _, Nat.zero_le _⟩) ?_
                refine lv_if_eq (tgt := 103) hx hb dX5_copy_88 (by decide) (fun c_235 => ?_) (fun c_235 => ?_)
                · skip
                  have c_235b := bI_0 c_235
                  refine lv_aload_n hx hb dX5_copy_103 rfl (lv_at hl 2 rfl) ?_
                  refine lv_ldc hx hb hown k52 dX5_copy_104 ?_
                  refine callMi (va_runV (As := [.int (-1000000001)]) (rest := []) ⟨hx, hb, hml, hown, hts⟩ (k_X5_found l D cI cL cS b s1 w1 m1 n1 s2 w2 m2 n2 s3 w3 m3 n3 ik bt ln tk sb en nm bits size num fnd (-1000000001) (va_DT (hD _ rfl) rfl) (vp_in_iff.mpr (by decide))) (cwV 1 hts gX5_copy_X5_found rfl rfl rfl (by decide +kernel) ⟨Nat.le_of_ble_eq_true rfl, Nat.le_of_ble_eq_true rfl⟩) ⟨PcR_fb, va_recv hK hP (ci := 3) (q0 := 0) rfl rfl, PcR_pre hP hK⟩ rfl rfl hl.1 rfl (lv_room (Nat.le_of_ble_eq_true rfl)) dX5_copy_106 ⟨Nat.zero_le _, Nat.zero_le _⟩) hP (hD _ rfl) hS 0 49 rfl (fun r_237 u_236 H locs hu_236 hP hS => ?_)
                  obtain ⟨hu_236r, -⟩ := hu_236
                  subst hu_236r
                  have hP : va_P D vwCl (kcw cI cL cS b s1 w1 m1 n1 s2 w2 m2 n2 s3 w3 m3 n3 ik bt ln tk sb en nm bits size num (bump fnd (-1000000001))) H := hP
                  exact W.iret hx hb hr (fun t ht hW => ⟨⟨_, (num, bump fnd (-1000000001)), rfl, (by exact ((iF_t ⟨hs, htt⟩).trans ((iF_f (fun h => h.elim c_230b c_233b)).trans ((iF_t c_234).trans (iF_f (fun h => by first | exact absurd h.1 c_235b | exact absurd c_235b h.1 | exact absurd h.2 c_235b | exact absurd c_235b h.2))))).symm), by dsimp only; rw [ht]; exact hP⟩, hS.F ht⟩) hS.2.2 dX5_copy_109
                · skip
                  have c_235b := bI_n c_235
                  have hr1 := c_235b
                  refine lv_aload hx hb dX5_copy_91 (lv_at hl 0 rfl) ?_
                  refine lv_iload hx hb dX5_copy_93 (lv_at hl 6 rfl) ?_
                  refine lv_iload hx hb dX5_copy_95 (lv_at hl 7 rfl) ?_
                  refine callE (W.runV (As := [.int x3, .int x4]) (rest := []) ⟨hx, hb, hml, hown, hts⟩ (k_X2_hasRun l D cI cL cS (b 7 3) (b 8 3) (bits 3) (size 3) (num 3) x3 x4) (cwV 2 hts gX5_copy_X2_hasRun rfl rfl rfl (by decide +kernel) ⟨Nat.le_of_ble_eq_true rfl, Nat.le_of_ble_eq_true rfl⟩) ⟨PcR_fb, va_recv hK hP (ci := 0) (q0 := 46) rfl rfl, PcR_pre (va_seg hP 46 2 rfl) hK⟩ rfl rfl hl.1 rfl (lv_room (Nat.le_of_ble_eq_true rfl)) dX5_copy_97 ⟨Nat.zero_le _, Nat.zero_le _⟩) ?_
                  refine lv_if_ne (tgt := 110) hx hb dX5_copy_100 (by decide) (fun c_238 => ?_) (fun c_238 => ?_)
                  · skip
                    have c_238b := bI_n c_238
                    have hr2 := c_238b
                    refine lv_aload hx hb dX5_copy_110 (lv_at hl 1 rfl) ?_
                    refine va_get (ci := 0) (v := .ref (b 8 3)) (C := RX2) (T := TX2) (N := 3) hx hb hts inX2 hown hK hP 46 rfl rfl 2 (by decide) f198 (fun _ h9 => h9) rfl dX5_copy_112 ?_
                    refine lv_iload_n hx hb dX5_copy_115 rfl (lv_at hl 4 rfl) ?_
                    refine lv_aload hx hb dX5_copy_116 (lv_at hl 0 rfl) ?_
                    refine va_get (ci := 0) (v := .ref (b 8 3)) (C := RX2) (T := TX2) (N := 3) hx hb hts inX2 hown hK hP 46 rfl rfl 2 (by decide) f198 (fun _ h9 => h9) rfl dX5_copy_118 ?_
                    refine lv_iload hx hb dX5_copy_121 (lv_at hl 6 rfl) ?_
                    refine lv_iload hx hb dX5_copy_123 (lv_at hl 7 rfl) ?_
                    refine va_copyL hx hb (by rw [hml]; exact hl.1.symm) hown ml212 nAc sAc iSys hK hP (hD _ rfl) hS 47 47 1 1 rfl rfl rfl rfl hr1.1 hr2.1 hr1.2.1 (by have := run_in hz hr1; omega) (by have := run_in hy hr2; omega) (Nat.le_of_ble_eq_true rfl) (Nat.le_of_ble_eq_true rfl) dX5_copy_125 (fun H locs hP hS => ?_)
                    have hP : va_P D vwCl (kcw cI cL cS b s1 w1 m1 n1 s2 w2 m2 n2 s3 w3 m3 n3 ik bt ln tk sb en nm bits size (va_up num 3 (va_cpy (num 3) (num 3) (ix x1) (ix x3) (ix x4))) fnd) H := hP
                    refine lv_iload hx hb dX5_copy_128 (lv_at hl 7 rfl) ?_
                    exact W.iret hx hb hr (fun t ht hW => ⟨⟨_, ((va_up num 3 (va_cpy (num 3) (num 3) (ix x1) (ix x3) (ix x4))), fnd), rfl, (by exact ((iF_t ⟨hs, htt⟩).trans ((iF_f (fun h => h.elim c_230b c_233b)).trans ((iF_t c_234).trans (iF_t ⟨hr1, hr2⟩)))).symm), by dsimp only; rw [ht]; exact hP⟩, hS.F ht⟩) hS.2.2 dX5_copy_130
                  · skip
                    have c_238b := bI_0 c_238
                    refine lv_aload_n hx hb dX5_copy_103 rfl (lv_at hl 2 rfl) ?_
                    refine lv_ldc hx hb hown k52 dX5_copy_104 ?_
                    refine callMi (va_runV (As := [.int (-1000000001)]) (rest := []) ⟨hx, hb, hml, hown, hts⟩ (k_X5_found l D cI cL cS b s1 w1 m1 n1 s2 w2 m2 n2 s3 w3 m3 n3 ik bt ln tk sb en nm bits size num fnd (-1000000001) (va_DT (hD _ rfl) rfl) (vp_in_iff.mpr (by decide))) (cwV 1 hts gX5_copy_X5_found rfl rfl rfl (by decide +kernel) ⟨Nat.le_of_ble_eq_true rfl, Nat.le_of_ble_eq_true rfl⟩) ⟨PcR_fb, va_recv hK hP (ci := 3) (q0 := 0) rfl rfl, PcR_pre hP hK⟩ rfl rfl hl.1 rfl (lv_room (Nat.le_of_ble_eq_true rfl)) dX5_copy_106 ⟨Nat.zero_le _, Nat.zero_le _⟩) hP (hD _ rfl) hS 0 49 rfl (fun r_240 u_239 H locs hu_239 hP hS => ?_)
                    obtain ⟨hu_239r, -⟩ := hu_239
                    subst hu_239r
                    have hP : va_P D vwCl (kcw cI cL cS b s1 w1 m1 n1 s2 w2 m2 n2 s3 w3 m3 n3 ik bt ln tk sb en nm bits size num (bump fnd (-1000000001))) H := hP
                    exact W.iret hx hb hr (fun t ht hW => ⟨⟨_, (num, bump fnd (-1000000001)), rfl, (by exact ((iF_t ⟨hs, htt⟩).trans ((iF_f (fun h => h.elim c_230b c_233b)).trans ((iF_t c_234).trans (iF_f (fun h => by first | exact absurd h.1 c_238b | exact absurd c_238b h.1 | exact absurd h.2 c_238b | exact absurd c_238b h.2))))).symm), by dsimp only; rw [ht]; exact hP⟩, hS.F ht⟩) hS.2.2 dX5_copy_109
              · skip
                refine lv_aload_n hx hb dX5_copy_73 rfl (lv_at hl 2 rfl) ?_
                refine lv_ldc hx hb hown k144 dX5_copy_74 ?_
                refine callMi (va_runV (As := [.int (-1000000003)]) (rest := []) ⟨hx, hb, hml, hown, hts⟩ (k_X5_found l D cI cL cS b s1 w1 m1 n1 s2 w2 m2 n2 s3 w3 m3 n3 ik bt ln tk sb en nm bits size num fnd (-1000000003) (va_DT (hD _ rfl) rfl) (vp_in_iff.mpr (by decide))) (cwV 1 hts gX5_copy_X5_found rfl rfl rfl (by decide +kernel) ⟨Nat.le_of_ble_eq_true rfl, Nat.le_of_ble_eq_true rfl⟩) ⟨PcR_fb, va_recv hK hP (ci := 3) (q0 := 0) rfl rfl, PcR_pre hP hK⟩ rfl rfl hl.1 rfl (lv_room (Nat.le_of_ble_eq_true rfl)) dX5_copy_76 ⟨Nat.zero_le _, Nat.zero_le _⟩) hP (hD _ rfl) hS 0 49 rfl (fun r_242 u_241 H locs hu_241 hP hS => ?_)
                obtain ⟨hu_241r, -⟩ := hu_241
                subst hu_241r
                have hP : va_P D vwCl (kcw cI cL cS b s1 w1 m1 n1 s2 w2 m2 n2 s3 w3 m3 n3 ik bt ln tk sb en nm bits size num (bump fnd (-1000000003))) H := hP
                exact W.iret hx hb hr (fun t ht hW => ⟨⟨_, (num, bump fnd (-1000000003)), rfl, (by exact ((iF_t ⟨hs, htt⟩).trans ((iF_f (fun h => h.elim c_230b c_233b)).trans (iF_f c_234))).symm), by dsimp only; rw [ht]; exact hP⟩, hS.F ht⟩) hS.2.2 dX5_copy_79
            · skip
              have c_233b := bI_n c_233
              refine lv_aload_n hx hb dX5_copy_53 rfl (lv_at hl 2 rfl) ?_
              refine lv_ldc hx hb hown k196 dX5_copy_54 ?_
              refine callMi (va_runV (As := [.int (-1000000006)]) (rest := []) ⟨hx, hb, hml, hown, hts⟩ (k_X5_found l D cI cL cS b s1 w1 m1 n1 s2 w2 m2 n2 s3 w3 m3 n3 ik bt ln tk sb en nm bits size num fnd (-1000000006) (va_DT (hD _ rfl) rfl) (vp_in_iff.mpr (by decide))) (cwV 1 hts gX5_copy_X5_found rfl rfl rfl (by decide +kernel) ⟨Nat.le_of_ble_eq_true rfl, Nat.le_of_ble_eq_true rfl⟩) ⟨PcR_fb, va_recv hK hP (ci := 3) (q0 := 0) rfl rfl, PcR_pre hP hK⟩ rfl rfl hl.1 rfl (lv_room (Nat.le_of_ble_eq_true rfl)) dX5_copy_56 ⟨Nat.zero_le _, Nat.zero_le _⟩) hP (hD _ rfl) hS 0 49 rfl (fun r_244 u_243 H locs hu_243 hP hS => ?_)
              obtain ⟨hu_243r, -⟩ := hu_243
              subst hu_243r
              have hP : va_P D vwCl (kcw cI cL cS b s1 w1 m1 n1 s2 w2 m2 n2 s3 w3 m3 n3 ik bt ln tk sb en nm bits size num (bump fnd (-1000000006))) H := hP
              exact W.iret hx hb hr (fun t ht hW => ⟨⟨_, (num, bump fnd (-1000000006)), rfl, (by exact ((iF_t ⟨hs, htt⟩).trans (iF_t (Or.inr c_233b))).symm), by dsimp only; rw [ht]; exact hP⟩, hS.F ht⟩) hS.2.2 dX5_copy_59
    · skip
      have c_4b := bI_0 c_4
      refine lv_aload_n hx hb dX5_copy_14 rfl (lv_at hl 0 rfl) ?_
      refine lv_ldc hx hb hown k52 dX5_copy_15 ?_
      refine callMi (va_runV (As := [.int (-1000000001)]) (rest := []) ⟨hx, hb, hml, hown, hts⟩ (k_X5_found l D cI cL cS b s1 w1 m1 n1 s2 w2 m2 n2 s3 w3 m3 n3 ik bt ln tk sb en nm bits size num fnd (-1000000001) (va_DT (hD _ rfl) rfl) (vp_in_iff.mpr (by decide))) (cwV 1 hts gX5_copy_X5_found rfl rfl rfl (by decide +kernel) ⟨Nat.le_of_ble_eq_true rfl, Nat.le_of_ble_eq_true rfl⟩) ⟨PcR_fb, va_recv hK hP (ci := 3) (q0 := 0) rfl rfl, PcR_pre hP hK⟩ rfl rfl hl.1 rfl (lv_room (Nat.le_of_ble_eq_true rfl)) dX5_copy_17 ⟨Nat.zero_le _, Nat.zero_le _⟩) hP (hD _ rfl) hS 0 49 rfl (fun r_246 u_245 H locs hu_245 hP hS => ?_)
      obtain ⟨hu_245r, -⟩ := hu_245
      subst hu_245r
      have hP : va_P D vwCl (kcw cI cL cS b s1 w1 m1 n1 s2 w2 m2 n2 s3 w3 m3 n3 ik bt ln tk sb en nm bits size num (bump fnd (-1000000001))) H := hP
      exact W.iret hx hb hr (fun t ht hW => ⟨⟨_, (num, bump fnd (-1000000001)), rfl, (by exact (iF_f (fun h => by first | exact absurd h.1 c_4b | exact absurd c_4b h.1 | exact absurd h.2 c_4b | exact absurd c_4b h.2)).symm), by dsimp only; rw [ht]; exact hP⟩, hS.F ht⟩) hS.2.2 dX5_copy_20
