set_option maxRecDepth 100000 in
set_option maxHeartbeats 4000000 in
theorem k_X5_sheet (l : Launch) (D : va_G) (cI cL cS : ClassId) (b : Nat → Nat → Nat) (s1 : Sg) (w1 m1 n1 : FI) (s2 : Sg) (w2 m2 n2 : FI) (s3 : Sg) (w3 m3 n3 : FI) (ik : Int32) (bt : FI) (ln tk sb en nm : Int32) (bits size : FI) (num : Nat → FJ) (fnd : FI) (x0 : Int32) (x1 : Int32) (x2 : Int32) (dj : va_D (fun _ => True) (djk b))  : Met l yX5_sheet wsX5_sheet { frames := 2, cells := 0, slots := 0, locals := 46 } (PcR D vwCl (tyG cI cL cS) [.ref (b 0 0), .int x0, .int x1, .int x2] (kcw cI cL cS b s1 w1 m1 n1 s2 w2 m2 n2 s3 w3 m3 n3 ik bt ln tk sb en nm bits size num fnd)) (va_Qi (fun (r : Int32) (u : FI × FI × (Nat → FJ) × FI) => (r, u.1, u.2.1, u.2.2.1, u.2.2.2) = sSheet bits size num fnd x0 x1 x2) (fun u t => va_P D vwCl (kcw cI cL cS b s1 w1 m1 n1 s2 w2 m2 n2 s3 w3 m3 n3 ik bt ln tk sb en nm u.1 u.2.1 u.2.2.1 u.2.2.2) t.heap) (Aof (kcw cI cL cS b s1 w1 m1 n1 s2 w2 m2 n2 s3 w3 m3 n3 ik bt ln tk sb en nm bits size num fnd))) 0 0 (Aof (kcw cI cL cS b s1 w1 m1 n1 s2 w2 m2 n2 s3 w3 m3 n3 ik bt ln tk sb en nm bits size num fnd)) := by
  refine Met.ofW (cc := cX5_sheet) (maxL := 4) (ret := (some .int)) (by decide) rfl ?_
  intro p e s m args below meth c s₁ B hml hv
  obtain ⟨rfl, hP, hK⟩ := hv
  have hx := B.exec
  have hb := B.bytes
  have hr := B.returns
  have hts := atoms_spec (ws := wsX5_sheet) B.pre
  have hown : s.vm.findClass RX5 = some m.cls := findClass_of_methodNamed B.named
  have hlocks := B.notSynchronized
  obtain ⟨A, hAe⟩ : ∃ A, A = Aof (kcw cI cL cS b s1 w1 m1 n1 s2 w2 m2 n2 s3 w3 m3 n3 ik bt ln tk sb en nm bits size num fnd) := ⟨_, rfl⟩
  rw [← hAe]
  have hD : ∀ ws' : va_W, ws'.map Prod.fst = (kcw cI cL cS b s1 w1 m1 n1 s2 w2 m2 n2 s3 w3 m3 n3 ik bt ln tk sb en nm bits size num fnd).map Prod.fst → va_D A ws' := fun ws' e => by rw [hAe]; exact va_D_adr (va_D_self (va_D_adr dj rfl)) e
  have hS : va_S A s.heap s.heap [] := va_S.rf
  have hP : va_P D vwCl (kcw cI cL cS b s1 w1 m1 n1 s2 w2 m2 n2 s3 w3 m3 n3 ik bt ln tk sb en nm bits size num fnd) s.heap := hP
  have hl := lv_entry ([.ref (b 0 0), .int x0, .int x1, .int x2]) (n := 4) (Nat.le_of_ble_eq_true rfl)
  rw [lg_entry_eq]
  generalize (lg_sl ([.ref (b 0 0), .int x0, .int x1, .int x2]) ++ List.replicate (4 - (lg_sl ([.ref (b 0 0), .int x0, .int x1, .int x2])).length) Slot.unset).toArray = ls at hl ⊢
  have hl : lv_has ls 4 [(0, .ref (b 0 0)), (1, .int x0), (2, .int x1), (3, .int x2)] := hl
  have k52 := hts (.constant RX5 52 (-1000000001)) (List.mem_of_getElem? (i := 1) rfl)
  have f35 := hts (.fieldLink RX5 35 "KnivesLaid" "sheets" "[LKnivesLaid$Sheet;") (List.mem_of_getElem? (i := 3) rfl)
  have inX5 : ∀ w ∈ u_ws RX5 TX5 7, w ∈ wsX5_sheet := in_at 26 _ _ rfl
  have f189 := hts (.fieldLink RX5 189 "KnivesLaid$Sheet" "size" "I") (List.mem_of_getElem? (i := 4) rfl)
  have inX2 : ∀ w ∈ u_ws RX2 TX2 3, w ∈ wsX5_sheet := in_at 33 _ _ rfl
  have k185 := hts (.constant RX5 185 (-1000000007)) (List.mem_of_getElem? (i := 2) rfl)
  skip
  refine lv_iload_n hx hb dX5_sheet_0 rfl (lv_at hl 1 rfl) ?_
  refine callE (W.runS (As := [.int x0]) (rest := []) ⟨hx, hb, hml, hown, hts⟩ (k_X5_isSheet l x0) (va_cwS 1 hts gX5_sheet_X5_isSheet rfl rfl rfl (by decide +kernel) ⟨Nat.le_of_ble_eq_true rfl, Nat.le_of_ble_eq_true rfl⟩) ⟨PcP_fb, fun U _ _ => ⟨rfl, trivial⟩⟩ rfl rfl hl.1 rfl (lv_room (Nat.le_of_ble_eq_true rfl)) dX5_sheet_1 ⟨Nat.zero_le _, Nat.zero_le _⟩) ?_
  refine lv_if_eq (tgt := 29) hx hb dX5_sheet_4 (by decide) (fun c_1 => ?_) (fun c_1 => ?_)
  · skip
    have c_1b := bI_0 c_1
    refine lv_aload_n hx hb dX5_sheet_29 rfl (lv_at hl 0 rfl) ?_
    refine lv_ldc hx hb hown k52 dX5_sheet_30 ?_
    refine callMi (va_runV (As := [.int (-1000000001)]) (rest := []) ⟨hx, hb, hml, hown, hts⟩ (k_X5_found l D cI cL cS b s1 w1 m1 n1 s2 w2 m2 n2 s3 w3 m3 n3 ik bt ln tk sb en nm bits size num fnd (-1000000001) (va_DT (hD _ rfl) rfl) (vp_in_iff.mpr (by decide))) (cwV 1 hts gX5_sheet_X5_found rfl rfl rfl (by decide +kernel) ⟨Nat.le_of_ble_eq_true rfl, Nat.le_of_ble_eq_true rfl⟩) ⟨PcR_fb, va_recv hK hP (ci := 3) (q0 := 0) rfl rfl, PcR_pre hP hK⟩ rfl rfl hl.1 rfl (lv_room (Nat.le_of_ble_eq_true rfl)) dX5_sheet_32 ⟨Nat.zero_le _, Nat.zero_le _⟩) hP (hD _ rfl) hS 0 49 rfl (fun r_3 u_2 H locs hu_2 hP hS => ?_)
    obtain ⟨hu_2r, -⟩ := hu_2
    subst hu_2r
    have hP : va_P D vwCl (kcw cI cL cS b s1 w1 m1 n1 s2 w2 m2 n2 s3 w3 m3 n3 ik bt ln tk sb en nm bits size num (bump fnd (-1000000001))) H := hP
    exact W.iret hx hb hr (fun t ht hW => ⟨⟨_, (bits, size, num, bump fnd (-1000000001)), rfl, (by exact (iF_f (fun h => by first | exact absurd h.1 c_1b | exact absurd c_1b h.1)).symm), by dsimp only; rw [ht]; exact hP⟩, hS.F ht⟩) hS.2.2 dX5_sheet_35
  · skip
    have c_1b := bI_n c_1
    refine lv_iload_n hx hb dX5_sheet_7 rfl (lv_at hl 2 rfl) ?_
    refine lv_if_eq (tgt := 36) hx hb dX5_sheet_8 (by decide) (fun c_4 => ?_) (fun c_4 => ?_)
    · skip
      refine lv_iload_n hx hb dX5_sheet_36 rfl (lv_at hl 3 rfl) ?_
      refine lv_if_ge (tgt := 47) hx hb dX5_sheet_37 (by decide) (fun c_5 => ?_) (fun c_5 => ?_)
      · skip
        refine lv_iload_n hx hb dX5_sheet_47 rfl (lv_at hl 3 rfl) ?_
        refine lv_bipush (v := 40) hx hb dX5_sheet_48 (by decide) ?_
        refine lv_icmp_le (tgt := 60) hx hb dX5_sheet_50 (by decide) (fun c_6 => ?_) (fun c_6 => ?_)
        · skip
          rcases in4 c_1b with rfl | rfl | rfl | rfl
          · skip
            refine lv_aload_n hx hb dX5_sheet_60 rfl (lv_at hl 0 rfl) ?_
            refine va_get (ci := 3) (v := .ref (b 6 0)) (C := RX5) (T := TX5) (N := 7) hx hb hts inX5 hown hK hP 0 rfl rfl 5 (by decide) f35 (fun _ h9 => h9) rfl dX5_sheet_61 ?_
            refine lv_iload_n hx hb dX5_sheet_64 rfl (lv_at hl 1 rfl) ?_
            refine va_aldq (f := fun s => some (b 7 s)) hx hb hK hP 39 2 rfl rfl (vp_in_iff.mpr (by decide)) dX5_sheet_65 ?_
            refine W.eq (g2 := F0 m 66 ls [.ref (b 7 0)]) rfl ?_
            refine lv_iload_n hx hb dX5_sheet_66 rfl (lv_at hl 2 rfl) ?_
            refine lv_iload_n hx hb dX5_sheet_67 rfl (lv_at hl 3 rfl) ?_
            refine callMv (va_runV (As := [.int x1, .int x2]) (rest := []) ⟨hx, hb, hml, hown, hts⟩ (k_X2_begin l D cI cL cS (b 7 0) (b 8 0) (bits 0) (size 0) (num 0) x1 x2 (va_DT (va_segD (hD (kcw cI cL cS b s1 w1 m1 n1 s2 w2 m2 n2 s3 w3 m3 n3 ik bt ln tk sb en nm bits size num fnd) rfl) 40 2 rfl) rfl)) (cwV 2 hts gX5_sheet_X2_begin rfl rfl rfl (by decide +kernel) ⟨Nat.le_of_ble_eq_true rfl, Nat.le_of_ble_eq_true rfl⟩) ⟨PcR_fb, va_recv hK hP (ci := 0) (q0 := 40) rfl rfl, PcR_pre (va_seg hP 40 2 rfl) hK⟩ rfl rfl hl.1 rfl (lv_room (Nat.le_of_ble_eq_true rfl)) dX5_sheet_68 ⟨Nat.zero_le _, Nat.zero_le _⟩) hP (hD _ rfl) hS 40 2 rfl (fun u_7 H locs hu_7 hP hS => ?_)
            have hP : va_P D vwCl (kcw cI cL cS b s1 w1 m1 n1 s2 w2 m2 n2 s3 w3 m3 n3 ik bt ln tk sb en nm (upd bits 0 x1) (upd size 0 (if x1 = 0 then 0 else x2 : Int32)) (va_up num 0 (fun _ => 0)) fnd) H := hP
            refine lv_aload_n hx hb dX5_sheet_71 rfl (lv_at hl 0 rfl) ?_
            refine va_get (ci := 3) (v := .ref (b 6 0)) (C := RX5) (T := TX5) (N := 7) hx hb hts inX5 hown hK hP 0 rfl rfl 5 (by decide) f35 (fun _ h9 => h9) rfl dX5_sheet_72 ?_
            refine lv_iload_n hx hb dX5_sheet_75 rfl (lv_at hl 1 rfl) ?_
            refine va_aldq (f := fun s => some (b 7 s)) hx hb hK hP 39 2 rfl rfl (vp_in_iff.mpr (by decide)) dX5_sheet_76 ?_
            refine W.eq (g2 := F0 m 77 ls [.ref (b 7 0)]) rfl ?_
            refine va_get (ci := 0) (v := .int ((upd size 0 (if x1 = 0 then 0 else x2 : Int32)) 0)) (C := RX2) (T := TX2) (N := 3) hx hb hts inX2 hown hK hP 40 rfl rfl 1 (by decide) f189 (fun _ h9 => h9) rfl dX5_sheet_77 ?_
            exact W.iret hx hb hr (fun t ht hW => ⟨⟨_, ((upd bits 0 x1), (upd size 0 (if x1 = 0 then 0 else x2 : Int32)), (va_up num 0 (fun _ => 0)), fnd), rfl, (by unfold sSheet; rw [iF_t ⟨c_1b, Or.inl c_4⟩, iF_f (Int32.not_lt.mpr c_5), iF_f (Int32.not_lt.mpr c_6)]; rfl), by dsimp only; rw [ht]; exact hP⟩, hS.F ht⟩) hS.2.2 dX5_sheet_80
          · skip
            refine lv_aload_n hx hb dX5_sheet_60 rfl (lv_at hl 0 rfl) ?_
            refine va_get (ci := 3) (v := .ref (b 6 0)) (C := RX5) (T := TX5) (N := 7) hx hb hts inX5 hown hK hP 0 rfl rfl 5 (by decide) f35 (fun _ h9 => h9) rfl dX5_sheet_61 ?_
            refine lv_iload_n hx hb dX5_sheet_64 rfl (lv_at hl 1 rfl) ?_
            refine va_aldq (f := fun s => some (b 7 s)) hx hb hK hP 39 2 rfl rfl (vp_in_iff.mpr (by decide)) dX5_sheet_65 ?_
            refine W.eq (g2 := F0 m 66 ls [.ref (b 7 1)]) rfl ?_
            refine lv_iload_n hx hb dX5_sheet_66 rfl (lv_at hl 2 rfl) ?_
            refine lv_iload_n hx hb dX5_sheet_67 rfl (lv_at hl 3 rfl) ?_
            refine callMv (va_runV (As := [.int x1, .int x2]) (rest := []) ⟨hx, hb, hml, hown, hts⟩ (k_X2_begin l D cI cL cS (b 7 1) (b 8 1) (bits 1) (size 1) (num 1) x1 x2 (va_DT (va_segD (hD (kcw cI cL cS b s1 w1 m1 n1 s2 w2 m2 n2 s3 w3 m3 n3 ik bt ln tk sb en nm bits size num fnd) rfl) 42 2 rfl) rfl)) (cwV 2 hts gX5_sheet_X2_begin rfl rfl rfl (by decide +kernel) ⟨Nat.le_of_ble_eq_true rfl, Nat.le_of_ble_eq_true rfl⟩) ⟨PcR_fb, va_recv hK hP (ci := 0) (q0 := 42) rfl rfl, PcR_pre (va_seg hP 42 2 rfl) hK⟩ rfl rfl hl.1 rfl (lv_room (Nat.le_of_ble_eq_true rfl)) dX5_sheet_68 ⟨Nat.zero_le _, Nat.zero_le _⟩) hP (hD _ rfl) hS 42 2 rfl (fun u_9 H locs hu_9 hP hS => ?_)
            have hP : va_P D vwCl (kcw cI cL cS b s1 w1 m1 n1 s2 w2 m2 n2 s3 w3 m3 n3 ik bt ln tk sb en nm (upd bits 1 x1) (upd size 1 (if x1 = 0 then 0 else x2 : Int32)) (va_up num 1 (fun _ => 0)) fnd) H := hP
            refine lv_aload_n hx hb dX5_sheet_71 rfl (lv_at hl 0 rfl) ?_
            refine va_get (ci := 3) (v := .ref (b 6 0)) (C := RX5) (T := TX5) (N := 7) hx hb hts inX5 hown hK hP 0 rfl rfl 5 (by decide) f35 (fun _ h9 => h9) rfl dX5_sheet_72 ?_
            refine lv_iload_n hx hb dX5_sheet_75 rfl (lv_at hl 1 rfl) ?_
            refine va_aldq (f := fun s => some (b 7 s)) hx hb hK hP 39 2 rfl rfl (vp_in_iff.mpr (by decide)) dX5_sheet_76 ?_
            refine W.eq (g2 := F0 m 77 ls [.ref (b 7 1)]) rfl ?_
            refine va_get (ci := 0) (v := .int ((upd size 1 (if x1 = 0 then 0 else x2 : Int32)) 1)) (C := RX2) (T := TX2) (N := 3) hx hb hts inX2 hown hK hP 42 rfl rfl 1 (by decide) f189 (fun _ h9 => h9) rfl dX5_sheet_77 ?_
            exact W.iret hx hb hr (fun t ht hW => ⟨⟨_, ((upd bits 1 x1), (upd size 1 (if x1 = 0 then 0 else x2 : Int32)), (va_up num 1 (fun _ => 0)), fnd), rfl, (by unfold sSheet; rw [iF_t ⟨c_1b, Or.inl c_4⟩, iF_f (Int32.not_lt.mpr c_5), iF_f (Int32.not_lt.mpr c_6)]; rfl), by dsimp only; rw [ht]; exact hP⟩, hS.F ht⟩) hS.2.2 dX5_sheet_80
          · skip
            refine lv_aload_n hx hb dX5_sheet_60 rfl (lv_at hl 0 rfl) ?_
            refine va_get (ci := 3) (v := .ref (b 6 0)) (C := RX5) (T := TX5) (N := 7) hx hb hts inX5 hown hK hP 0 rfl rfl 5 (by decide) f35 (fun _ h9 => h9) rfl dX5_sheet_61 ?_
            refine lv_iload_n hx hb dX5_sheet_64 rfl (lv_at hl 1 rfl) ?_
            refine va_aldq (f := fun s => some (b 7 s)) hx hb hK hP 39 2 rfl rfl (vp_in_iff.mpr (by decide)) dX5_sheet_65 ?_
            refine W.eq (g2 := F0 m 66 ls [.ref (b 7 2)]) rfl ?_
            refine lv_iload_n hx hb dX5_sheet_66 rfl (lv_at hl 2 rfl) ?_
            refine lv_iload_n hx hb dX5_sheet_67 rfl (lv_at hl 3 rfl) ?_
            refine callMv (va_runV (As := [.int x1, .int x2]) (rest := []) ⟨hx, hb, hml, hown, hts⟩ (k_X2_begin l D cI cL cS (b 7 2) (b 8 2) (bits 2) (size 2) (num 2) x1 x2 (va_DT (va_segD (hD (kcw cI cL cS b s1 w1 m1 n1 s2 w2 m2 n2 s3 w3 m3 n3 ik bt ln tk sb en nm bits size num fnd) rfl) 44 2 rfl) rfl)) (cwV 2 hts gX5_sheet_X2_begin rfl rfl rfl (by decide +kernel) ⟨Nat.le_of_ble_eq_true rfl, Nat.le_of_ble_eq_true rfl⟩) ⟨PcR_fb, va_recv hK hP (ci := 0) (q0 := 44) rfl rfl, PcR_pre (va_seg hP 44 2 rfl) hK⟩ rfl rfl hl.1 rfl (lv_room (Nat.le_of_ble_eq_true rfl)) dX5_sheet_68 ⟨Nat.zero_le _, Nat.zero_le _⟩) hP (hD _ rfl) hS 44 2 rfl (fun u_11 H locs hu_11 hP hS => ?_)
            have hP : va_P D vwCl (kcw cI cL cS b s1 w1 m1 n1 s2 w2 m2 n2 s3 w3 m3 n3 ik bt ln tk sb en nm (upd bits 2 x1) (upd size 2 (if x1 = 0 then 0 else x2 : Int32)) (va_up num 2 (fun _ => 0)) fnd) H := hP
            refine lv_aload_n hx hb dX5_sheet_71 rfl (lv_at hl 0 rfl) ?_
            refine va_get (ci := 3) (v := .ref (b 6 0)) (C := RX5) (T := TX5) (N := 7) hx hb hts inX5 hown hK hP 0 rfl rfl 5 (by decide) f35 (fun _ h9 => h9) rfl dX5_sheet_72 ?_
            refine lv_iload_n hx hb dX5_sheet_75 rfl (lv_at hl 1 rfl) ?_
            refine va_aldq (f := fun s => some (b 7 s)) hx hb hK hP 39 2 rfl rfl (vp_in_iff.mpr (by decide)) dX5_sheet_76 ?_
            refine W.eq (g2 := F0 m 77 ls [.ref (b 7 2)]) rfl ?_
            refine va_get (ci := 0) (v := .int ((upd size 2 (if x1 = 0 then 0 else x2 : Int32)) 2)) (C := RX2) (T := TX2) (N := 3) hx hb hts inX2 hown hK hP 44 rfl rfl 1 (by decide) f189 (fun _ h9 => h9) rfl dX5_sheet_77 ?_
            exact W.iret hx hb hr (fun t ht hW => ⟨⟨_, ((upd bits 2 x1), (upd size 2 (if x1 = 0 then 0 else x2 : Int32)), (va_up num 2 (fun _ => 0)), fnd), rfl, (by unfold sSheet; rw [iF_t ⟨c_1b, Or.inl c_4⟩, iF_f (Int32.not_lt.mpr c_5), iF_f (Int32.not_lt.mpr c_6)]; rfl), by dsimp only; rw [ht]; exact hP⟩, hS.F ht⟩) hS.2.2 dX5_sheet_80
          · skip
            refine lv_aload_n hx hb dX5_sheet_60 rfl (lv_at hl 0 rfl) ?_
            refine va_get (ci := 3) (v := .ref (b 6 0)) (C := RX5) (T := TX5) (N := 7) hx hb hts inX5 hown hK hP 0 rfl rfl 5 (by decide) f35 (fun _ h9 => h9) rfl dX5_sheet_61 ?_
            refine lv_iload_n hx hb dX5_sheet_64 rfl (lv_at hl 1 rfl) ?_
            refine va_aldq (f := fun s => some (b 7 s)) hx hb hK hP 39 2 rfl rfl (vp_in_iff.mpr (by decide)) dX5_sheet_65 ?_
            refine W.eq (g2 := F0 m 66 ls [.ref (b 7 3)]) rfl ?_
            refine lv_iload_n hx hb dX5_sheet_66 rfl (lv_at hl 2 rfl) ?_
            refine lv_iload_n hx hb dX5_sheet_67 rfl (lv_at hl 3 rfl) ?_
            refine callMv (va_runV (As := [.int x1, .int x2]) (rest := []) ⟨hx, hb, hml, hown, hts⟩ (k_X2_begin l D cI cL cS (b 7 3) (b 8 3) (bits 3) (size 3) (num 3) x1 x2 (va_DT (va_segD (hD (kcw cI cL cS b s1 w1 m1 n1 s2 w2 m2 n2 s3 w3 m3 n3 ik bt ln tk sb en nm bits size num fnd) rfl) 46 2 rfl) rfl)) (cwV 2 hts gX5_sheet_X2_begin rfl rfl rfl (by decide +kernel) ⟨Nat.le_of_ble_eq_true rfl, Nat.le_of_ble_eq_true rfl⟩) ⟨PcR_fb, va_recv hK hP (ci := 0) (q0 := 46) rfl rfl, PcR_pre (va_seg hP 46 2 rfl) hK⟩ rfl rfl hl.1 rfl (lv_room (Nat.le_of_ble_eq_true rfl)) dX5_sheet_68 ⟨Nat.zero_le _, Nat.zero_le _⟩) hP (hD _ rfl) hS 46 2 rfl (fun u_13 H locs hu_13 hP hS => ?_)
            have hP : va_P D vwCl (kcw cI cL cS b s1 w1 m1 n1 s2 w2 m2 n2 s3 w3 m3 n3 ik bt ln tk sb en nm (upd bits 3 x1) (upd size 3 (if x1 = 0 then 0 else x2 : Int32)) (va_up num 3 (fun _ => 0)) fnd) H := hP
            refine lv_aload_n hx hb dX5_sheet_71 rfl (lv_at hl 0 rfl) ?_
            refine va_get (ci := 3) (v := .ref (b 6 0)) (C := RX5) (T := TX5) (N := 7) hx hb hts inX5 hown hK hP 0 rfl rfl 5 (by decide) f35 (fun _ h9 => h9) rfl dX5_sheet_72 ?_
            refine lv_iload_n hx hb dX5_sheet_75 rfl (lv_at hl 1 rfl) ?_
            refine va_aldq (f := fun s => some (b 7 s)) hx hb hK hP 39 2 rfl rfl (vp_in_iff.mpr (by decide)) dX5_sheet_76 ?_
            refine W.eq (g2 := F0 m 77 ls [.ref (b 7 3)]) rfl ?_
            refine va_get (ci := 0) (v := .int ((upd size 3 (if x1 = 0 then 0 else x2 : Int32)) 3)) (C := RX2) (T := TX2) (N := 3) hx hb hts inX2 hown hK hP 46 rfl rfl 1 (by decide) f189 (fun _ h9 => h9) rfl dX5_sheet_77 ?_
            exact W.iret hx hb hr (fun t ht hW => ⟨⟨_, ((upd bits 3 x1), (upd size 3 (if x1 = 0 then 0 else x2 : Int32)), (va_up num 3 (fun _ => 0)), fnd), rfl, (by unfold sSheet; rw [iF_t ⟨c_1b, Or.inl c_4⟩, iF_f (Int32.not_lt.mpr c_5), iF_f (Int32.not_lt.mpr c_6)]; rfl), by dsimp only; rw [ht]; exact hP⟩, hS.F ht⟩) hS.2.2 dX5_sheet_80
        · skip
          refine lv_aload_n hx hb dX5_sheet_53 rfl (lv_at hl 0 rfl) ?_
          refine lv_ldc hx hb hown k52 dX5_sheet_54 ?_
          refine callMi (va_runV (As := [.int (-1000000001)]) (rest := []) ⟨hx, hb, hml, hown, hts⟩ (k_X5_found l D cI cL cS b s1 w1 m1 n1 s2 w2 m2 n2 s3 w3 m3 n3 ik bt ln tk sb en nm bits size num fnd (-1000000001) (va_DT (hD _ rfl) rfl) (vp_in_iff.mpr (by decide))) (cwV 1 hts gX5_sheet_X5_found rfl rfl rfl (by decide +kernel) ⟨Nat.le_of_ble_eq_true rfl, Nat.le_of_ble_eq_true rfl⟩) ⟨PcR_fb, va_recv hK hP (ci := 3) (q0 := 0) rfl rfl, PcR_pre hP hK⟩ rfl rfl hl.1 rfl (lv_room (Nat.le_of_ble_eq_true rfl)) dX5_sheet_56 ⟨Nat.zero_le _, Nat.zero_le _⟩) hP (hD _ rfl) hS 0 49 rfl (fun r_16 u_15 H locs hu_15 hP hS => ?_)
          obtain ⟨hu_15r, -⟩ := hu_15
          subst hu_15r
          have hP : va_P D vwCl (kcw cI cL cS b s1 w1 m1 n1 s2 w2 m2 n2 s3 w3 m3 n3 ik bt ln tk sb en nm bits size num (bump fnd (-1000000001))) H := hP
          exact W.iret hx hb hr (fun t ht hW => ⟨⟨_, (bits, size, num, bump fnd (-1000000001)), rfl, (by unfold sSheet; rw [iF_t ⟨c_1b, Or.inl c_4⟩, iF_f (Int32.not_lt.mpr c_5), iF_t (Int32.not_le.mp c_6)]), by dsimp only; rw [ht]; exact hP⟩, hS.F ht⟩) hS.2.2 dX5_sheet_59
      · skip
        refine lv_aload_n hx hb dX5_sheet_40 rfl (lv_at hl 0 rfl) ?_
        refine lv_ldc hx hb hown k185 dX5_sheet_41 ?_
        refine callMi (va_runV (As := [.int (-1000000007)]) (rest := []) ⟨hx, hb, hml, hown, hts⟩ (k_X5_found l D cI cL cS b s1 w1 m1 n1 s2 w2 m2 n2 s3 w3 m3 n3 ik bt ln tk sb en nm bits size num fnd (-1000000007) (va_DT (hD _ rfl) rfl) (vp_in_iff.mpr (by decide))) (cwV 1 hts gX5_sheet_X5_found rfl rfl rfl (by decide +kernel) ⟨Nat.le_of_ble_eq_true rfl, Nat.le_of_ble_eq_true rfl⟩) ⟨PcR_fb, va_recv hK hP (ci := 3) (q0 := 0) rfl rfl, PcR_pre hP hK⟩ rfl rfl hl.1 rfl (lv_room (Nat.le_of_ble_eq_true rfl)) dX5_sheet_43 ⟨Nat.zero_le _, Nat.zero_le _⟩) hP (hD _ rfl) hS 0 49 rfl (fun r_18 u_17 H locs hu_17 hP hS => ?_)
        obtain ⟨hu_17r, -⟩ := hu_17
        subst hu_17r
        have hP : va_P D vwCl (kcw cI cL cS b s1 w1 m1 n1 s2 w2 m2 n2 s3 w3 m3 n3 ik bt ln tk sb en nm bits size num (bump fnd (-1000000007))) H := hP
        exact W.iret hx hb hr (fun t ht hW => ⟨⟨_, (bits, size, num, bump fnd (-1000000007)), rfl, (by unfold sSheet; rw [iF_t ⟨c_1b, Or.inl c_4⟩, iF_t (Int32.not_le.mp c_5)]), by dsimp only; rw [ht]; exact hP⟩, hS.F ht⟩) hS.2.2 dX5_sheet_46
    · skip
      refine lv_iload_n hx hb dX5_sheet_11 rfl (lv_at hl 2 rfl) ?_
      refine lv_bipush (v := 8) hx hb dX5_sheet_12 (by decide) ?_
      refine lv_icmp_eq (tgt := 36) hx hb dX5_sheet_14 (by decide) (fun c_19 => ?_) (fun c_19 => ?_)
      · skip
        refine lv_iload_n hx hb dX5_sheet_36 rfl (lv_at hl 3 rfl) ?_
        refine lv_if_ge (tgt := 47) hx hb dX5_sheet_37 (by decide) (fun c_20 => ?_) (fun c_20 => ?_)
        · skip
          refine lv_iload_n hx hb dX5_sheet_47 rfl (lv_at hl 3 rfl) ?_
          refine lv_bipush (v := 40) hx hb dX5_sheet_48 (by decide) ?_
          refine lv_icmp_le (tgt := 60) hx hb dX5_sheet_50 (by decide) (fun c_21 => ?_) (fun c_21 => ?_)
          · skip
            rcases in4 c_1b with rfl | rfl | rfl | rfl
            · skip
              refine lv_aload_n hx hb dX5_sheet_60 rfl (lv_at hl 0 rfl) ?_
              refine va_get (ci := 3) (v := .ref (b 6 0)) (C := RX5) (T := TX5) (N := 7) hx hb hts inX5 hown hK hP 0 rfl rfl 5 (by decide) f35 (fun _ h9 => h9) rfl dX5_sheet_61 ?_
              refine lv_iload_n hx hb dX5_sheet_64 rfl (lv_at hl 1 rfl) ?_
              refine va_aldq (f := fun s => some (b 7 s)) hx hb hK hP 39 2 rfl rfl (vp_in_iff.mpr (by decide)) dX5_sheet_65 ?_
              refine W.eq (g2 := F0 m 66 ls [.ref (b 7 0)]) rfl ?_
              refine lv_iload_n hx hb dX5_sheet_66 rfl (lv_at hl 2 rfl) ?_
              refine lv_iload_n hx hb dX5_sheet_67 rfl (lv_at hl 3 rfl) ?_
              refine callMv (va_runV (As := [.int x1, .int x2]) (rest := []) ⟨hx, hb, hml, hown, hts⟩ (k_X2_begin l D cI cL cS (b 7 0) (b 8 0) (bits 0) (size 0) (num 0) x1 x2 (va_DT (va_segD (hD (kcw cI cL cS b s1 w1 m1 n1 s2 w2 m2 n2 s3 w3 m3 n3 ik bt ln tk sb en nm bits size num fnd) rfl) 40 2 rfl) rfl)) (cwV 2 hts gX5_sheet_X2_begin rfl rfl rfl (by decide +kernel) ⟨Nat.le_of_ble_eq_true rfl, Nat.le_of_ble_eq_true rfl⟩) ⟨PcR_fb, va_recv hK hP (ci := 0) (q0 := 40) rfl rfl, PcR_pre (va_seg hP 40 2 rfl) hK⟩ rfl rfl hl.1 rfl (lv_room (Nat.le_of_ble_eq_true rfl)) dX5_sheet_68 ⟨Nat.zero_le _, Nat.zero_le _⟩) hP (hD _ rfl) hS 40 2 rfl (fun u_22 H locs hu_22 hP hS => ?_)
              have hP : va_P D vwCl (kcw cI cL cS b s1 w1 m1 n1 s2 w2 m2 n2 s3 w3 m3 n3 ik bt ln tk sb en nm (upd bits 0 x1) (upd size 0 (if x1 = 0 then 0 else x2 : Int32)) (va_up num 0 (fun _ => 0)) fnd) H := hP
              refine lv_aload_n hx hb dX5_sheet_71 rfl (lv_at hl 0 rfl) ?_
              refine va_get (ci := 3) (v := .ref (b 6 0)) (C := RX5) (T := TX5) (N := 7) hx hb hts inX5 hown hK hP 0 rfl rfl 5 (by decide) f35 (fun _ h9 => h9) rfl dX5_sheet_72 ?_
              refine lv_iload_n hx hb dX5_sheet_75 rfl (lv_at hl 1 rfl) ?_
              refine va_aldq (f := fun s => some (b 7 s)) hx hb hK hP 39 2 rfl rfl (vp_in_iff.mpr (by decide)) dX5_sheet_76 ?_
              refine W.eq (g2 := F0 m 77 ls [.ref (b 7 0)]) rfl ?_
              refine va_get (ci := 0) (v := .int ((upd size 0 (if x1 = 0 then 0 else x2 : Int32)) 0)) (C := RX2) (T := TX2) (N := 3) hx hb hts inX2 hown hK hP 40 rfl rfl 1 (by decide) f189 (fun _ h9 => h9) rfl dX5_sheet_77 ?_
              exact W.iret hx hb hr (fun t ht hW => ⟨⟨_, ((upd bits 0 x1), (upd size 0 (if x1 = 0 then 0 else x2 : Int32)), (va_up num 0 (fun _ => 0)), fnd), rfl, (by unfold sSheet; rw [iF_t ⟨c_1b, Or.inr (Or.inl c_19)⟩, iF_f (Int32.not_lt.mpr c_20), iF_f (Int32.not_lt.mpr c_21)]; rfl), by dsimp only; rw [ht]; exact hP⟩, hS.F ht⟩) hS.2.2 dX5_sheet_80
            · skip
              refine lv_aload_n hx hb dX5_sheet_60 rfl (lv_at hl 0 rfl) ?_
              refine va_get (ci := 3) (v := .ref (b 6 0)) (C := RX5) (T := TX5) (N := 7) hx hb hts inX5 hown hK hP 0 rfl rfl 5 (by decide) f35 (fun _ h9 => h9) rfl dX5_sheet_61 ?_
              refine lv_iload_n hx hb dX5_sheet_64 rfl (lv_at hl 1 rfl) ?_
              refine va_aldq (f := fun s => some (b 7 s)) hx hb hK hP 39 2 rfl rfl (vp_in_iff.mpr (by decide)) dX5_sheet_65 ?_
              refine W.eq (g2 := F0 m 66 ls [.ref (b 7 1)]) rfl ?_
              refine lv_iload_n hx hb dX5_sheet_66 rfl (lv_at hl 2 rfl) ?_
              refine lv_iload_n hx hb dX5_sheet_67 rfl (lv_at hl 3 rfl) ?_
              refine callMv (va_runV (As := [.int x1, .int x2]) (rest := []) ⟨hx, hb, hml, hown, hts⟩ (k_X2_begin l D cI cL cS (b 7 1) (b 8 1) (bits 1) (size 1) (num 1) x1 x2 (va_DT (va_segD (hD (kcw cI cL cS b s1 w1 m1 n1 s2 w2 m2 n2 s3 w3 m3 n3 ik bt ln tk sb en nm bits size num fnd) rfl) 42 2 rfl) rfl)) (cwV 2 hts gX5_sheet_X2_begin rfl rfl rfl (by decide +kernel) ⟨Nat.le_of_ble_eq_true rfl, Nat.le_of_ble_eq_true rfl⟩) ⟨PcR_fb, va_recv hK hP (ci := 0) (q0 := 42) rfl rfl, PcR_pre (va_seg hP 42 2 rfl) hK⟩ rfl rfl hl.1 rfl (lv_room (Nat.le_of_ble_eq_true rfl)) dX5_sheet_68 ⟨Nat.zero_le _, Nat.zero_le _⟩) hP (hD _ rfl) hS 42 2 rfl (fun u_24 H locs hu_24 hP hS => ?_)
              have hP : va_P D vwCl (kcw cI cL cS b s1 w1 m1 n1 s2 w2 m2 n2 s3 w3 m3 n3 ik bt ln tk sb en nm (upd bits 1 x1) (upd size 1 (if x1 = 0 then 0 else x2 : Int32)) (va_up num 1 (fun _ => 0)) fnd) H := hP
              refine lv_aload_n hx hb dX5_sheet_71 rfl (lv_at hl 0 rfl) ?_
              refine va_get (ci := 3) (v := .ref (b 6 0)) (C := RX5) (T := TX5) (N := 7) hx hb hts inX5 hown hK hP 0 rfl rfl 5 (by decide) f35 (fun _ h9 => h9) rfl dX5_sheet_72 ?_
              refine lv_iload_n hx hb dX5_sheet_75 rfl (lv_at hl 1 rfl) ?_
              refine va_aldq (f := fun s => some (b 7 s)) hx hb hK hP 39 2 rfl rfl (vp_in_iff.mpr (by decide)) dX5_sheet_76 ?_
              refine W.eq (g2 := F0 m 77 ls [.ref (b 7 1)]) rfl ?_
              refine va_get (ci := 0) (v := .int ((upd size 1 (if x1 = 0 then 0 else x2 : Int32)) 1)) (C := RX2) (T := TX2) (N := 3) hx hb hts inX2 hown hK hP 42 rfl rfl 1 (by decide) f189 (fun _ h9 => h9) rfl dX5_sheet_77 ?_
              exact W.iret hx hb hr (fun t ht hW => ⟨⟨_, ((upd bits 1 x1), (upd size 1 (if x1 = 0 then 0 else x2 : Int32)), (va_up num 1 (fun _ => 0)), fnd), rfl, (by unfold sSheet; rw [iF_t ⟨c_1b, Or.inr (Or.inl c_19)⟩, iF_f (Int32.not_lt.mpr c_20), iF_f (Int32.not_lt.mpr c_21)]; rfl), by dsimp only; rw [ht]; exact hP⟩, hS.F ht⟩) hS.2.2 dX5_sheet_80
            · skip
              refine lv_aload_n hx hb dX5_sheet_60 rfl (lv_at hl 0 rfl) ?_
              refine va_get (ci := 3) (v := .ref (b 6 0)) (C := RX5) (T := TX5) (N := 7) hx hb hts inX5 hown hK hP 0 rfl rfl 5 (by decide) f35 (fun _ h9 => h9) rfl dX5_sheet_61 ?_
              refine lv_iload_n hx hb dX5_sheet_64 rfl (lv_at hl 1 rfl) ?_
              refine va_aldq (f := fun s => some (b 7 s)) hx hb hK hP 39 2 rfl rfl (vp_in_iff.mpr (by decide)) dX5_sheet_65 ?_
              refine W.eq (g2 := F0 m 66 ls [.ref (b 7 2)]) rfl ?_
              refine lv_iload_n hx hb dX5_sheet_66 rfl (lv_at hl 2 rfl) ?_
              refine lv_iload_n hx hb dX5_sheet_67 rfl (lv_at hl 3 rfl) ?_
              refine callMv (va_runV (As := [.int x1, .int x2]) (rest := []) ⟨hx, hb, hml, hown, hts⟩ (k_X2_begin l D cI cL cS (b 7 2) (b 8 2) (bits 2) (size 2) (num 2) x1 x2 (va_DT (va_segD (hD (kcw cI cL cS b s1 w1 m1 n1 s2 w2 m2 n2 s3 w3 m3 n3 ik bt ln tk sb en nm bits size num fnd) rfl) 44 2 rfl) rfl)) (cwV 2 hts gX5_sheet_X2_begin rfl rfl rfl (by decide +kernel) ⟨Nat.le_of_ble_eq_true rfl, Nat.le_of_ble_eq_true rfl⟩) ⟨PcR_fb, va_recv hK hP (ci := 0) (q0 := 44) rfl rfl, PcR_pre (va_seg hP 44 2 rfl) hK⟩ rfl rfl hl.1 rfl (lv_room (Nat.le_of_ble_eq_true rfl)) dX5_sheet_68 ⟨Nat.zero_le _, Nat.zero_le _⟩) hP (hD _ rfl) hS 44 2 rfl (fun u_26 H locs hu_26 hP hS => ?_)
              have hP : va_P D vwCl (kcw cI cL cS b s1 w1 m1 n1 s2 w2 m2 n2 s3 w3 m3 n3 ik bt ln tk sb en nm (upd bits 2 x1) (upd size 2 (if x1 = 0 then 0 else x2 : Int32)) (va_up num 2 (fun _ => 0)) fnd) H := hP
              refine lv_aload_n hx hb dX5_sheet_71 rfl (lv_at hl 0 rfl) ?_
              refine va_get (ci := 3) (v := .ref (b 6 0)) (C := RX5) (T := TX5) (N := 7) hx hb hts inX5 hown hK hP 0 rfl rfl 5 (by decide) f35 (fun _ h9 => h9) rfl dX5_sheet_72 ?_
              refine lv_iload_n hx hb dX5_sheet_75 rfl (lv_at hl 1 rfl) ?_
              refine va_aldq (f := fun s => some (b 7 s)) hx hb hK hP 39 2 rfl rfl (vp_in_iff.mpr (by decide)) dX5_sheet_76 ?_
              refine W.eq (g2 := F0 m 77 ls [.ref (b 7 2)]) rfl ?_
              refine va_get (ci := 0) (v := .int ((upd size 2 (if x1 = 0 then 0 else x2 : Int32)) 2)) (C := RX2) (T := TX2) (N := 3) hx hb hts inX2 hown hK hP 44 rfl rfl 1 (by decide) f189 (fun _ h9 => h9) rfl dX5_sheet_77 ?_
              exact W.iret hx hb hr (fun t ht hW => ⟨⟨_, ((upd bits 2 x1), (upd size 2 (if x1 = 0 then 0 else x2 : Int32)), (va_up num 2 (fun _ => 0)), fnd), rfl, (by unfold sSheet; rw [iF_t ⟨c_1b, Or.inr (Or.inl c_19)⟩, iF_f (Int32.not_lt.mpr c_20), iF_f (Int32.not_lt.mpr c_21)]; rfl), by dsimp only; rw [ht]; exact hP⟩, hS.F ht⟩) hS.2.2 dX5_sheet_80
            · skip
              refine lv_aload_n hx hb dX5_sheet_60 rfl (lv_at hl 0 rfl) ?_
              refine va_get (ci := 3) (v := .ref (b 6 0)) (C := RX5) (T := TX5) (N := 7) hx hb hts inX5 hown hK hP 0 rfl rfl 5 (by decide) f35 (fun _ h9 => h9) rfl dX5_sheet_61 ?_
              refine lv_iload_n hx hb dX5_sheet_64 rfl (lv_at hl 1 rfl) ?_
              refine va_aldq (f := fun s => some (b 7 s)) hx hb hK hP 39 2 rfl rfl (vp_in_iff.mpr (by decide)) dX5_sheet_65 ?_
              refine W.eq (g2 := F0 m 66 ls [.ref (b 7 3)]) rfl ?_
              refine lv_iload_n hx hb dX5_sheet_66 rfl (lv_at hl 2 rfl) ?_
              refine lv_iload_n hx hb dX5_sheet_67 rfl (lv_at hl 3 rfl) ?_
              refine callMv (va_runV (As := [.int x1, .int x2]) (rest := []) ⟨hx, hb, hml, hown, hts⟩ (k_X2_begin l D cI cL cS (b 7 3) (b 8 3) (bits 3) (size 3) (num 3) x1 x2 (va_DT (va_segD (hD (kcw cI cL cS b s1 w1 m1 n1 s2 w2 m2 n2 s3 w3 m3 n3 ik bt ln tk sb en nm bits size num fnd) rfl) 46 2 rfl) rfl)) (cwV 2 hts gX5_sheet_X2_begin rfl rfl rfl (by decide +kernel) ⟨Nat.le_of_ble_eq_true rfl, Nat.le_of_ble_eq_true rfl⟩) ⟨PcR_fb, va_recv hK hP (ci := 0) (q0 := 46) rfl rfl, PcR_pre (va_seg hP 46 2 rfl) hK⟩ rfl rfl hl.1 rfl (lv_room (Nat.le_of_ble_eq_true rfl)) dX5_sheet_68 ⟨Nat.zero_le _, Nat.zero_le _⟩) hP (hD _ rfl) hS 46 2 rfl (fun u_28 H locs hu_28 hP hS => ?_)
              have hP : va_P D vwCl (kcw cI cL cS b s1 w1 m1 n1 s2 w2 m2 n2 s3 w3 m3 n3 ik bt ln tk sb en nm (upd bits 3 x1) (upd size 3 (if x1 = 0 then 0 else x2 : Int32)) (va_up num 3 (fun _ => 0)) fnd) H := hP
              refine lv_aload_n hx hb dX5_sheet_71 rfl (lv_at hl 0 rfl) ?_
              refine va_get (ci := 3) (v := .ref (b 6 0)) (C := RX5) (T := TX5) (N := 7) hx hb hts inX5 hown hK hP 0 rfl rfl 5 (by decide) f35 (fun _ h9 => h9) rfl dX5_sheet_72 ?_
              refine lv_iload_n hx hb dX5_sheet_75 rfl (lv_at hl 1 rfl) ?_
              refine va_aldq (f := fun s => some (b 7 s)) hx hb hK hP 39 2 rfl rfl (vp_in_iff.mpr (by decide)) dX5_sheet_76 ?_
              refine W.eq (g2 := F0 m 77 ls [.ref (b 7 3)]) rfl ?_
              refine va_get (ci := 0) (v := .int ((upd size 3 (if x1 = 0 then 0 else x2 : Int32)) 3)) (C := RX2) (T := TX2) (N := 3) hx hb hts inX2 hown hK hP 46 rfl rfl 1 (by decide) f189 (fun _ h9 => h9) rfl dX5_sheet_77 ?_
              exact W.iret hx hb hr (fun t ht hW => ⟨⟨_, ((upd bits 3 x1), (upd size 3 (if x1 = 0 then 0 else x2 : Int32)), (va_up num 3 (fun _ => 0)), fnd), rfl, (by unfold sSheet; rw [iF_t ⟨c_1b, Or.inr (Or.inl c_19)⟩, iF_f (Int32.not_lt.mpr c_20), iF_f (Int32.not_lt.mpr c_21)]; rfl), by dsimp only; rw [ht]; exact hP⟩, hS.F ht⟩) hS.2.2 dX5_sheet_80
          · skip
            refine lv_aload_n hx hb dX5_sheet_53 rfl (lv_at hl 0 rfl) ?_
            refine lv_ldc hx hb hown k52 dX5_sheet_54 ?_
            refine callMi (va_runV (As := [.int (-1000000001)]) (rest := []) ⟨hx, hb, hml, hown, hts⟩ (k_X5_found l D cI cL cS b s1 w1 m1 n1 s2 w2 m2 n2 s3 w3 m3 n3 ik bt ln tk sb en nm bits size num fnd (-1000000001) (va_DT (hD _ rfl) rfl) (vp_in_iff.mpr (by decide))) (cwV 1 hts gX5_sheet_X5_found rfl rfl rfl (by decide +kernel) ⟨Nat.le_of_ble_eq_true rfl, Nat.le_of_ble_eq_true rfl⟩) ⟨PcR_fb, va_recv hK hP (ci := 3) (q0 := 0) rfl rfl, PcR_pre hP hK⟩ rfl rfl hl.1 rfl (lv_room (Nat.le_of_ble_eq_true rfl)) dX5_sheet_56 ⟨Nat.zero_le _, Nat.zero_le _⟩) hP (hD _ rfl) hS 0 49 rfl (fun r_31 u_30 H locs hu_30 hP hS => ?_)
            obtain ⟨hu_30r, -⟩ := hu_30
            subst hu_30r
            have hP : va_P D vwCl (kcw cI cL cS b s1 w1 m1 n1 s2 w2 m2 n2 s3 w3 m3 n3 ik bt ln tk sb en nm bits size num (bump fnd (-1000000001))) H := hP
            exact W.iret hx hb hr (fun t ht hW => ⟨⟨_, (bits, size, num, bump fnd (-1000000001)), rfl, (by unfold sSheet; rw [iF_t ⟨c_1b, Or.inr (Or.inl c_19)⟩, iF_f (Int32.not_lt.mpr c_20), iF_t (Int32.not_le.mp c_21)]), by dsimp only; rw [ht]; exact hP⟩, hS.F ht⟩) hS.2.2 dX5_sheet_59
        · skip
          refine lv_aload_n hx hb dX5_sheet_40 rfl (lv_at hl 0 rfl) ?_
          refine lv_ldc hx hb hown k185 dX5_sheet_41 ?_
          refine callMi (va_runV (As := [.int (-1000000007)]) (rest := []) ⟨hx, hb, hml, hown, hts⟩ (k_X5_found l D cI cL cS b s1 w1 m1 n1 s2 w2 m2 n2 s3 w3 m3 n3 ik bt ln tk sb en nm bits size num fnd (-1000000007) (va_DT (hD _ rfl) rfl) (vp_in_iff.mpr (by decide))) (cwV 1 hts gX5_sheet_X5_found rfl rfl rfl (by decide +kernel) ⟨Nat.le_of_ble_eq_true rfl, Nat.le_of_ble_eq_true rfl⟩) ⟨PcR_fb, va_recv hK hP (ci := 3) (q0 := 0) rfl rfl, PcR_pre hP hK⟩ rfl rfl hl.1 rfl (lv_room (Nat.le_of_ble_eq_true rfl)) dX5_sheet_43 ⟨Nat.zero_le _, Nat.zero_le _⟩) hP (hD _ rfl) hS 0 49 rfl (fun r_33 u_32 H locs hu_32 hP hS => ?_)
          obtain ⟨hu_32r, -⟩ := hu_32
          subst hu_32r
          have hP : va_P D vwCl (kcw cI cL cS b s1 w1 m1 n1 s2 w2 m2 n2 s3 w3 m3 n3 ik bt ln tk sb en nm bits size num (bump fnd (-1000000007))) H := hP
          exact W.iret hx hb hr (fun t ht hW => ⟨⟨_, (bits, size, num, bump fnd (-1000000007)), rfl, (by unfold sSheet; rw [iF_t ⟨c_1b, Or.inr (Or.inl c_19)⟩, iF_t (Int32.not_le.mp c_20)]), by dsimp only; rw [ht]; exact hP⟩, hS.F ht⟩) hS.2.2 dX5_sheet_46
      · skip
        refine lv_iload_n hx hb dX5_sheet_17 rfl (lv_at hl 2 rfl) ?_
        refine lv_bipush (v := 16) hx hb dX5_sheet_18 (by decide) ?_
        refine lv_icmp_eq (tgt := 36) hx hb dX5_sheet_20 (by decide) (fun c_34 => ?_) (fun c_34 => ?_)
        · skip
          refine lv_iload_n hx hb dX5_sheet_36 rfl (lv_at hl 3 rfl) ?_
          refine lv_if_ge (tgt := 47) hx hb dX5_sheet_37 (by decide) (fun c_35 => ?_) (fun c_35 => ?_)
          · skip
            refine lv_iload_n hx hb dX5_sheet_47 rfl (lv_at hl 3 rfl) ?_
            refine lv_bipush (v := 40) hx hb dX5_sheet_48 (by decide) ?_
            refine lv_icmp_le (tgt := 60) hx hb dX5_sheet_50 (by decide) (fun c_36 => ?_) (fun c_36 => ?_)
            · skip
              rcases in4 c_1b with rfl | rfl | rfl | rfl
              · skip
                refine lv_aload_n hx hb dX5_sheet_60 rfl (lv_at hl 0 rfl) ?_
                refine va_get (ci := 3) (v := .ref (b 6 0)) (C := RX5) (T := TX5) (N := 7) hx hb hts inX5 hown hK hP 0 rfl rfl 5 (by decide) f35 (fun _ h9 => h9) rfl dX5_sheet_61 ?_
                refine lv_iload_n hx hb dX5_sheet_64 rfl (lv_at hl 1 rfl) ?_
                refine va_aldq (f := fun s => some (b 7 s)) hx hb hK hP 39 2 rfl rfl (vp_in_iff.mpr (by decide)) dX5_sheet_65 ?_
                refine W.eq (g2 := F0 m 66 ls [.ref (b 7 0)]) rfl ?_
                refine lv_iload_n hx hb dX5_sheet_66 rfl (lv_at hl 2 rfl) ?_
                refine lv_iload_n hx hb dX5_sheet_67 rfl (lv_at hl 3 rfl) ?_
                refine callMv (va_runV (As := [.int x1, .int x2]) (rest := []) ⟨hx, hb, hml, hown, hts⟩ (k_X2_begin l D cI cL cS (b 7 0) (b 8 0) (bits 0) (size 0) (num 0) x1 x2 (va_DT (va_segD (hD (kcw cI cL cS b s1 w1 m1 n1 s2 w2 m2 n2 s3 w3 m3 n3 ik bt ln tk sb en nm bits size num fnd) rfl) 40 2 rfl) rfl)) (cwV 2 hts gX5_sheet_X2_begin rfl rfl rfl (by decide +kernel) ⟨Nat.le_of_ble_eq_true rfl, Nat.le_of_ble_eq_true rfl⟩) ⟨PcR_fb, va_recv hK hP (ci := 0) (q0 := 40) rfl rfl, PcR_pre (va_seg hP 40 2 rfl) hK⟩ rfl rfl hl.1 rfl (lv_room (Nat.le_of_ble_eq_true rfl)) dX5_sheet_68 ⟨Nat.zero_le _, Nat.zero_le _⟩) hP (hD _ rfl) hS 40 2 rfl (fun u_37 H locs hu_37 hP hS => ?_)
                have hP : va_P D vwCl (kcw cI cL cS b s1 w1 m1 n1 s2 w2 m2 n2 s3 w3 m3 n3 ik bt ln tk sb en nm (upd bits 0 x1) (upd size 0 (if x1 = 0 then 0 else x2 : Int32)) (va_up num 0 (fun _ => 0)) fnd) H := hP
                refine lv_aload_n hx hb dX5_sheet_71 rfl (lv_at hl 0 rfl) ?_
                refine va_get (ci := 3) (v := .ref (b 6 0)) (C := RX5) (T := TX5) (N := 7) hx hb hts inX5 hown hK hP 0 rfl rfl 5 (by decide) f35 (fun _ h9 => h9) rfl dX5_sheet_72 ?_
                refine lv_iload_n hx hb dX5_sheet_75 rfl (lv_at hl 1 rfl) ?_
                refine va_aldq (f := fun s => some (b 7 s)) hx hb hK hP 39 2 rfl rfl (vp_in_iff.mpr (by decide)) dX5_sheet_76 ?_
                refine W.eq (g2 := F0 m 77 ls [.ref (b 7 0)]) rfl ?_
                refine va_get (ci := 0) (v := .int ((upd size 0 (if x1 = 0 then 0 else x2 : Int32)) 0)) (C := RX2) (T := TX2) (N := 3) hx hb hts inX2 hown hK hP 40 rfl rfl 1 (by decide) f189 (fun _ h9 => h9) rfl dX5_sheet_77 ?_
                exact W.iret hx hb hr (fun t ht hW => ⟨⟨_, ((upd bits 0 x1), (upd size 0 (if x1 = 0 then 0 else x2 : Int32)), (va_up num 0 (fun _ => 0)), fnd), rfl, (by unfold sSheet; rw [iF_t ⟨c_1b, Or.inr (Or.inr (Or.inl c_34))⟩, iF_f (Int32.not_lt.mpr c_35), iF_f (Int32.not_lt.mpr c_36)]; rfl), by dsimp only; rw [ht]; exact hP⟩, hS.F ht⟩) hS.2.2 dX5_sheet_80
              · skip
                refine lv_aload_n hx hb dX5_sheet_60 rfl (lv_at hl 0 rfl) ?_
                refine va_get (ci := 3) (v := .ref (b 6 0)) (C := RX5) (T := TX5) (N := 7) hx hb hts inX5 hown hK hP 0 rfl rfl 5 (by decide) f35 (fun _ h9 => h9) rfl dX5_sheet_61 ?_
                refine lv_iload_n hx hb dX5_sheet_64 rfl (lv_at hl 1 rfl) ?_
                refine va_aldq (f := fun s => some (b 7 s)) hx hb hK hP 39 2 rfl rfl (vp_in_iff.mpr (by decide)) dX5_sheet_65 ?_
                refine W.eq (g2 := F0 m 66 ls [.ref (b 7 1)]) rfl ?_
                refine lv_iload_n hx hb dX5_sheet_66 rfl (lv_at hl 2 rfl) ?_
                refine lv_iload_n hx hb dX5_sheet_67 rfl (lv_at hl 3 rfl) ?_
                refine callMv (va_runV (As := [.int x1, .int x2]) (rest := []) ⟨hx, hb, hml, hown, hts⟩ (k_X2_begin l D cI cL cS (b 7 1) (b 8 1) (bits 1) (size 1) (num 1) x1 x2 (va_DT (va_segD (hD (kcw cI cL cS b s1 w1 m1 n1 s2 w2 m2 n2 s3 w3 m3 n3 ik bt ln tk sb en nm bits size num fnd) rfl) 42 2 rfl) rfl)) (cwV 2 hts gX5_sheet_X2_begin rfl rfl rfl (by decide +kernel) ⟨Nat.le_of_ble_eq_true rfl, Nat.le_of_ble_eq_true rfl⟩) ⟨PcR_fb, va_recv hK hP (ci := 0) (q0 := 42) rfl rfl, PcR_pre (va_seg hP 42 2 rfl) hK⟩ rfl rfl hl.1 rfl (lv_room (Nat.le_of_ble_eq_true rfl)) dX5_sheet_68 ⟨Nat.zero_le _, Nat.zero_le _⟩) hP (hD _ rfl) hS 42 2 rfl (fun u_39 H locs hu_39 hP hS => ?_)
                have hP : va_P D vwCl (kcw cI cL cS b s1 w1 m1 n1 s2 w2 m2 n2 s3 w3 m3 n3 ik bt ln tk sb en nm (upd bits 1 x1) (upd size 1 (if x1 = 0 then 0 else x2 : Int32)) (va_up num 1 (fun _ => 0)) fnd) H := hP
                refine lv_aload_n hx hb dX5_sheet_71 rfl (lv_at hl 0 rfl) ?_
                refine va_get (ci := 3) (v := .ref (b 6 0)) (C := RX5) (T := TX5) (N := 7) hx hb hts inX5 hown hK hP 0 rfl rfl 5 (by decide) f35 (fun _ h9 => h9) rfl dX5_sheet_72 ?_
                refine lv_iload_n hx hb dX5_sheet_75 rfl (lv_at hl 1 rfl) ?_
                refine va_aldq (f := fun s => some (b 7 s)) hx hb hK hP 39 2 rfl rfl (vp_in_iff.mpr (by decide)) dX5_sheet_76 ?_
                refine W.eq (g2 := F0 m 77 ls [.ref (b 7 1)]) rfl ?_
                refine va_get (ci := 0) (v := .int ((upd size 1 (if x1 = 0 then 0 else x2 : Int32)) 1)) (C := RX2) (T := TX2) (N := 3) hx hb hts inX2 hown hK hP 42 rfl rfl 1 (by decide) f189 (fun _ h9 => h9) rfl dX5_sheet_77 ?_
                exact W.iret hx hb hr (fun t ht hW => ⟨⟨_, ((upd bits 1 x1), (upd size 1 (if x1 = 0 then 0 else x2 : Int32)), (va_up num 1 (fun _ => 0)), fnd), rfl, (by unfold sSheet; rw [iF_t ⟨c_1b, Or.inr (Or.inr (Or.inl c_34))⟩, iF_f (Int32.not_lt.mpr c_35), iF_f (Int32.not_lt.mpr c_36)]; rfl), by dsimp only; rw [ht]; exact hP⟩, hS.F ht⟩) hS.2.2 dX5_sheet_80
              · skip
                refine lv_aload_n hx hb dX5_sheet_60 rfl (lv_at hl 0 rfl) ?_
                refine va_get (ci := 3) (v := .ref (b 6 0)) (C := RX5) (T := TX5) (N := 7) hx hb hts inX5 hown hK hP 0 rfl rfl 5 (by decide) f35 (fun _ h9 => h9) rfl dX5_sheet_61 ?_
                refine lv_iload_n hx hb dX5_sheet_64 rfl (lv_at hl 1 rfl) ?_
                refine va_aldq (f := fun s => some (b 7 s)) hx hb hK hP 39 2 rfl rfl (vp_in_iff.mpr (by decide)) dX5_sheet_65 ?_
                refine W.eq (g2 := F0 m 66 ls [.ref (b 7 2)]) rfl ?_
                refine lv_iload_n hx hb dX5_sheet_66 rfl (lv_at hl 2 rfl) ?_
                refine lv_iload_n hx hb dX5_sheet_67 rfl (lv_at hl 3 rfl) ?_
                refine callMv (va_runV (As := [.int x1, .int x2]) (rest := []) ⟨hx, hb, hml, hown, hts⟩ (k_X2_begin l D cI cL cS (b 7 2) (b 8 2) (bits 2) (size 2) (num 2) x1 x2 (va_DT (va_segD (hD (kcw cI cL cS b s1 w1 m1 n1 s2 w2 m2 n2 s3 w3 m3 n3 ik bt ln tk sb en nm bits size num fnd) rfl) 44 2 rfl) rfl)) (cwV 2 hts gX5_sheet_X2_begin rfl rfl rfl (by decide +kernel) ⟨Nat.le_of_ble_eq_true rfl, Nat.le_of_ble_eq_true rfl⟩) ⟨PcR_fb, va_recv hK hP (ci := 0) (q0 := 44) rfl rfl, PcR_pre (va_seg hP 44 2 rfl) hK⟩ rfl rfl hl.1 rfl (lv_room (Nat.le_of_ble_eq_true rfl)) dX5_sheet_68 ⟨Nat.zero_le _, Nat.zero_le _⟩) hP (hD _ rfl) hS 44 2 rfl (fun u_41 H locs hu_41 hP hS => ?_)
                have hP : va_P D vwCl (kcw cI cL cS b s1 w1 m1 n1 s2 w2 m2 n2 s3 w3 m3 n3 ik bt ln tk sb en nm (upd bits 2 x1) (upd size 2 (if x1 = 0 then 0 else x2 : Int32)) (va_up num 2 (fun _ => 0)) fnd) H := hP
                refine lv_aload_n hx hb dX5_sheet_71 rfl (lv_at hl 0 rfl) ?_
                refine va_get (ci := 3) (v := .ref (b 6 0)) (C := RX5) (T := TX5) (N := 7) hx hb hts inX5 hown hK hP 0 rfl rfl 5 (by decide) f35 (fun _ h9 => h9) rfl dX5_sheet_72 ?_
                refine lv_iload_n hx hb dX5_sheet_75 rfl (lv_at hl 1 rfl) ?_
                refine va_aldq (f := fun s => some (b 7 s)) hx hb hK hP 39 2 rfl rfl (vp_in_iff.mpr (by decide)) dX5_sheet_76 ?_
                refine W.eq (g2 := F0 m 77 ls [.ref (b 7 2)]) rfl ?_
                refine va_get (ci := 0) (v := .int ((upd size 2 (if x1 = 0 then 0 else x2 : Int32)) 2)) (C := RX2) (T := TX2) (N := 3) hx hb hts inX2 hown hK hP 44 rfl rfl 1 (by decide) f189 (fun _ h9 => h9) rfl dX5_sheet_77 ?_
                exact W.iret hx hb hr (fun t ht hW => ⟨⟨_, ((upd bits 2 x1), (upd size 2 (if x1 = 0 then 0 else x2 : Int32)), (va_up num 2 (fun _ => 0)), fnd), rfl, (by unfold sSheet; rw [iF_t ⟨c_1b, Or.inr (Or.inr (Or.inl c_34))⟩, iF_f (Int32.not_lt.mpr c_35), iF_f (Int32.not_lt.mpr c_36)]; rfl), by dsimp only; rw [ht]; exact hP⟩, hS.F ht⟩) hS.2.2 dX5_sheet_80
              · skip
                refine lv_aload_n hx hb dX5_sheet_60 rfl (lv_at hl 0 rfl) ?_
                refine va_get (ci := 3) (v := .ref (b 6 0)) (C := RX5) (T := TX5) (N := 7) hx hb hts inX5 hown hK hP 0 rfl rfl 5 (by decide) f35 (fun _ h9 => h9) rfl dX5_sheet_61 ?_
                refine lv_iload_n hx hb dX5_sheet_64 rfl (lv_at hl 1 rfl) ?_
                refine va_aldq (f := fun s => some (b 7 s)) hx hb hK hP 39 2 rfl rfl (vp_in_iff.mpr (by decide)) dX5_sheet_65 ?_
                refine W.eq (g2 := F0 m 66 ls [.ref (b 7 3)]) rfl ?_
                refine lv_iload_n hx hb dX5_sheet_66 rfl (lv_at hl 2 rfl) ?_
                refine lv_iload_n hx hb dX5_sheet_67 rfl (lv_at hl 3 rfl) ?_
                refine callMv (va_runV (As := [.int x1, .int x2]) (rest := []) ⟨hx, hb, hml, hown, hts⟩ (k_X2_begin l D cI cL cS (b 7 3) (b 8 3) (bits 3) (size 3) (num 3) x1 x2 (va_DT (va_segD (hD (kcw cI cL cS b s1 w1 m1 n1 s2 w2 m2 n2 s3 w3 m3 n3 ik bt ln tk sb en nm bits size num fnd) rfl) 46 2 rfl) rfl)) (cwV 2 hts gX5_sheet_X2_begin rfl rfl rfl (by decide +kernel) ⟨Nat.le_of_ble_eq_true rfl, Nat.le_of_ble_eq_true rfl⟩) ⟨PcR_fb, va_recv hK hP (ci := 0) (q0 := 46) rfl rfl, PcR_pre (va_seg hP 46 2 rfl) hK⟩ rfl rfl hl.1 rfl (lv_room (Nat.le_of_ble_eq_true rfl)) dX5_sheet_68 ⟨Nat.zero_le _, Nat.zero_le _⟩) hP (hD _ rfl) hS 46 2 rfl (fun u_43 H locs hu_43 hP hS => ?_)
                have hP : va_P D vwCl (kcw cI cL cS b s1 w1 m1 n1 s2 w2 m2 n2 s3 w3 m3 n3 ik bt ln tk sb en nm (upd bits 3 x1) (upd size 3 (if x1 = 0 then 0 else x2 : Int32)) (va_up num 3 (fun _ => 0)) fnd) H := hP
                refine lv_aload_n hx hb dX5_sheet_71 rfl (lv_at hl 0 rfl) ?_
                refine va_get (ci := 3) (v := .ref (b 6 0)) (C := RX5) (T := TX5) (N := 7) hx hb hts inX5 hown hK hP 0 rfl rfl 5 (by decide) f35 (fun _ h9 => h9) rfl dX5_sheet_72 ?_
                refine lv_iload_n hx hb dX5_sheet_75 rfl (lv_at hl 1 rfl) ?_
                refine va_aldq (f := fun s => some (b 7 s)) hx hb hK hP 39 2 rfl rfl (vp_in_iff.mpr (by decide)) dX5_sheet_76 ?_
                refine W.eq (g2 := F0 m 77 ls [.ref (b 7 3)]) rfl ?_
                refine va_get (ci := 0) (v := .int ((upd size 3 (if x1 = 0 then 0 else x2 : Int32)) 3)) (C := RX2) (T := TX2) (N := 3) hx hb hts inX2 hown hK hP 46 rfl rfl 1 (by decide) f189 (fun _ h9 => h9) rfl dX5_sheet_77 ?_
                exact W.iret hx hb hr (fun t ht hW => ⟨⟨_, ((upd bits 3 x1), (upd size 3 (if x1 = 0 then 0 else x2 : Int32)), (va_up num 3 (fun _ => 0)), fnd), rfl, (by unfold sSheet; rw [iF_t ⟨c_1b, Or.inr (Or.inr (Or.inl c_34))⟩, iF_f (Int32.not_lt.mpr c_35), iF_f (Int32.not_lt.mpr c_36)]; rfl), by dsimp only; rw [ht]; exact hP⟩, hS.F ht⟩) hS.2.2 dX5_sheet_80
            · skip
              refine lv_aload_n hx hb dX5_sheet_53 rfl (lv_at hl 0 rfl) ?_
              refine lv_ldc hx hb hown k52 dX5_sheet_54 ?_
              refine callMi (va_runV (As := [.int (-1000000001)]) (rest := []) ⟨hx, hb, hml, hown, hts⟩ (k_X5_found l D cI cL cS b s1 w1 m1 n1 s2 w2 m2 n2 s3 w3 m3 n3 ik bt ln tk sb en nm bits size num fnd (-1000000001) (va_DT (hD _ rfl) rfl) (vp_in_iff.mpr (by decide))) (cwV 1 hts gX5_sheet_X5_found rfl rfl rfl (by decide +kernel) ⟨Nat.le_of_ble_eq_true rfl, Nat.le_of_ble_eq_true rfl⟩) ⟨PcR_fb, va_recv hK hP (ci := 3) (q0 := 0) rfl rfl, PcR_pre hP hK⟩ rfl rfl hl.1 rfl (lv_room (Nat.le_of_ble_eq_true rfl)) dX5_sheet_56 ⟨Nat.zero_le _, Nat.zero_le _⟩) hP (hD _ rfl) hS 0 49 rfl (fun r_46 u_45 H locs hu_45 hP hS => ?_)
              obtain ⟨hu_45r, -⟩ := hu_45
              subst hu_45r
              have hP : va_P D vwCl (kcw cI cL cS b s1 w1 m1 n1 s2 w2 m2 n2 s3 w3 m3 n3 ik bt ln tk sb en nm bits size num (bump fnd (-1000000001))) H := hP
              exact W.iret hx hb hr (fun t ht hW => ⟨⟨_, (bits, size, num, bump fnd (-1000000001)), rfl, (by unfold sSheet; rw [iF_t ⟨c_1b, Or.inr (Or.inr (Or.inl c_34))⟩, iF_f (Int32.not_lt.mpr c_35), iF_t (Int32.not_le.mp c_36)]), by dsimp only; rw [ht]; exact hP⟩, hS.F ht⟩) hS.2.2 dX5_sheet_59
          · skip
            refine lv_aload_n hx hb dX5_sheet_40 rfl (lv_at hl 0 rfl) ?_
            refine lv_ldc hx hb hown k185 dX5_sheet_41 ?_
            refine callMi (va_runV (As := [.int (-1000000007)]) (rest := []) ⟨hx, hb, hml, hown, hts⟩ (k_X5_found l D cI cL cS b s1 w1 m1 n1 s2 w2 m2 n2 s3 w3 m3 n3 ik bt ln tk sb en nm bits size num fnd (-1000000007) (va_DT (hD _ rfl) rfl) (vp_in_iff.mpr (by decide))) (cwV 1 hts gX5_sheet_X5_found rfl rfl rfl (by decide +kernel) ⟨Nat.le_of_ble_eq_true rfl, Nat.le_of_ble_eq_true rfl⟩) ⟨PcR_fb, va_recv hK hP (ci := 3) (q0 := 0) rfl rfl, PcR_pre hP hK⟩ rfl rfl hl.1 rfl (lv_room (Nat.le_of_ble_eq_true rfl)) dX5_sheet_43 ⟨Nat.zero_le _, Nat.zero_le _⟩) hP (hD _ rfl) hS 0 49 rfl (fun r_48 u_47 H locs hu_47 hP hS => ?_)
            obtain ⟨hu_47r, -⟩ := hu_47
            subst hu_47r
            have hP : va_P D vwCl (kcw cI cL cS b s1 w1 m1 n1 s2 w2 m2 n2 s3 w3 m3 n3 ik bt ln tk sb en nm bits size num (bump fnd (-1000000007))) H := hP
            exact W.iret hx hb hr (fun t ht hW => ⟨⟨_, (bits, size, num, bump fnd (-1000000007)), rfl, (by unfold sSheet; rw [iF_t ⟨c_1b, Or.inr (Or.inr (Or.inl c_34))⟩, iF_t (Int32.not_le.mp c_35)]), by dsimp only; rw [ht]; exact hP⟩, hS.F ht⟩) hS.2.2 dX5_sheet_46
        · skip
          refine lv_iload_n hx hb dX5_sheet_23 rfl (lv_at hl 2 rfl) ?_
          refine lv_bipush (v := 64) hx hb dX5_sheet_24 (by decide) ?_
          refine lv_icmp_eq (tgt := 36) hx hb dX5_sheet_26 (by decide) (fun c_49 => ?_) (fun c_49 => ?_)
          · skip
            refine lv_iload_n hx hb dX5_sheet_36 rfl (lv_at hl 3 rfl) ?_
            refine lv_if_ge (tgt := 47) hx hb dX5_sheet_37 (by decide) (fun c_50 => ?_) (fun c_50 => ?_)
            · skip
              refine lv_iload_n hx hb dX5_sheet_47 rfl (lv_at hl 3 rfl) ?_
              refine lv_bipush (v := 40) hx hb dX5_sheet_48 (by decide) ?_
              refine lv_icmp_le (tgt := 60) hx hb dX5_sheet_50 (by decide) (fun c_51 => ?_) (fun c_51 => ?_)
              · skip
                rcases in4 c_1b with rfl | rfl | rfl | rfl
                · skip
                  refine lv_aload_n hx hb dX5_sheet_60 rfl (lv_at hl 0 rfl) ?_
                  refine va_get (ci := 3) (v := .ref (b 6 0)) (C := RX5) (T := TX5) (N := 7) hx hb hts inX5 hown hK hP 0 rfl rfl 5 (by decide) f35 (fun _ h9 => h9) rfl dX5_sheet_61 ?_
                  refine lv_iload_n hx hb dX5_sheet_64 rfl (lv_at hl 1 rfl) ?_
                  refine va_aldq (f := fun s => some (b 7 s)) hx hb hK hP 39 2 rfl rfl (vp_in_iff.mpr (by decide)) dX5_sheet_65 ?_
                  refine W.eq (g2 := F0 m 66 ls [.ref (b 7 0)]) rfl ?_
                  refine lv_iload_n hx hb dX5_sheet_66 rfl (lv_at hl 2 rfl) ?_
                  refine lv_iload_n hx hb dX5_sheet_67 rfl (lv_at hl 3 rfl) ?_
                  refine callMv (va_runV (As := [.int x1, .int x2]) (rest := []) ⟨hx, hb, hml, hown, hts⟩ (k_X2_begin l D cI cL cS (b 7 0) (b 8 0) (bits 0) (size 0) (num 0) x1 x2 (va_DT (va_segD (hD (kcw cI cL cS b s1 w1 m1 n1 s2 w2 m2 n2 s3 w3 m3 n3 ik bt ln tk sb en nm bits size num fnd) rfl) 40 2 rfl) rfl)) (cwV 2 hts gX5_sheet_X2_begin rfl rfl rfl (by decide +kernel) ⟨Nat.le_of_ble_eq_true rfl, Nat.le_of_ble_eq_true rfl⟩) ⟨PcR_fb, va_recv hK hP (ci := 0) (q0 := 40) rfl rfl, PcR_pre (va_seg hP 40 2 rfl) hK⟩ rfl rfl hl.1 rfl (lv_room (Nat.le_of_ble_eq_true rfl)) dX5_sheet_68 ⟨Nat.zero_le _, Nat.zero_le _⟩) hP (hD _ rfl) hS 40 2 rfl (fun u_52 H locs hu_52 hP hS => ?_)
                  have hP : va_P D vwCl (kcw cI cL cS b s1 w1 m1 n1 s2 w2 m2 n2 s3 w3 m3 n3 ik bt ln tk sb en nm (upd bits 0 x1) (upd size 0 (if x1 = 0 then 0 else x2 : Int32)) (va_up num 0 (fun _ => 0)) fnd) H := hP
                  refine lv_aload_n hx hb dX5_sheet_71 rfl (lv_at hl 0 rfl) ?_
                  refine va_get (ci := 3) (v := .ref (b 6 0)) (C := RX5) (T := TX5) (N := 7) hx hb hts inX5 hown hK hP 0 rfl rfl 5 (by decide) f35 (fun _ h9 => h9) rfl dX5_sheet_72 ?_
                  refine lv_iload_n hx hb dX5_sheet_75 rfl (lv_at hl 1 rfl) ?_
                  refine va_aldq (f := fun s => some (b 7 s)) hx hb hK hP 39 2 rfl rfl (vp_in_iff.mpr (by decide)) dX5_sheet_76 ?_
                  refine W.eq (g2 := F0 m 77 ls [.ref (b 7 0)]) rfl ?_
                  refine va_get (ci := 0) (v := .int ((upd size 0 (if x1 = 0 then 0 else x2 : Int32)) 0)) (C := RX2) (T := TX2) (N := 3) hx hb hts inX2 hown hK hP 40 rfl rfl 1 (by decide) f189 (fun _ h9 => h9) rfl dX5_sheet_77 ?_
                  exact W.iret hx hb hr (fun t ht hW => ⟨⟨_, ((upd bits 0 x1), (upd size 0 (if x1 = 0 then 0 else x2 : Int32)), (va_up num 0 (fun _ => 0)), fnd), rfl, (by unfold sSheet; rw [iF_t ⟨c_1b, Or.inr (Or.inr (Or.inr c_49))⟩, iF_f (Int32.not_lt.mpr c_50), iF_f (Int32.not_lt.mpr c_51)]; rfl), by dsimp only; rw [ht]; exact hP⟩, hS.F ht⟩) hS.2.2 dX5_sheet_80
                · skip
                  refine lv_aload_n hx hb dX5_sheet_60 rfl (lv_at hl 0 rfl) ?_
                  refine va_get (ci := 3) (v := .ref (b 6 0)) (C := RX5) (T := TX5) (N := 7) hx hb hts inX5 hown hK hP 0 rfl rfl 5 (by decide) f35 (fun _ h9 => h9) rfl dX5_sheet_61 ?_
                  refine lv_iload_n hx hb dX5_sheet_64 rfl (lv_at hl 1 rfl) ?_
                  refine va_aldq (f := fun s => some (b 7 s)) hx hb hK hP 39 2 rfl rfl (vp_in_iff.mpr (by decide)) dX5_sheet_65 ?_
                  refine W.eq (g2 := F0 m 66 ls [.ref (b 7 1)]) rfl ?_
                  refine lv_iload_n hx hb dX5_sheet_66 rfl (lv_at hl 2 rfl) ?_
                  refine lv_iload_n hx hb dX5_sheet_67 rfl (lv_at hl 3 rfl) ?_
                  refine callMv (va_runV (As := [.int x1, .int x2]) (rest := []) ⟨hx, hb, hml, hown, hts⟩ (k_X2_begin l D cI cL cS (b 7 1) (b 8 1) (bits 1) (size 1) (num 1) x1 x2 (va_DT (va_segD (hD (kcw cI cL cS b s1 w1 m1 n1 s2 w2 m2 n2 s3 w3 m3 n3 ik bt ln tk sb en nm bits size num fnd) rfl) 42 2 rfl) rfl)) (cwV 2 hts gX5_sheet_X2_begin rfl rfl rfl (by decide +kernel) ⟨Nat.le_of_ble_eq_true rfl, Nat.le_of_ble_eq_true rfl⟩) ⟨PcR_fb, va_recv hK hP (ci := 0) (q0 := 42) rfl rfl, PcR_pre (va_seg hP 42 2 rfl) hK⟩ rfl rfl hl.1 rfl (lv_room (Nat.le_of_ble_eq_true rfl)) dX5_sheet_68 ⟨Nat.zero_le _, Nat.zero_le _⟩) hP (hD _ rfl) hS 42 2 rfl (fun u_54 H locs hu_54 hP hS => ?_)
                  have hP : va_P D vwCl (kcw cI cL cS b s1 w1 m1 n1 s2 w2 m2 n2 s3 w3 m3 n3 ik bt ln tk sb en nm (upd bits 1 x1) (upd size 1 (if x1 = 0 then 0 else x2 : Int32)) (va_up num 1 (fun _ => 0)) fnd) H := hP
                  refine lv_aload_n hx hb dX5_sheet_71 rfl (lv_at hl 0 rfl) ?_
                  refine va_get (ci := 3) (v := .ref (b 6 0)) (C := RX5) (T := TX5) (N := 7) hx hb hts inX5 hown hK hP 0 rfl rfl 5 (by decide) f35 (fun _ h9 => h9) rfl dX5_sheet_72 ?_
                  refine lv_iload_n hx hb dX5_sheet_75 rfl (lv_at hl 1 rfl) ?_
                  refine va_aldq (f := fun s => some (b 7 s)) hx hb hK hP 39 2 rfl rfl (vp_in_iff.mpr (by decide)) dX5_sheet_76 ?_
                  refine W.eq (g2 := F0 m 77 ls [.ref (b 7 1)]) rfl ?_
                  refine va_get (ci := 0) (v := .int ((upd size 1 (if x1 = 0 then 0 else x2 : Int32)) 1)) (C := RX2) (T := TX2) (N := 3) hx hb hts inX2 hown hK hP 42 rfl rfl 1 (by decide) f189 (fun _ h9 => h9) rfl dX5_sheet_77 ?_
                  exact W.iret hx hb hr (fun t ht hW => ⟨⟨_, ((upd bits 1 x1), (upd size 1 (if x1 = 0 then 0 else x2 : Int32)), (va_up num 1 (fun _ => 0)), fnd), rfl, (by unfold sSheet; rw [iF_t ⟨c_1b, Or.inr (Or.inr (Or.inr c_49))⟩, iF_f (Int32.not_lt.mpr c_50), iF_f (Int32.not_lt.mpr c_51)]; rfl), by dsimp only; rw [ht]; exact hP⟩, hS.F ht⟩) hS.2.2 dX5_sheet_80
                · skip
                  refine lv_aload_n hx hb dX5_sheet_60 rfl (lv_at hl 0 rfl) ?_
                  refine va_get (ci := 3) (v := .ref (b 6 0)) (C := RX5) (T := TX5) (N := 7) hx hb hts inX5 hown hK hP 0 rfl rfl 5 (by decide) f35 (fun _ h9 => h9) rfl dX5_sheet_61 ?_
                  refine lv_iload_n hx hb dX5_sheet_64 rfl (lv_at hl 1 rfl) ?_
                  refine va_aldq (f := fun s => some (b 7 s)) hx hb hK hP 39 2 rfl rfl (vp_in_iff.mpr (by decide)) dX5_sheet_65 ?_
                  refine W.eq (g2 := F0 m 66 ls [.ref (b 7 2)]) rfl ?_
                  refine lv_iload_n hx hb dX5_sheet_66 rfl (lv_at hl 2 rfl) ?_
                  refine lv_iload_n hx hb dX5_sheet_67 rfl (lv_at hl 3 rfl) ?_
                  refine callMv (va_runV (As := [.int x1, .int x2]) (rest := []) ⟨hx, hb, hml, hown, hts⟩ (k_X2_begin l D cI cL cS (b 7 2) (b 8 2) (bits 2) (size 2) (num 2) x1 x2 (va_DT (va_segD (hD (kcw cI cL cS b s1 w1 m1 n1 s2 w2 m2 n2 s3 w3 m3 n3 ik bt ln tk sb en nm bits size num fnd) rfl) 44 2 rfl) rfl)) (cwV 2 hts gX5_sheet_X2_begin rfl rfl rfl (by decide +kernel) ⟨Nat.le_of_ble_eq_true rfl, Nat.le_of_ble_eq_true rfl⟩) ⟨PcR_fb, va_recv hK hP (ci := 0) (q0 := 44) rfl rfl, PcR_pre (va_seg hP 44 2 rfl) hK⟩ rfl rfl hl.1 rfl (lv_room (Nat.le_of_ble_eq_true rfl)) dX5_sheet_68 ⟨Nat.zero_le _, Nat.zero_le _⟩) hP (hD _ rfl) hS 44 2 rfl (fun u_56 H locs hu_56 hP hS => ?_)
                  have hP : va_P D vwCl (kcw cI cL cS b s1 w1 m1 n1 s2 w2 m2 n2 s3 w3 m3 n3 ik bt ln tk sb en nm (upd bits 2 x1) (upd size 2 (if x1 = 0 then 0 else x2 : Int32)) (va_up num 2 (fun _ => 0)) fnd) H := hP
                  refine lv_aload_n hx hb dX5_sheet_71 rfl (lv_at hl 0 rfl) ?_
                  refine va_get (ci := 3) (v := .ref (b 6 0)) (C := RX5) (T := TX5) (N := 7) hx hb hts inX5 hown hK hP 0 rfl rfl 5 (by decide) f35 (fun _ h9 => h9) rfl dX5_sheet_72 ?_
                  refine lv_iload_n hx hb dX5_sheet_75 rfl (lv_at hl 1 rfl) ?_
                  refine va_aldq (f := fun s => some (b 7 s)) hx hb hK hP 39 2 rfl rfl (vp_in_iff.mpr (by decide)) dX5_sheet_76 ?_
                  refine W.eq (g2 := F0 m 77 ls [.ref (b 7 2)]) rfl ?_
                  refine va_get (ci := 0) (v := .int ((upd size 2 (if x1 = 0 then 0 else x2 : Int32)) 2)) (C := RX2) (T := TX2) (N := 3) hx hb hts inX2 hown hK hP 44 rfl rfl 1 (by decide) f189 (fun _ h9 => h9) rfl dX5_sheet_77 ?_
                  exact W.iret hx hb hr (fun t ht hW => ⟨⟨_, ((upd bits 2 x1), (upd size 2 (if x1 = 0 then 0 else x2 : Int32)), (va_up num 2 (fun _ => 0)), fnd), rfl, (by unfold sSheet; rw [iF_t ⟨c_1b, Or.inr (Or.inr (Or.inr c_49))⟩, iF_f (Int32.not_lt.mpr c_50), iF_f (Int32.not_lt.mpr c_51)]; rfl), by dsimp only; rw [ht]; exact hP⟩, hS.F ht⟩) hS.2.2 dX5_sheet_80
                · skip
                  refine lv_aload_n hx hb dX5_sheet_60 rfl (lv_at hl 0 rfl) ?_
                  refine va_get (ci := 3) (v := .ref (b 6 0)) (C := RX5) (T := TX5) (N := 7) hx hb hts inX5 hown hK hP 0 rfl rfl 5 (by decide) f35 (fun _ h9 => h9) rfl dX5_sheet_61 ?_
                  refine lv_iload_n hx hb dX5_sheet_64 rfl (lv_at hl 1 rfl) ?_
                  refine va_aldq (f := fun s => some (b 7 s)) hx hb hK hP 39 2 rfl rfl (vp_in_iff.mpr (by decide)) dX5_sheet_65 ?_
                  refine W.eq (g2 := F0 m 66 ls [.ref (b 7 3)]) rfl ?_
                  refine lv_iload_n hx hb dX5_sheet_66 rfl (lv_at hl 2 rfl) ?_
                  refine lv_iload_n hx hb dX5_sheet_67 rfl (lv_at hl 3 rfl) ?_
                  refine callMv (va_runV (As := [.int x1, .int x2]) (rest := []) ⟨hx, hb, hml, hown, hts⟩ (k_X2_begin l D cI cL cS (b 7 3) (b 8 3) (bits 3) (size 3) (num 3) x1 x2 (va_DT (va_segD (hD (kcw cI cL cS b s1 w1 m1 n1 s2 w2 m2 n2 s3 w3 m3 n3 ik bt ln tk sb en nm bits size num fnd) rfl) 46 2 rfl) rfl)) (cwV 2 hts gX5_sheet_X2_begin rfl rfl rfl (by decide +kernel) ⟨Nat.le_of_ble_eq_true rfl, Nat.le_of_ble_eq_true rfl⟩) ⟨PcR_fb, va_recv hK hP (ci := 0) (q0 := 46) rfl rfl, PcR_pre (va_seg hP 46 2 rfl) hK⟩ rfl rfl hl.1 rfl (lv_room (Nat.le_of_ble_eq_true rfl)) dX5_sheet_68 ⟨Nat.zero_le _, Nat.zero_le _⟩) hP (hD _ rfl) hS 46 2 rfl (fun u_58 H locs hu_58 hP hS => ?_)
                  have hP : va_P D vwCl (kcw cI cL cS b s1 w1 m1 n1 s2 w2 m2 n2 s3 w3 m3 n3 ik bt ln tk sb en nm (upd bits 3 x1) (upd size 3 (if x1 = 0 then 0 else x2 : Int32)) (va_up num 3 (fun _ => 0)) fnd) H := hP
                  refine lv_aload_n hx hb dX5_sheet_71 rfl (lv_at hl 0 rfl) ?_
                  refine va_get (ci := 3) (v := .ref (b 6 0)) (C := RX5) (T := TX5) (N := 7) hx hb hts inX5 hown hK hP 0 rfl rfl 5 (by decide) f35 (fun _ h9 => h9) rfl dX5_sheet_72 ?_
                  refine lv_iload_n hx hb dX5_sheet_75 rfl (lv_at hl 1 rfl) ?_
                  refine va_aldq (f := fun s => some (b 7 s)) hx hb hK hP 39 2 rfl rfl (vp_in_iff.mpr (by decide)) dX5_sheet_76 ?_
                  refine W.eq (g2 := F0 m 77 ls [.ref (b 7 3)]) rfl ?_
                  refine va_get (ci := 0) (v := .int ((upd size 3 (if x1 = 0 then 0 else x2 : Int32)) 3)) (C := RX2) (T := TX2) (N := 3) hx hb hts inX2 hown hK hP 46 rfl rfl 1 (by decide) f189 (fun _ h9 => h9) rfl dX5_sheet_77 ?_
                  exact W.iret hx hb hr (fun t ht hW => ⟨⟨_, ((upd bits 3 x1), (upd size 3 (if x1 = 0 then 0 else x2 : Int32)), (va_up num 3 (fun _ => 0)), fnd), rfl, (by unfold sSheet; rw [iF_t ⟨c_1b, Or.inr (Or.inr (Or.inr c_49))⟩, iF_f (Int32.not_lt.mpr c_50), iF_f (Int32.not_lt.mpr c_51)]; rfl), by dsimp only; rw [ht]; exact hP⟩, hS.F ht⟩) hS.2.2 dX5_sheet_80
              · skip
                refine lv_aload_n hx hb dX5_sheet_53 rfl (lv_at hl 0 rfl) ?_
                refine lv_ldc hx hb hown k52 dX5_sheet_54 ?_
                refine callMi (va_runV (As := [.int (-1000000001)]) (rest := []) ⟨hx, hb, hml, hown, hts⟩ (k_X5_found l D cI cL cS b s1 w1 m1 n1 s2 w2 m2 n2 s3 w3 m3 n3 ik bt ln tk sb en nm bits size num fnd (-1000000001) (va_DT (hD _ rfl) rfl) (vp_in_iff.mpr (by decide))) (cwV 1 hts gX5_sheet_X5_found rfl rfl rfl (by decide +kernel) ⟨Nat.le_of_ble_eq_true rfl, Nat.le_of_ble_eq_true rfl⟩) ⟨PcR_fb, va_recv hK hP (ci := 3) (q0 := 0) rfl rfl, PcR_pre hP hK⟩ rfl rfl hl.1 rfl (lv_room (Nat.le_of_ble_eq_true rfl)) dX5_sheet_56 ⟨Nat.zero_le _, Nat.zero_le _⟩) hP (hD _ rfl) hS 0 49 rfl (fun r_61 u_60 H locs hu_60 hP hS => ?_)
                obtain ⟨hu_60r, -⟩ := hu_60
                subst hu_60r
                have hP : va_P D vwCl (kcw cI cL cS b s1 w1 m1 n1 s2 w2 m2 n2 s3 w3 m3 n3 ik bt ln tk sb en nm bits size num (bump fnd (-1000000001))) H := hP
                exact W.iret hx hb hr (fun t ht hW => ⟨⟨_, (bits, size, num, bump fnd (-1000000001)), rfl, (by unfold sSheet; rw [iF_t ⟨c_1b, Or.inr (Or.inr (Or.inr c_49))⟩, iF_f (Int32.not_lt.mpr c_50), iF_t (Int32.not_le.mp c_51)]), by dsimp only; rw [ht]; exact hP⟩, hS.F ht⟩) hS.2.2 dX5_sheet_59
            · skip
              refine lv_aload_n hx hb dX5_sheet_40 rfl (lv_at hl 0 rfl) ?_
              refine lv_ldc hx hb hown k185 dX5_sheet_41 ?_
              refine callMi (va_runV (As := [.int (-1000000007)]) (rest := []) ⟨hx, hb, hml, hown, hts⟩ (k_X5_found l D cI cL cS b s1 w1 m1 n1 s2 w2 m2 n2 s3 w3 m3 n3 ik bt ln tk sb en nm bits size num fnd (-1000000007) (va_DT (hD _ rfl) rfl) (vp_in_iff.mpr (by decide))) (cwV 1 hts gX5_sheet_X5_found rfl rfl rfl (by decide +kernel) ⟨Nat.le_of_ble_eq_true rfl, Nat.le_of_ble_eq_true rfl⟩) ⟨PcR_fb, va_recv hK hP (ci := 3) (q0 := 0) rfl rfl, PcR_pre hP hK⟩ rfl rfl hl.1 rfl (lv_room (Nat.le_of_ble_eq_true rfl)) dX5_sheet_43 ⟨Nat.zero_le _, Nat.zero_le _⟩) hP (hD _ rfl) hS 0 49 rfl (fun r_63 u_62 H locs hu_62 hP hS => ?_)
              obtain ⟨hu_62r, -⟩ := hu_62
              subst hu_62r
              have hP : va_P D vwCl (kcw cI cL cS b s1 w1 m1 n1 s2 w2 m2 n2 s3 w3 m3 n3 ik bt ln tk sb en nm bits size num (bump fnd (-1000000007))) H := hP
              exact W.iret hx hb hr (fun t ht hW => ⟨⟨_, (bits, size, num, bump fnd (-1000000007)), rfl, (by unfold sSheet; rw [iF_t ⟨c_1b, Or.inr (Or.inr (Or.inr c_49))⟩, iF_t (Int32.not_le.mp c_50)]), by dsimp only; rw [ht]; exact hP⟩, hS.F ht⟩) hS.2.2 dX5_sheet_46
          · skip
            refine lv_aload_n hx hb dX5_sheet_29 rfl (lv_at hl 0 rfl) ?_
            refine lv_ldc hx hb hown k52 dX5_sheet_30 ?_
            refine callMi (va_runV (As := [.int (-1000000001)]) (rest := []) ⟨hx, hb, hml, hown, hts⟩ (k_X5_found l D cI cL cS b s1 w1 m1 n1 s2 w2 m2 n2 s3 w3 m3 n3 ik bt ln tk sb en nm bits size num fnd (-1000000001) (va_DT (hD _ rfl) rfl) (vp_in_iff.mpr (by decide))) (cwV 1 hts gX5_sheet_X5_found rfl rfl rfl (by decide +kernel) ⟨Nat.le_of_ble_eq_true rfl, Nat.le_of_ble_eq_true rfl⟩) ⟨PcR_fb, va_recv hK hP (ci := 3) (q0 := 0) rfl rfl, PcR_pre hP hK⟩ rfl rfl hl.1 rfl (lv_room (Nat.le_of_ble_eq_true rfl)) dX5_sheet_32 ⟨Nat.zero_le _, Nat.zero_le _⟩) hP (hD _ rfl) hS 0 49 rfl (fun r_65 u_64 H locs hu_64 hP hS => ?_)
            obtain ⟨hu_64r, -⟩ := hu_64
            subst hu_64r
            have hP : va_P D vwCl (kcw cI cL cS b s1 w1 m1 n1 s2 w2 m2 n2 s3 w3 m3 n3 ik bt ln tk sb en nm bits size num (bump fnd (-1000000001))) H := hP
            exact W.iret hx hb hr (fun t ht hW => ⟨⟨_, (bits, size, num, bump fnd (-1000000001)), rfl, (by exact (iF_f (fun h => h.2.elim c_4 (fun h => h.elim c_19 (fun h => h.elim c_34 c_49)))).symm), by dsimp only; rw [ht]; exact hP⟩, hS.F ht⟩) hS.2.2 dX5_sheet_35

set_option maxRecDepth 100000 in
set_option maxHeartbeats 4000000 in
theorem k_X5_write (l : Launch) (D : va_G) (cI cL cS : ClassId) (b : Nat → Nat → Nat) (s1 : Sg) (w1 m1 n1 : FI) (s2 : Sg) (w2 m2 n2 : FI) (s3 : Sg) (w3 m3 n3 : FI) (ik : Int32) (bt : FI) (ln tk sb en nm : Int32) (bits size : FI) (num : Nat → FJ) (fnd : FI) (x0 : Int32) (x1 : Int32) (x2 : Int64) (dj : va_D (fun _ => True) (djk b)) (oh : okH bits size) : Met l yX5_write wsX5_write { frames := 1, cells := 0, slots := 0, locals := 23 } (PcR D vwCl (tyG cI cL cS) [.ref (b 0 0), .int x0, .int x1, .long x2] (kcw cI cL cS b s1 w1 m1 n1 s2 w2 m2 n2 s3 w3 m3 n3 ik bt ln tk sb en nm bits size num fnd)) (va_Ql (fun (r : Int64) (u : (Nat → FJ) × FI) => (r, u.1, u.2) = sWrite bits size num fnd x0 x1 x2) (fun u t => va_P D vwCl (kcw cI cL cS b s1 w1 m1 n1 s2 w2 m2 n2 s3 w3 m3 n3 ik bt ln tk sb en nm bits size u.1 u.2) t.heap) (Aof (kcw cI cL cS b s1 w1 m1 n1 s2 w2 m2 n2 s3 w3 m3 n3 ik bt ln tk sb en nm bits size num fnd))) 0 0 (Aof (kcw cI cL cS b s1 w1 m1 n1 s2 w2 m2 n2 s3 w3 m3 n3 ik bt ln tk sb en nm bits size num fnd)) := by
  refine Met.ofW (cc := cX5_write) (maxL := 8) (ret := (some .long)) (by decide) rfl ?_
  intro p e s m args below meth c s₁ B hml hv
  obtain ⟨rfl, hP, hK⟩ := hv
  have hx := B.exec
  have hb := B.bytes
  have hr := B.returns
  have hts := atoms_spec (ws := wsX5_write) B.pre
  have hown : s.vm.findClass RX5 = some m.cls := findClass_of_methodNamed B.named
  have hlocks := B.notSynchronized
  obtain ⟨A, hAe⟩ : ∃ A, A = Aof (kcw cI cL cS b s1 w1 m1 n1 s2 w2 m2 n2 s3 w3 m3 n3 ik bt ln tk sb en nm bits size num fnd) := ⟨_, rfl⟩
  rw [← hAe]
  have hD : ∀ ws' : va_W, ws'.map Prod.fst = (kcw cI cL cS b s1 w1 m1 n1 s2 w2 m2 n2 s3 w3 m3 n3 ik bt ln tk sb en nm bits size num fnd).map Prod.fst → va_D A ws' := fun ws' e => by rw [hAe]; exact va_D_adr (va_D_self (va_D_adr dj rfl)) e
  have hS : va_S A s.heap s.heap [] := va_S.rf
  have hP : va_P D vwCl (kcw cI cL cS b s1 w1 m1 n1 s2 w2 m2 n2 s3 w3 m3 n3 ik bt ln tk sb en nm bits size num fnd) s.heap := hP
  have hl := lv_entry ([.ref (b 0 0), .int x0, .int x1, .long x2]) (n := 8) (Nat.le_of_ble_eq_true rfl)
  rw [lg_entry_eq]
  generalize (lg_sl ([.ref (b 0 0), .int x0, .int x1, .long x2]) ++ List.replicate (8 - (lg_sl ([.ref (b 0 0), .int x0, .int x1, .long x2])).length) Slot.unset).toArray = ls at hl ⊢
  have hl : lv_has ls 8 [(0, .ref (b 0 0)), (1, .int x0), (2, .int x1), (3, .long x2)] := hl
  have f35 := hts (.fieldLink RX5 35 "KnivesLaid" "sheets" "[LKnivesLaid$Sheet;") (List.mem_of_getElem? (i := 2) rfl)
  have inX5 : ∀ w ∈ u_ws RX5 TX5 7, w ∈ wsX5_write := in_at 30 _ _ rfl
  have f198 := hts (.fieldLink RX5 198 "KnivesLaid$Sheet" "numbers" "[J") (List.mem_of_getElem? (i := 4) rfl)
  have inX2 : ∀ w ∈ u_ws RX2 TX2 3, w ∈ wsX5_write := in_at 37 _ _ rfl
  have k52 := hts (.constant RX5 52 (-1000000001)) (List.mem_of_getElem? (i := 1) rfl)
  have k196 := hts (.constant RX5 196 (-1000000006)) (List.mem_of_getElem? (i := 3) rfl)
  skip
  refine lv_iload_n hx hb dX5_write_0 rfl (lv_at hl 1 rfl) ?_
  refine callE (W.runS (As := [.int x0]) (rest := []) ⟨hx, hb, hml, hown, hts⟩ (k_X5_isSheet l x0) (va_cwS 1 hts gX5_write_X5_isSheet rfl rfl rfl (by decide +kernel) ⟨Nat.le_of_ble_eq_true rfl, Nat.le_of_ble_eq_true rfl⟩) ⟨PcP_fb, fun U _ _ => ⟨rfl, trivial⟩⟩ rfl rfl hl.1 rfl (lv_room (Nat.le_of_ble_eq_true rfl)) dX5_write_1 ⟨Nat.zero_le _, Nat.zero_le _⟩) ?_
  refine lv_if_ne (tgt := 15) hx hb dX5_write_4 (by decide) (fun c_1 => ?_) (fun c_1 => ?_)
  · skip
    have c_1b := bI_n c_1
    have hs := c_1b
    rcases in4 hs with rfl | rfl | rfl | rfl
    · skip
      refine lv_aload_n hx hb dX5_write_15 rfl (lv_at hl 0 rfl) ?_
      refine va_get (ci := 3) (v := .ref (b 6 0)) (C := RX5) (T := TX5) (N := 7) hx hb hts inX5 hown hK hP 0 rfl rfl 5 (by decide) f35 (fun _ h9 => h9) rfl dX5_write_16 ?_
      refine lv_iload_n hx hb dX5_write_19 rfl (lv_at hl 1 rfl) ?_
      refine va_aldq (f := fun s => some (b 7 s)) hx hb hK hP 39 2 rfl rfl (vp_in_iff.mpr (by decide)) dX5_write_20 ?_
      refine W.eq (g2 := F0 m 21 ls [.ref (b 7 0)]) rfl ?_
      refine lv_astore (lv' := [(5, .ref (b 7 0)), (0, .ref (b 0 0)), (1, .int 0), (2, .int x1), (3, .long x2)]) hx hb dX5_write_21 hl (by decide) rfl (fun ls hl => ?_)
      refine lv_aload hx hb dX5_write_23 (lv_at hl 0 rfl) ?_
      refine callE (W.runV (As := []) (rest := []) ⟨hx, hb, hml, hown, hts⟩ (k_X2_isMissing l D cI cL cS (b 7 0) (b 8 0) (bits 0) (size 0) (num 0)) (cwV 0 hts gX5_write_X2_isMissing rfl rfl rfl (by decide +kernel) ⟨Nat.le_of_ble_eq_true rfl, Nat.le_of_ble_eq_true rfl⟩) ⟨PcR_fb, va_recv hK hP (ci := 0) (q0 := 40) rfl rfl, PcR_pre (va_seg hP 40 2 rfl) hK⟩ rfl rfl hl.1 rfl (lv_room (Nat.le_of_ble_eq_true rfl)) dX5_write_25 ⟨Nat.zero_le _, Nat.zero_le _⟩) ?_
      refine lv_if_eq (tgt := 39) hx hb dX5_write_28 (by decide) (fun c_2 => ?_) (fun c_2 => ?_)
      · skip
        have c_2b := bI_0 c_2
        refine lv_aload hx hb dX5_write_39 (lv_at hl 0 rfl) ?_
        refine lv_iload_n hx hb dX5_write_41 rfl (lv_at hl 3 rfl) ?_
        refine callE (W.runV (As := [.int x1]) (rest := []) ⟨hx, hb, hml, hown, hts⟩ (k_X2_has l D cI cL cS (b 7 0) (b 8 0) (bits 0) (size 0) (num 0) x1) (cwV 1 hts gX5_write_X2_has rfl rfl rfl (by decide +kernel) ⟨Nat.le_of_ble_eq_true rfl, Nat.le_of_ble_eq_true rfl⟩) ⟨PcR_fb, va_recv hK hP (ci := 0) (q0 := 40) rfl rfl, PcR_pre (va_seg hP 40 2 rfl) hK⟩ rfl rfl hl.1 rfl (lv_room (Nat.le_of_ble_eq_true rfl)) dX5_write_42 ⟨Nat.zero_le _, Nat.zero_le _⟩) ?_
        refine lv_if_ne (tgt := 56) hx hb dX5_write_45 (by decide) (fun c_3 => ?_) (fun c_3 => ?_)
        · skip
          have c_3b := bI_n c_3
          have hi40 := h_in (oh _ (by decide)).1 c_3b
          refine lv_aload hx hb dX5_write_56 (lv_at hl 0 rfl) ?_
          refine va_get (ci := 0) (v := .ref (b 8 0)) (C := RX2) (T := TX2) (N := 3) hx hb hts inX2 hown hK hP 40 rfl rfl 2 (by decide) f198 (fun _ h9 => h9) rfl dX5_write_58 ?_
          refine lv_iload_n hx hb dX5_write_61 rfl (lv_at hl 3 rfl) ?_
          refine va_lald hx hb hK hP 41 1 rfl rfl hi40 dX5_write_62 ?_
          refine lv_lstore (lv' := [(6, .long ((num 0) (ix x1))), (5, .ref (b 7 0)), (0, .ref (b 0 0)), (1, .int 0), (2, .int x1), (3, .long x2)]) hx hb dX5_write_63 hl (by decide) rfl (fun ls hl => ?_)
          refine lv_aload hx hb dX5_write_65 (lv_at hl 1 rfl) ?_
          refine lv_iload_n hx hb dX5_write_67 rfl (lv_at hl 4 rfl) ?_
          refine lv_lload_n hx hb dX5_write_68 rfl (lv_at hl 5 rfl) ?_
          refine callMv (va_runV (As := [.int x1, .long x2]) (rest := []) ⟨hx, hb, hml, hown, hts⟩ (k_X2_put l D cI cL cS (b 7 0) (b 8 0) (bits 0) (size 0) (num 0) x1 x2 (va_DT (va_segD (hD (kcw cI cL cS b s1 w1 m1 n1 s2 w2 m2 n2 s3 w3 m3 n3 ik bt ln tk sb en nm bits size num fnd) rfl) 40 2 rfl) rfl) hi40) (cwV 2 hts gX5_write_X2_put rfl rfl rfl (by decide +kernel) ⟨Nat.le_of_ble_eq_true rfl, Nat.le_of_ble_eq_true rfl⟩) ⟨PcR_fb, va_recv hK hP (ci := 0) (q0 := 40) rfl rfl, PcR_pre (va_seg hP 40 2 rfl) hK⟩ rfl rfl hl.1 rfl (lv_room (Nat.le_of_ble_eq_true rfl)) dX5_write_69 ⟨Nat.zero_le _, Nat.zero_le _⟩) hP (hD _ rfl) hS 40 2 rfl (fun u_4 H locs hu_4 hP hS => ?_)
          have hP : va_P D vwCl (kcw cI cL cS b s1 w1 m1 n1 s2 w2 m2 n2 s3 w3 m3 n3 ik bt ln tk sb en nm bits size (va_up num 0 (vp_updL (num 0) (ix x1) (sNar (bits 0) x2))) fnd) H := hP
          refine lv_lload hx hb dX5_write_72 (lv_at hl 0 rfl) ?_
          exact W.lret hx hb hr (fun t ht hW => ⟨⟨_, ((va_up num 0 (vp_updL (num 0) (ix x1) (sNar (bits 0) x2))), fnd), rfl, (by exact ((iF_t hs).trans ((iF_f c_2b).trans (iF_t c_3b))).symm), by dsimp only; rw [ht]; exact hP⟩, hS.F ht⟩) hS.2.2 dX5_write_74
        · skip
          have c_3b := bI_0 c_3
          refine lv_aload_n hx hb dX5_write_48 rfl (lv_at hl 1 rfl) ?_
          refine lv_ldc hx hb hown k52 dX5_write_49 ?_
          refine callMi (va_runV (As := [.int (-1000000001)]) (rest := []) ⟨hx, hb, hml, hown, hts⟩ (k_X5_found l D cI cL cS b s1 w1 m1 n1 s2 w2 m2 n2 s3 w3 m3 n3 ik bt ln tk sb en nm bits size num fnd (-1000000001) (va_DT (hD _ rfl) rfl) (vp_in_iff.mpr (by decide))) (cwV 1 hts gX5_write_X5_found rfl rfl rfl (by decide +kernel) ⟨Nat.le_of_ble_eq_true rfl, Nat.le_of_ble_eq_true rfl⟩) ⟨PcR_fb, va_recv hK hP (ci := 3) (q0 := 0) rfl rfl, PcR_pre hP hK⟩ rfl rfl hl.1 rfl (lv_room (Nat.le_of_ble_eq_true rfl)) dX5_write_51 ⟨Nat.zero_le _, Nat.zero_le _⟩) hP (hD _ rfl) hS 0 49 rfl (fun r_7 u_6 H locs hu_6 hP hS => ?_)
          obtain ⟨hu_6r, -⟩ := hu_6
          subst hu_6r
          have hP : va_P D vwCl (kcw cI cL cS b s1 w1 m1 n1 s2 w2 m2 n2 s3 w3 m3 n3 ik bt ln tk sb en nm bits size num (bump fnd (-1000000001))) H := hP
          refine lv_i2l (v := ((-1000000001)).toInt64) hx hb dX5_write_54 rfl ?_
          exact W.lret hx hb hr (fun t ht hW => ⟨⟨_, (num, bump fnd (-1000000001)), rfl, (by exact ((iF_t hs).trans ((iF_f c_2b).trans (iF_f c_3b))).symm), by dsimp only; rw [ht]; exact hP⟩, hS.F ht⟩) hS.2.2 dX5_write_55
      · skip
        have c_2b := bI_n c_2
        refine lv_aload_n hx hb dX5_write_31 rfl (lv_at hl 1 rfl) ?_
        refine lv_ldc hx hb hown k196 dX5_write_32 ?_
        refine callMi (va_runV (As := [.int (-1000000006)]) (rest := []) ⟨hx, hb, hml, hown, hts⟩ (k_X5_found l D cI cL cS b s1 w1 m1 n1 s2 w2 m2 n2 s3 w3 m3 n3 ik bt ln tk sb en nm bits size num fnd (-1000000006) (va_DT (hD _ rfl) rfl) (vp_in_iff.mpr (by decide))) (cwV 1 hts gX5_write_X5_found rfl rfl rfl (by decide +kernel) ⟨Nat.le_of_ble_eq_true rfl, Nat.le_of_ble_eq_true rfl⟩) ⟨PcR_fb, va_recv hK hP (ci := 3) (q0 := 0) rfl rfl, PcR_pre hP hK⟩ rfl rfl hl.1 rfl (lv_room (Nat.le_of_ble_eq_true rfl)) dX5_write_34 ⟨Nat.zero_le _, Nat.zero_le _⟩) hP (hD _ rfl) hS 0 49 rfl (fun r_9 u_8 H locs hu_8 hP hS => ?_)
        obtain ⟨hu_8r, -⟩ := hu_8
        subst hu_8r
        have hP : va_P D vwCl (kcw cI cL cS b s1 w1 m1 n1 s2 w2 m2 n2 s3 w3 m3 n3 ik bt ln tk sb en nm bits size num (bump fnd (-1000000006))) H := hP
        refine lv_i2l (v := ((-1000000006)).toInt64) hx hb dX5_write_37 rfl ?_
        exact W.lret hx hb hr (fun t ht hW => ⟨⟨_, (num, bump fnd (-1000000006)), rfl, (by exact ((iF_t hs).trans (iF_t c_2b)).symm), by dsimp only; rw [ht]; exact hP⟩, hS.F ht⟩) hS.2.2 dX5_write_38
    · skip
      refine lv_aload_n hx hb dX5_write_15 rfl (lv_at hl 0 rfl) ?_
      refine va_get (ci := 3) (v := .ref (b 6 0)) (C := RX5) (T := TX5) (N := 7) hx hb hts inX5 hown hK hP 0 rfl rfl 5 (by decide) f35 (fun _ h9 => h9) rfl dX5_write_16 ?_
      refine lv_iload_n hx hb dX5_write_19 rfl (lv_at hl 1 rfl) ?_
      refine va_aldq (f := fun s => some (b 7 s)) hx hb hK hP 39 2 rfl rfl (vp_in_iff.mpr (by decide)) dX5_write_20 ?_
      refine W.eq (g2 := F0 m 21 ls [.ref (b 7 1)]) rfl ?_
      refine lv_astore (lv' := [(5, .ref (b 7 1)), (0, .ref (b 0 0)), (1, .int 1), (2, .int x1), (3, .long x2)]) hx hb dX5_write_21 hl (by decide) rfl (fun ls hl => ?_)
      refine lv_aload hx hb dX5_write_23 (lv_at hl 0 rfl) ?_
      refine callE (W.runV (As := []) (rest := []) ⟨hx, hb, hml, hown, hts⟩ (k_X2_isMissing l D cI cL cS (b 7 1) (b 8 1) (bits 1) (size 1) (num 1)) (cwV 0 hts gX5_write_X2_isMissing rfl rfl rfl (by decide +kernel) ⟨Nat.le_of_ble_eq_true rfl, Nat.le_of_ble_eq_true rfl⟩) ⟨PcR_fb, va_recv hK hP (ci := 0) (q0 := 42) rfl rfl, PcR_pre (va_seg hP 42 2 rfl) hK⟩ rfl rfl hl.1 rfl (lv_room (Nat.le_of_ble_eq_true rfl)) dX5_write_25 ⟨Nat.zero_le _, Nat.zero_le _⟩) ?_
      refine lv_if_eq (tgt := 39) hx hb dX5_write_28 (by decide) (fun c_10 => ?_) (fun c_10 => ?_)
      · skip
        have c_10b := bI_0 c_10
        refine lv_aload hx hb dX5_write_39 (lv_at hl 0 rfl) ?_
        refine lv_iload_n hx hb dX5_write_41 rfl (lv_at hl 3 rfl) ?_
        refine callE (W.runV (As := [.int x1]) (rest := []) ⟨hx, hb, hml, hown, hts⟩ (k_X2_has l D cI cL cS (b 7 1) (b 8 1) (bits 1) (size 1) (num 1) x1) (cwV 1 hts gX5_write_X2_has rfl rfl rfl (by decide +kernel) ⟨Nat.le_of_ble_eq_true rfl, Nat.le_of_ble_eq_true rfl⟩) ⟨PcR_fb, va_recv hK hP (ci := 0) (q0 := 42) rfl rfl, PcR_pre (va_seg hP 42 2 rfl) hK⟩ rfl rfl hl.1 rfl (lv_room (Nat.le_of_ble_eq_true rfl)) dX5_write_42 ⟨Nat.zero_le _, Nat.zero_le _⟩) ?_
        refine lv_if_ne (tgt := 56) hx hb dX5_write_45 (by decide) (fun c_11 => ?_) (fun c_11 => ?_)
        · skip
          have c_11b := bI_n c_11
          have hi40 := h_in (oh _ (by decide)).1 c_11b
          refine lv_aload hx hb dX5_write_56 (lv_at hl 0 rfl) ?_
          refine va_get (ci := 0) (v := .ref (b 8 1)) (C := RX2) (T := TX2) (N := 3) hx hb hts inX2 hown hK hP 42 rfl rfl 2 (by decide) f198 (fun _ h9 => h9) rfl dX5_write_58 ?_
          refine lv_iload_n hx hb dX5_write_61 rfl (lv_at hl 3 rfl) ?_
          refine va_lald hx hb hK hP 43 1 rfl rfl hi40 dX5_write_62 ?_
          refine lv_lstore (lv' := [(6, .long ((num 1) (ix x1))), (5, .ref (b 7 1)), (0, .ref (b 0 0)), (1, .int 1), (2, .int x1), (3, .long x2)]) hx hb dX5_write_63 hl (by decide) rfl (fun ls hl => ?_)
          refine lv_aload hx hb dX5_write_65 (lv_at hl 1 rfl) ?_
          refine lv_iload_n hx hb dX5_write_67 rfl (lv_at hl 4 rfl) ?_
          refine lv_lload_n hx hb dX5_write_68 rfl (lv_at hl 5 rfl) ?_
          refine callMv (va_runV (As := [.int x1, .long x2]) (rest := []) ⟨hx, hb, hml, hown, hts⟩ (k_X2_put l D cI cL cS (b 7 1) (b 8 1) (bits 1) (size 1) (num 1) x1 x2 (va_DT (va_segD (hD (kcw cI cL cS b s1 w1 m1 n1 s2 w2 m2 n2 s3 w3 m3 n3 ik bt ln tk sb en nm bits size num fnd) rfl) 42 2 rfl) rfl) hi40) (cwV 2 hts gX5_write_X2_put rfl rfl rfl (by decide +kernel) ⟨Nat.le_of_ble_eq_true rfl, Nat.le_of_ble_eq_true rfl⟩) ⟨PcR_fb, va_recv hK hP (ci := 0) (q0 := 42) rfl rfl, PcR_pre (va_seg hP 42 2 rfl) hK⟩ rfl rfl hl.1 rfl (lv_room (Nat.le_of_ble_eq_true rfl)) dX5_write_69 ⟨Nat.zero_le _, Nat.zero_le _⟩) hP (hD _ rfl) hS 42 2 rfl (fun u_12 H locs hu_12 hP hS => ?_)
          have hP : va_P D vwCl (kcw cI cL cS b s1 w1 m1 n1 s2 w2 m2 n2 s3 w3 m3 n3 ik bt ln tk sb en nm bits size (va_up num 1 (vp_updL (num 1) (ix x1) (sNar (bits 1) x2))) fnd) H := hP
          refine lv_lload hx hb dX5_write_72 (lv_at hl 0 rfl) ?_
          exact W.lret hx hb hr (fun t ht hW => ⟨⟨_, ((va_up num 1 (vp_updL (num 1) (ix x1) (sNar (bits 1) x2))), fnd), rfl, (by exact ((iF_t hs).trans ((iF_f c_10b).trans (iF_t c_11b))).symm), by dsimp only; rw [ht]; exact hP⟩, hS.F ht⟩) hS.2.2 dX5_write_74
        · skip
          have c_11b := bI_0 c_11
          refine lv_aload_n hx hb dX5_write_48 rfl (lv_at hl 1 rfl) ?_
          refine lv_ldc hx hb hown k52 dX5_write_49 ?_
          refine callMi (va_runV (As := [.int (-1000000001)]) (rest := []) ⟨hx, hb, hml, hown, hts⟩ (k_X5_found l D cI cL cS b s1 w1 m1 n1 s2 w2 m2 n2 s3 w3 m3 n3 ik bt ln tk sb en nm bits size num fnd (-1000000001) (va_DT (hD _ rfl) rfl) (vp_in_iff.mpr (by decide))) (cwV 1 hts gX5_write_X5_found rfl rfl rfl (by decide +kernel) ⟨Nat.le_of_ble_eq_true rfl, Nat.le_of_ble_eq_true rfl⟩) ⟨PcR_fb, va_recv hK hP (ci := 3) (q0 := 0) rfl rfl, PcR_pre hP hK⟩ rfl rfl hl.1 rfl (lv_room (Nat.le_of_ble_eq_true rfl)) dX5_write_51 ⟨Nat.zero_le _, Nat.zero_le _⟩) hP (hD _ rfl) hS 0 49 rfl (fun r_15 u_14 H locs hu_14 hP hS => ?_)
          obtain ⟨hu_14r, -⟩ := hu_14
          subst hu_14r
          have hP : va_P D vwCl (kcw cI cL cS b s1 w1 m1 n1 s2 w2 m2 n2 s3 w3 m3 n3 ik bt ln tk sb en nm bits size num (bump fnd (-1000000001))) H := hP
          refine lv_i2l (v := ((-1000000001)).toInt64) hx hb dX5_write_54 rfl ?_
          exact W.lret hx hb hr (fun t ht hW => ⟨⟨_, (num, bump fnd (-1000000001)), rfl, (by exact ((iF_t hs).trans ((iF_f c_10b).trans (iF_f c_11b))).symm), by dsimp only; rw [ht]; exact hP⟩, hS.F ht⟩) hS.2.2 dX5_write_55
      · skip
        have c_10b := bI_n c_10
        refine lv_aload_n hx hb dX5_write_31 rfl (lv_at hl 1 rfl) ?_
        refine lv_ldc hx hb hown k196 dX5_write_32 ?_
        refine callMi (va_runV (As := [.int (-1000000006)]) (rest := []) ⟨hx, hb, hml, hown, hts⟩ (k_X5_found l D cI cL cS b s1 w1 m1 n1 s2 w2 m2 n2 s3 w3 m3 n3 ik bt ln tk sb en nm bits size num fnd (-1000000006) (va_DT (hD _ rfl) rfl) (vp_in_iff.mpr (by decide))) (cwV 1 hts gX5_write_X5_found rfl rfl rfl (by decide +kernel) ⟨Nat.le_of_ble_eq_true rfl, Nat.le_of_ble_eq_true rfl⟩) ⟨PcR_fb, va_recv hK hP (ci := 3) (q0 := 0) rfl rfl, PcR_pre hP hK⟩ rfl rfl hl.1 rfl (lv_room (Nat.le_of_ble_eq_true rfl)) dX5_write_34 ⟨Nat.zero_le _, Nat.zero_le _⟩) hP (hD _ rfl) hS 0 49 rfl (fun r_17 u_16 H locs hu_16 hP hS => ?_)
        obtain ⟨hu_16r, -⟩ := hu_16
        subst hu_16r
        have hP : va_P D vwCl (kcw cI cL cS b s1 w1 m1 n1 s2 w2 m2 n2 s3 w3 m3 n3 ik bt ln tk sb en nm bits size num (bump fnd (-1000000006))) H := hP
        refine lv_i2l (v := ((-1000000006)).toInt64) hx hb dX5_write_37 rfl ?_
        exact W.lret hx hb hr (fun t ht hW => ⟨⟨_, (num, bump fnd (-1000000006)), rfl, (by exact ((iF_t hs).trans (iF_t c_10b)).symm), by dsimp only; rw [ht]; exact hP⟩, hS.F ht⟩) hS.2.2 dX5_write_38
    · skip
      refine lv_aload_n hx hb dX5_write_15 rfl (lv_at hl 0 rfl) ?_
      refine va_get (ci := 3) (v := .ref (b 6 0)) (C := RX5) (T := TX5) (N := 7) hx hb hts inX5 hown hK hP 0 rfl rfl 5 (by decide) f35 (fun _ h9 => h9) rfl dX5_write_16 ?_
      refine lv_iload_n hx hb dX5_write_19 rfl (lv_at hl 1 rfl) ?_
      refine va_aldq (f := fun s => some (b 7 s)) hx hb hK hP 39 2 rfl rfl (vp_in_iff.mpr (by decide)) dX5_write_20 ?_
      refine W.eq (g2 := F0 m 21 ls [.ref (b 7 2)]) rfl ?_
      refine lv_astore (lv' := [(5, .ref (b 7 2)), (0, .ref (b 0 0)), (1, .int 2), (2, .int x1), (3, .long x2)]) hx hb dX5_write_21 hl (by decide) rfl (fun ls hl => ?_)
      refine lv_aload hx hb dX5_write_23 (lv_at hl 0 rfl) ?_
      refine callE (W.runV (As := []) (rest := []) ⟨hx, hb, hml, hown, hts⟩ (k_X2_isMissing l D cI cL cS (b 7 2) (b 8 2) (bits 2) (size 2) (num 2)) (cwV 0 hts gX5_write_X2_isMissing rfl rfl rfl (by decide +kernel) ⟨Nat.le_of_ble_eq_true rfl, Nat.le_of_ble_eq_true rfl⟩) ⟨PcR_fb, va_recv hK hP (ci := 0) (q0 := 44) rfl rfl, PcR_pre (va_seg hP 44 2 rfl) hK⟩ rfl rfl hl.1 rfl (lv_room (Nat.le_of_ble_eq_true rfl)) dX5_write_25 ⟨Nat.zero_le _, Nat.zero_le _⟩) ?_
      refine lv_if_eq (tgt := 39) hx hb dX5_write_28 (by decide) (fun c_18 => ?_) (fun c_18 => ?_)
      · skip
        have c_18b := bI_0 c_18
        refine lv_aload hx hb dX5_write_39 (lv_at hl 0 rfl) ?_
        refine lv_iload_n hx hb dX5_write_41 rfl (lv_at hl 3 rfl) ?_
        refine callE (W.runV (As := [.int x1]) (rest := []) ⟨hx, hb, hml, hown, hts⟩ (k_X2_has l D cI cL cS (b 7 2) (b 8 2) (bits 2) (size 2) (num 2) x1) (cwV 1 hts gX5_write_X2_has rfl rfl rfl (by decide +kernel) ⟨Nat.le_of_ble_eq_true rfl, Nat.le_of_ble_eq_true rfl⟩) ⟨PcR_fb, va_recv hK hP (ci := 0) (q0 := 44) rfl rfl, PcR_pre (va_seg hP 44 2 rfl) hK⟩ rfl rfl hl.1 rfl (lv_room (Nat.le_of_ble_eq_true rfl)) dX5_write_42 ⟨Nat.zero_le _, Nat.zero_le _⟩) ?_
        refine lv_if_ne (tgt := 56) hx hb dX5_write_45 (by decide) (fun c_19 => ?_) (fun c_19 => ?_)
        · skip
          have c_19b := bI_n c_19
          have hi40 := h_in (oh _ (by decide)).1 c_19b
          refine lv_aload hx hb dX5_write_56 (lv_at hl 0 rfl) ?_
          refine va_get (ci := 0) (v := .ref (b 8 2)) (C := RX2) (T := TX2) (N := 3) hx hb hts inX2 hown hK hP 44 rfl rfl 2 (by decide) f198 (fun _ h9 => h9) rfl dX5_write_58 ?_
          refine lv_iload_n hx hb dX5_write_61 rfl (lv_at hl 3 rfl) ?_
          refine va_lald hx hb hK hP 45 1 rfl rfl hi40 dX5_write_62 ?_
          refine lv_lstore (lv' := [(6, .long ((num 2) (ix x1))), (5, .ref (b 7 2)), (0, .ref (b 0 0)), (1, .int 2), (2, .int x1), (3, .long x2)]) hx hb dX5_write_63 hl (by decide) rfl (fun ls hl => ?_)
          refine lv_aload hx hb dX5_write_65 (lv_at hl 1 rfl) ?_
          refine lv_iload_n hx hb dX5_write_67 rfl (lv_at hl 4 rfl) ?_
          refine lv_lload_n hx hb dX5_write_68 rfl (lv_at hl 5 rfl) ?_
          refine callMv (va_runV (As := [.int x1, .long x2]) (rest := []) ⟨hx, hb, hml, hown, hts⟩ (k_X2_put l D cI cL cS (b 7 2) (b 8 2) (bits 2) (size 2) (num 2) x1 x2 (va_DT (va_segD (hD (kcw cI cL cS b s1 w1 m1 n1 s2 w2 m2 n2 s3 w3 m3 n3 ik bt ln tk sb en nm bits size num fnd) rfl) 44 2 rfl) rfl) hi40) (cwV 2 hts gX5_write_X2_put rfl rfl rfl (by decide +kernel) ⟨Nat.le_of_ble_eq_true rfl, Nat.le_of_ble_eq_true rfl⟩) ⟨PcR_fb, va_recv hK hP (ci := 0) (q0 := 44) rfl rfl, PcR_pre (va_seg hP 44 2 rfl) hK⟩ rfl rfl hl.1 rfl (lv_room (Nat.le_of_ble_eq_true rfl)) dX5_write_69 ⟨Nat.zero_le _, Nat.zero_le _⟩) hP (hD _ rfl) hS 44 2 rfl (fun u_20 H locs hu_20 hP hS => ?_)
          have hP : va_P D vwCl (kcw cI cL cS b s1 w1 m1 n1 s2 w2 m2 n2 s3 w3 m3 n3 ik bt ln tk sb en nm bits size (va_up num 2 (vp_updL (num 2) (ix x1) (sNar (bits 2) x2))) fnd) H := hP
          refine lv_lload hx hb dX5_write_72 (lv_at hl 0 rfl) ?_
          exact W.lret hx hb hr (fun t ht hW => ⟨⟨_, ((va_up num 2 (vp_updL (num 2) (ix x1) (sNar (bits 2) x2))), fnd), rfl, (by exact ((iF_t hs).trans ((iF_f c_18b).trans (iF_t c_19b))).symm), by dsimp only; rw [ht]; exact hP⟩, hS.F ht⟩) hS.2.2 dX5_write_74
        · skip
          have c_19b := bI_0 c_19
          refine lv_aload_n hx hb dX5_write_48 rfl (lv_at hl 1 rfl) ?_
          refine lv_ldc hx hb hown k52 dX5_write_49 ?_
          refine callMi (va_runV (As := [.int (-1000000001)]) (rest := []) ⟨hx, hb, hml, hown, hts⟩ (k_X5_found l D cI cL cS b s1 w1 m1 n1 s2 w2 m2 n2 s3 w3 m3 n3 ik bt ln tk sb en nm bits size num fnd (-1000000001) (va_DT (hD _ rfl) rfl) (vp_in_iff.mpr (by decide))) (cwV 1 hts gX5_write_X5_found rfl rfl rfl (by decide +kernel) ⟨Nat.le_of_ble_eq_true rfl, Nat.le_of_ble_eq_true rfl⟩) ⟨PcR_fb, va_recv hK hP (ci := 3) (q0 := 0) rfl rfl, PcR_pre hP hK⟩ rfl rfl hl.1 rfl (lv_room (Nat.le_of_ble_eq_true rfl)) dX5_write_51 ⟨Nat.zero_le _, Nat.zero_le _⟩) hP (hD _ rfl) hS 0 49 rfl (fun r_23 u_22 H locs hu_22 hP hS => ?_)
          obtain ⟨hu_22r, -⟩ := hu_22
          subst hu_22r
          have hP : va_P D vwCl (kcw cI cL cS b s1 w1 m1 n1 s2 w2 m2 n2 s3 w3 m3 n3 ik bt ln tk sb en nm bits size num (bump fnd (-1000000001))) H := hP
          refine lv_i2l (v := ((-1000000001)).toInt64) hx hb dX5_write_54 rfl ?_
          exact W.lret hx hb hr (fun t ht hW => ⟨⟨_, (num, bump fnd (-1000000001)), rfl, (by exact ((iF_t hs).trans ((iF_f c_18b).trans (iF_f c_19b))).symm), by dsimp only; rw [ht]; exact hP⟩, hS.F ht⟩) hS.2.2 dX5_write_55
      · skip
        have c_18b := bI_n c_18
        refine lv_aload_n hx hb dX5_write_31 rfl (lv_at hl 1 rfl) ?_
        refine lv_ldc hx hb hown k196 dX5_write_32 ?_
        refine callMi (va_runV (As := [.int (-1000000006)]) (rest := []) ⟨hx, hb, hml, hown, hts⟩ (k_X5_found l D cI cL cS b s1 w1 m1 n1 s2 w2 m2 n2 s3 w3 m3 n3 ik bt ln tk sb en nm bits size num fnd (-1000000006) (va_DT (hD _ rfl) rfl) (vp_in_iff.mpr (by decide))) (cwV 1 hts gX5_write_X5_found rfl rfl rfl (by decide +kernel) ⟨Nat.le_of_ble_eq_true rfl, Nat.le_of_ble_eq_true rfl⟩) ⟨PcR_fb, va_recv hK hP (ci := 3) (q0 := 0) rfl rfl, PcR_pre hP hK⟩ rfl rfl hl.1 rfl (lv_room (Nat.le_of_ble_eq_true rfl)) dX5_write_34 ⟨Nat.zero_le _, Nat.zero_le _⟩) hP (hD _ rfl) hS 0 49 rfl (fun r_25 u_24 H locs hu_24 hP hS => ?_)
        obtain ⟨hu_24r, -⟩ := hu_24
        subst hu_24r
        have hP : va_P D vwCl (kcw cI cL cS b s1 w1 m1 n1 s2 w2 m2 n2 s3 w3 m3 n3 ik bt ln tk sb en nm bits size num (bump fnd (-1000000006))) H := hP
        refine lv_i2l (v := ((-1000000006)).toInt64) hx hb dX5_write_37 rfl ?_
        exact W.lret hx hb hr (fun t ht hW => ⟨⟨_, (num, bump fnd (-1000000006)), rfl, (by exact ((iF_t hs).trans (iF_t c_18b)).symm), by dsimp only; rw [ht]; exact hP⟩, hS.F ht⟩) hS.2.2 dX5_write_38
    · skip
      refine lv_aload_n hx hb dX5_write_15 rfl (lv_at hl 0 rfl) ?_
      refine va_get (ci := 3) (v := .ref (b 6 0)) (C := RX5) (T := TX5) (N := 7) hx hb hts inX5 hown hK hP 0 rfl rfl 5 (by decide) f35 (fun _ h9 => h9) rfl dX5_write_16 ?_
      refine lv_iload_n hx hb dX5_write_19 rfl (lv_at hl 1 rfl) ?_
      refine va_aldq (f := fun s => some (b 7 s)) hx hb hK hP 39 2 rfl rfl (vp_in_iff.mpr (by decide)) dX5_write_20 ?_
      refine W.eq (g2 := F0 m 21 ls [.ref (b 7 3)]) rfl ?_
      refine lv_astore (lv' := [(5, .ref (b 7 3)), (0, .ref (b 0 0)), (1, .int 3), (2, .int x1), (3, .long x2)]) hx hb dX5_write_21 hl (by decide) rfl (fun ls hl => ?_)
      refine lv_aload hx hb dX5_write_23 (lv_at hl 0 rfl) ?_
      refine callE (W.runV (As := []) (rest := []) ⟨hx, hb, hml, hown, hts⟩ (k_X2_isMissing l D cI cL cS (b 7 3) (b 8 3) (bits 3) (size 3) (num 3)) (cwV 0 hts gX5_write_X2_isMissing rfl rfl rfl (by decide +kernel) ⟨Nat.le_of_ble_eq_true rfl, Nat.le_of_ble_eq_true rfl⟩) ⟨PcR_fb, va_recv hK hP (ci := 0) (q0 := 46) rfl rfl, PcR_pre (va_seg hP 46 2 rfl) hK⟩ rfl rfl hl.1 rfl (lv_room (Nat.le_of_ble_eq_true rfl)) dX5_write_25 ⟨Nat.zero_le _, Nat.zero_le _⟩) ?_
      refine lv_if_eq (tgt := 39) hx hb dX5_write_28 (by decide) (fun c_26 => ?_) (fun c_26 => ?_)
      · skip
        have c_26b := bI_0 c_26
        refine lv_aload hx hb dX5_write_39 (lv_at hl 0 rfl) ?_
        refine lv_iload_n hx hb dX5_write_41 rfl (lv_at hl 3 rfl) ?_
        refine callE (W.runV (As := [.int x1]) (rest := []) ⟨hx, hb, hml, hown, hts⟩ (k_X2_has l D cI cL cS (b 7 3) (b 8 3) (bits 3) (size 3) (num 3) x1) (cwV 1 hts gX5_write_X2_has rfl rfl rfl (by decide +kernel) ⟨Nat.le_of_ble_eq_true rfl, Nat.le_of_ble_eq_true rfl⟩) ⟨PcR_fb, va_recv hK hP (ci := 0) (q0 := 46) rfl rfl, PcR_pre (va_seg hP 46 2 rfl) hK⟩ rfl rfl hl.1 rfl (lv_room (Nat.le_of_ble_eq_true rfl)) dX5_write_42 ⟨Nat.zero_le _, Nat.zero_le _⟩) ?_
        refine lv_if_ne (tgt := 56) hx hb dX5_write_45 (by decide) (fun c_27 => ?_) (fun c_27 => ?_)
        · skip
          have c_27b := bI_n c_27
          have hi40 := h_in (oh _ (by decide)).1 c_27b
          refine lv_aload hx hb dX5_write_56 (lv_at hl 0 rfl) ?_
          refine va_get (ci := 0) (v := .ref (b 8 3)) (C := RX2) (T := TX2) (N := 3) hx hb hts inX2 hown hK hP 46 rfl rfl 2 (by decide) f198 (fun _ h9 => h9) rfl dX5_write_58 ?_
          refine lv_iload_n hx hb dX5_write_61 rfl (lv_at hl 3 rfl) ?_
          refine va_lald hx hb hK hP 47 1 rfl rfl hi40 dX5_write_62 ?_
          refine lv_lstore (lv' := [(6, .long ((num 3) (ix x1))), (5, .ref (b 7 3)), (0, .ref (b 0 0)), (1, .int 3), (2, .int x1), (3, .long x2)]) hx hb dX5_write_63 hl (by decide) rfl (fun ls hl => ?_)
          refine lv_aload hx hb dX5_write_65 (lv_at hl 1 rfl) ?_
          refine lv_iload_n hx hb dX5_write_67 rfl (lv_at hl 4 rfl) ?_
          refine lv_lload_n hx hb dX5_write_68 rfl (lv_at hl 5 rfl) ?_
          refine callMv (va_runV (As := [.int x1, .long x2]) (rest := []) ⟨hx, hb, hml, hown, hts⟩ (k_X2_put l D cI cL cS (b 7 3) (b 8 3) (bits 3) (size 3) (num 3) x1 x2 (va_DT (va_segD (hD (kcw cI cL cS b s1 w1 m1 n1 s2 w2 m2 n2 s3 w3 m3 n3 ik bt ln tk sb en nm bits size num fnd) rfl) 46 2 rfl) rfl) hi40) (cwV 2 hts gX5_write_X2_put rfl rfl rfl (by decide +kernel) ⟨Nat.le_of_ble_eq_true rfl, Nat.le_of_ble_eq_true rfl⟩) ⟨PcR_fb, va_recv hK hP (ci := 0) (q0 := 46) rfl rfl, PcR_pre (va_seg hP 46 2 rfl) hK⟩ rfl rfl hl.1 rfl (lv_room (Nat.le_of_ble_eq_true rfl)) dX5_write_69 ⟨Nat.zero_le _, Nat.zero_le _⟩) hP (hD _ rfl) hS 46 2 rfl (fun u_28 H locs hu_28 hP hS => ?_)
          have hP : va_P D vwCl (kcw cI cL cS b s1 w1 m1 n1 s2 w2 m2 n2 s3 w3 m3 n3 ik bt ln tk sb en nm bits size (va_up num 3 (vp_updL (num 3) (ix x1) (sNar (bits 3) x2))) fnd) H := hP
          refine lv_lload hx hb dX5_write_72 (lv_at hl 0 rfl) ?_
          exact W.lret hx hb hr (fun t ht hW => ⟨⟨_, ((va_up num 3 (vp_updL (num 3) (ix x1) (sNar (bits 3) x2))), fnd), rfl, (by exact ((iF_t hs).trans ((iF_f c_26b).trans (iF_t c_27b))).symm), by dsimp only; rw [ht]; exact hP⟩, hS.F ht⟩) hS.2.2 dX5_write_74
        · skip
          have c_27b := bI_0 c_27
          refine lv_aload_n hx hb dX5_write_48 rfl (lv_at hl 1 rfl) ?_
          refine lv_ldc hx hb hown k52 dX5_write_49 ?_
          refine callMi (va_runV (As := [.int (-1000000001)]) (rest := []) ⟨hx, hb, hml, hown, hts⟩ (k_X5_found l D cI cL cS b s1 w1 m1 n1 s2 w2 m2 n2 s3 w3 m3 n3 ik bt ln tk sb en nm bits size num fnd (-1000000001) (va_DT (hD _ rfl) rfl) (vp_in_iff.mpr (by decide))) (cwV 1 hts gX5_write_X5_found rfl rfl rfl (by decide +kernel) ⟨Nat.le_of_ble_eq_true rfl, Nat.le_of_ble_eq_true rfl⟩) ⟨PcR_fb, va_recv hK hP (ci := 3) (q0 := 0) rfl rfl, PcR_pre hP hK⟩ rfl rfl hl.1 rfl (lv_room (Nat.le_of_ble_eq_true rfl)) dX5_write_51 ⟨Nat.zero_le _, Nat.zero_le _⟩) hP (hD _ rfl) hS 0 49 rfl (fun r_31 u_30 H locs hu_30 hP hS => ?_)
          obtain ⟨hu_30r, -⟩ := hu_30
          subst hu_30r
          have hP : va_P D vwCl (kcw cI cL cS b s1 w1 m1 n1 s2 w2 m2 n2 s3 w3 m3 n3 ik bt ln tk sb en nm bits size num (bump fnd (-1000000001))) H := hP
          refine lv_i2l (v := ((-1000000001)).toInt64) hx hb dX5_write_54 rfl ?_
          exact W.lret hx hb hr (fun t ht hW => ⟨⟨_, (num, bump fnd (-1000000001)), rfl, (by exact ((iF_t hs).trans ((iF_f c_26b).trans (iF_f c_27b))).symm), by dsimp only; rw [ht]; exact hP⟩, hS.F ht⟩) hS.2.2 dX5_write_55
      · skip
        have c_26b := bI_n c_26
        refine lv_aload_n hx hb dX5_write_31 rfl (lv_at hl 1 rfl) ?_
        refine lv_ldc hx hb hown k196 dX5_write_32 ?_
        refine callMi (va_runV (As := [.int (-1000000006)]) (rest := []) ⟨hx, hb, hml, hown, hts⟩ (k_X5_found l D cI cL cS b s1 w1 m1 n1 s2 w2 m2 n2 s3 w3 m3 n3 ik bt ln tk sb en nm bits size num fnd (-1000000006) (va_DT (hD _ rfl) rfl) (vp_in_iff.mpr (by decide))) (cwV 1 hts gX5_write_X5_found rfl rfl rfl (by decide +kernel) ⟨Nat.le_of_ble_eq_true rfl, Nat.le_of_ble_eq_true rfl⟩) ⟨PcR_fb, va_recv hK hP (ci := 3) (q0 := 0) rfl rfl, PcR_pre hP hK⟩ rfl rfl hl.1 rfl (lv_room (Nat.le_of_ble_eq_true rfl)) dX5_write_34 ⟨Nat.zero_le _, Nat.zero_le _⟩) hP (hD _ rfl) hS 0 49 rfl (fun r_33 u_32 H locs hu_32 hP hS => ?_)
        obtain ⟨hu_32r, -⟩ := hu_32
        subst hu_32r
        have hP : va_P D vwCl (kcw cI cL cS b s1 w1 m1 n1 s2 w2 m2 n2 s3 w3 m3 n3 ik bt ln tk sb en nm bits size num (bump fnd (-1000000006))) H := hP
        refine lv_i2l (v := ((-1000000006)).toInt64) hx hb dX5_write_37 rfl ?_
        exact W.lret hx hb hr (fun t ht hW => ⟨⟨_, (num, bump fnd (-1000000006)), rfl, (by exact ((iF_t hs).trans (iF_t c_26b)).symm), by dsimp only; rw [ht]; exact hP⟩, hS.F ht⟩) hS.2.2 dX5_write_38
  · skip
    have c_1b := bI_0 c_1
    refine lv_aload_n hx hb dX5_write_7 rfl (lv_at hl 0 rfl) ?_
    refine lv_ldc hx hb hown k52 dX5_write_8 ?_
    refine callMi (va_runV (As := [.int (-1000000001)]) (rest := []) ⟨hx, hb, hml, hown, hts⟩ (k_X5_found l D cI cL cS b s1 w1 m1 n1 s2 w2 m2 n2 s3 w3 m3 n3 ik bt ln tk sb en nm bits size num fnd (-1000000001) (va_DT (hD _ rfl) rfl) (vp_in_iff.mpr (by decide))) (cwV 1 hts gX5_write_X5_found rfl rfl rfl (by decide +kernel) ⟨Nat.le_of_ble_eq_true rfl, Nat.le_of_ble_eq_true rfl⟩) ⟨PcR_fb, va_recv hK hP (ci := 3) (q0 := 0) rfl rfl, PcR_pre hP hK⟩ rfl rfl hl.1 rfl (lv_room (Nat.le_of_ble_eq_true rfl)) dX5_write_10 ⟨Nat.zero_le _, Nat.zero_le _⟩) hP (hD _ rfl) hS 0 49 rfl (fun r_35 u_34 H locs hu_34 hP hS => ?_)
    obtain ⟨hu_34r, -⟩ := hu_34
    subst hu_34r
    have hP : va_P D vwCl (kcw cI cL cS b s1 w1 m1 n1 s2 w2 m2 n2 s3 w3 m3 n3 ik bt ln tk sb en nm bits size num (bump fnd (-1000000001))) H := hP
    refine lv_i2l (v := ((-1000000001)).toInt64) hx hb dX5_write_13 rfl ?_
    exact W.lret hx hb hr (fun t ht hW => ⟨⟨_, (num, bump fnd (-1000000001)), rfl, (by exact (iF_f c_1b).symm), by dsimp only; rw [ht]; exact hP⟩, hS.F ht⟩) hS.2.2 dX5_write_14

set_option maxRecDepth 100000 in
set_option maxHeartbeats 4000000 in
theorem k_X5_lays (l : Launch) (D : va_G) (cI cL cS : ClassId) (b : Nat → Nat → Nat) (s1 : Sg) (w1 m1 n1 : FI) (s2 : Sg) (w2 m2 n2 : FI) (s3 : Sg) (w3 m3 n3 : FI) (ik : Int32) (bt : FI) (ln tk sb en nm : Int32) (bits size : FI) (num : Nat → FJ) (fnd : FI) (x0 : Int32) (dj : va_D (fun _ => True) (djk b)) (o1 : okS s1 w1) (oh : okH bits size) : Met l yX5_lays wsX5_lays { frames := 1, cells := 0, slots := 0, locals := 22 } (PcR D vwCl (tyG cI cL cS) [.ref (b 0 0), .int x0] (kcw cI cL cS b s1 w1 m1 n1 s2 w2 m2 n2 s3 w3 m3 n3 ik bt ln tk sb en nm bits size num fnd)) (va_Qi (fun (r : Int32) (u : Sg × FI) => (r, u.1, u.2) = sLays bits size num s1 fnd x0 ∧ okS u.1 w1) (fun u t => va_P D vwCl (kcw cI cL cS b u.1 w1 m1 n1 s2 w2 m2 n2 s3 w3 m3 n3 ik bt ln tk sb en nm bits size num u.2) t.heap) (Aof (kcw cI cL cS b s1 w1 m1 n1 s2 w2 m2 n2 s3 w3 m3 n3 ik bt ln tk sb en nm bits size num fnd))) 0 0 (Aof (kcw cI cL cS b s1 w1 m1 n1 s2 w2 m2 n2 s3 w3 m3 n3 ik bt ln tk sb en nm bits size num fnd)) := by
  refine Met.ofW (cc := cX5_lays) (maxL := 7) (ret := (some .int)) (by decide) rfl ?_
  intro p e s m args below meth c s₁ B hml hv
  obtain ⟨rfl, hP, hK⟩ := hv
  have hx := B.exec
  have hb := B.bytes
  have hr := B.returns
  have hts := atoms_spec (ws := wsX5_lays) B.pre
  have hown : s.vm.findClass RX5 = some m.cls := findClass_of_methodNamed B.named
  have hlocks := B.notSynchronized
  obtain ⟨A, hAe⟩ : ∃ A, A = Aof (kcw cI cL cS b s1 w1 m1 n1 s2 w2 m2 n2 s3 w3 m3 n3 ik bt ln tk sb en nm bits size num fnd) := ⟨_, rfl⟩
  rw [← hAe]
  have hD : ∀ ws' : va_W, ws'.map Prod.fst = (kcw cI cL cS b s1 w1 m1 n1 s2 w2 m2 n2 s3 w3 m3 n3 ik bt ln tk sb en nm bits size num fnd).map Prod.fst → va_D A ws' := fun ws' e => by rw [hAe]; exact va_D_adr (va_D_self (va_D_adr dj rfl)) e
  have hS : va_S A s.heap s.heap [] := va_S.rf
  have hP : va_P D vwCl (kcw cI cL cS b s1 w1 m1 n1 s2 w2 m2 n2 s3 w3 m3 n3 ik bt ln tk sb en nm bits size num fnd) s.heap := hP
  have hl := lv_entry ([.ref (b 0 0), .int x0]) (n := 7) (Nat.le_of_ble_eq_true rfl)
  rw [lg_entry_eq]
  generalize (lg_sl ([.ref (b 0 0), .int x0]) ++ List.replicate (7 - (lg_sl ([.ref (b 0 0), .int x0])).length) Slot.unset).toArray = ls at hl ⊢
  have hl : lv_has ls 7 [(0, .ref (b 0 0)), (1, .int x0)] := hl
  have f35 := hts (.fieldLink RX5 35 "KnivesLaid" "sheets" "[LKnivesLaid$Sheet;") (List.mem_of_getElem? (i := 2) rfl)
  have inX5 : ∀ w ∈ u_ws RX5 TX5 7, w ∈ wsX5_lays := in_at 26 _ _ rfl
  have f189 := hts (.fieldLink RX5 189 "KnivesLaid$Sheet" "size" "I") (List.mem_of_getElem? (i := 4) rfl)
  have inX2 : ∀ w ∈ u_ws RX2 TX2 3, w ∈ wsX5_lays := in_at 33 _ _ rfl
  have f10 := hts (.fieldLink RX5 10 "KnivesLaid" "table" "LKnivesLaid$Table;") (List.mem_of_getElem? (i := 5) rfl)
  have f89 := hts (.fieldLink RX5 89 "KnivesLaid$Table" "guests" "I") (List.mem_of_getElem? (i := 6) rfl)
  have inX3 : ∀ w ∈ u_ws RX3 TX3 13, w ∈ wsX5_lays := in_at 36 _ _ rfl
  have f198 := hts (.fieldLink RX5 198 "KnivesLaid$Sheet" "numbers" "[J") (List.mem_of_getElem? (i := 7) rfl)
  have k218 := hts (.constantLong RX5 218 (-99)) (List.mem_of_getElem? (i := 8) rfl)
  have k220 := hts (.constantLong RX5 220 (99)) (List.mem_of_getElem? (i := 9) rfl)
  have f107 := hts (.fieldLink RX5 107 "KnivesLaid$Table" "ease" "[I") (List.mem_of_getElem? (i := 10) rfl)
  have k196 := hts (.constant RX5 196 (-1000000006)) (List.mem_of_getElem? (i := 3) rfl)
  have k52 := hts (.constant RX5 52 (-1000000001)) (List.mem_of_getElem? (i := 1) rfl)
  skip
  have hgu := gu_of o1.1.gu
  have hgu8 := hgu.2
  refine lv_iload_n hx hb dX5_lays_0 rfl (lv_at hl 1 rfl) ?_
  refine callE (W.runS (As := [.int x0]) (rest := []) ⟨hx, hb, hml, hown, hts⟩ (k_X5_isSheet l x0) (va_cwS 1 hts gX5_lays_X5_isSheet rfl rfl rfl (by decide +kernel) ⟨Nat.le_of_ble_eq_true rfl, Nat.le_of_ble_eq_true rfl⟩) ⟨PcP_fb, fun U _ _ => ⟨rfl, trivial⟩⟩ rfl rfl hl.1 rfl (lv_room (Nat.le_of_ble_eq_true rfl)) dX5_lays_1 ⟨Nat.zero_le _, Nat.zero_le _⟩) ?_
  refine lv_if_ne (tgt := 14) hx hb dX5_lays_4 (by decide) (fun c_1 => ?_) (fun c_1 => ?_)
  · skip
    have c_1b := bI_n c_1
    have hs := c_1b
    rcases in4 hs with rfl | rfl | rfl | rfl
    · skip
      have hz := sz_of (oh 0 (by decide)).1
      refine lv_aload_n hx hb dX5_lays_14 rfl (lv_at hl 0 rfl) ?_
      refine va_get (ci := 3) (v := .ref (b 6 0)) (C := RX5) (T := TX5) (N := 7) hx hb hts inX5 hown hK hP 0 rfl rfl 5 (by decide) f35 (fun _ h9 => h9) rfl dX5_lays_15 ?_
      refine lv_iload_n hx hb dX5_lays_18 rfl (lv_at hl 1 rfl) ?_
      refine va_aldq (f := fun s => some (b 7 s)) hx hb hK hP 39 2 rfl rfl (vp_in_iff.mpr (by decide)) dX5_lays_19 ?_
      refine W.eq (g2 := F0 m 20 ls [.ref (b 7 0)]) rfl ?_
      refine lv_astore_n (lv' := [(2, .ref (b 7 0)), (0, .ref (b 0 0)), (1, .int 0)]) hx hb dX5_lays_20 rfl hl (by decide) rfl (fun ls hl => ?_)
      refine lv_aload_n hx hb dX5_lays_21 rfl (lv_at hl 0 rfl) ?_
      refine callE (W.runV (As := []) (rest := []) ⟨hx, hb, hml, hown, hts⟩ (k_X2_isMissing l D cI cL cS (b 7 0) (b 8 0) (bits 0) (size 0) (num 0)) (cwV 0 hts gX5_lays_X2_isMissing rfl rfl rfl (by decide +kernel) ⟨Nat.le_of_ble_eq_true rfl, Nat.le_of_ble_eq_true rfl⟩) ⟨PcR_fb, va_recv hK hP (ci := 0) (q0 := 40) rfl rfl, PcR_pre (va_seg hP 40 2 rfl) hK⟩ rfl rfl hl.1 rfl (lv_room (Nat.le_of_ble_eq_true rfl)) dX5_lays_22 ⟨Nat.zero_le _, Nat.zero_le _⟩) ?_
      refine lv_if_eq (tgt := 35) hx hb dX5_lays_25 (by decide) (fun c_2 => ?_) (fun c_2 => ?_)
      · skip
        have c_2b := bI_0 c_2
        refine lv_iconst (v := 0) hx hb dX5_lays_35 (by decide) ?_
        refine lv_istore_n (lv' := [(3, .int 0), (2, .ref (b 7 0)), (0, .ref (b 0 0)), (1, .int 0)]) hx hb dX5_lays_36 rfl hl (by decide) rfl (fun ls hl => ?_)
        refine lv_iconst (v := 0) hx hb dX5_lays_37 (by decide) ?_
        refine lv_istore (lv' := [(4, .int 0), (3, .int 0), (2, .ref (b 7 0)), (0, .ref (b 0 0)), (1, .int 0)]) hx hb dX5_lays_38 hl (by decide) rfl (fun ls hl => ?_)
        refine lpW (fun n (u : Nat × FI × Int32) H locs ls => (u.1 + n = 41) ∧ (u.1 ≤ ix (size 0) ∧ u.1 ≤ ix (sGu s1)) ∧ ((u.2.1, u.2.2) = lysF (num 0) (sEa s1) u.1) ∧ (okS (uEa s1 u.2.1) w1) ∧ va_P D vwCl (kcw cI cL cS b (uEa s1 u.2.1) w1 m1 n1 s2 w2 m2 n2 s3 w3 m3 n3 ik bt ln tk sb en nm bits size num fnd) H ∧ va_S A s.heap H locs ∧ lv_has ls 7 [(0, .ref (b 0 0)), (1, .int 0), (2, .ref (b 7 0)), (3, .int u.2.2), (4, .int (nI u.1))]) (41) ((0, (sEa s1), 0)) ⟨by omega, ⟨Nat.zero_le _, Nat.zero_le _⟩, rfl, o1, hP, hS, lv_sub hl [3, 4, 2, 1, 0] rfl⟩ (fun n ih u H locs ls hI => ?_)
        obtain ⟨i, ee, zz⟩ := u
        obtain ⟨hi0, hi1, hi2, hi3, hP, hS, hl⟩ := hI
        have hi0 : i + n = 41 := hi0
        have hi1 : i ≤ ix (size 0) ∧ i ≤ ix (sGu s1) := hi1
        have hi2 : (ee, zz) = lysF (num 0) (sEa s1) i := hi2
        have hi3 : okS (uEa s1 ee) w1 := hi3
        have hl : lv_has ls 7 [(0, .ref (b 0 0)), (1, .int 0), (2, .ref (b 7 0)), (3, .int zz), (4, .int (nI i))] := hl
        have hP : va_P D vwCl (kcw cI cL cS b (uEa s1 ee) w1 m1 n1 s2 w2 m2 n2 s3 w3 m3 n3 ik bt ln tk sb en nm bits size num fnd) H := hP
        have hix : ix (nI i) = i := ix_nI (by omega)
        refine lv_iload hx hb dX5_lays_40 (lv_at hl 4 rfl) ?_
        refine lv_aload_n hx hb dX5_lays_42 rfl (lv_at hl 2 rfl) ?_
        refine va_get (ci := 0) (v := .int (size 0)) (C := RX2) (T := TX2) (N := 3) hx hb hts inX2 hown hK hP 40 rfl rfl 1 (by decide) f189 (fun _ h9 => h9) rfl dX5_lays_43 ?_
        refine lv_icmp_ge (tgt := 110) hx hb dX5_lays_46 (by decide) (fun c_3 => ?_) (fun c_3 => ?_)
        · skip
          have c_3n := (cmp_le (a := ix (size 0)) (b := i) hz.1 rfl (by omega) (by omega)).mp c_3
          refine lv_iload_n hx hb dX5_lays_110 rfl (lv_at hl 3 rfl) ?_
          exact W.iret hx hb hr (fun t ht hW => ⟨⟨_, ((uEa s1 ee), fnd), rfl, (by exact ⟨((iF_t hs).trans ((iF_f c_2b).trans (lys_end hi2 (show min (ix (size 0)) (ix (sGu s1)) = i by omega)))).symm, hi3⟩), by dsimp only; rw [ht]; exact hP⟩, hS.F ht⟩) hS.2.2 dX5_lays_111
        · skip
          have c_3n := mt (cmp_le (a := ix (size 0)) (b := i) hz.1 rfl (by omega) (by omega)).mpr c_3
          refine lv_iload hx hb dX5_lays_49 (lv_at hl 4 rfl) ?_
          refine lv_aload_n hx hb dX5_lays_51 rfl (lv_at hl 0 rfl) ?_
          refine va_get (ci := 3) (v := .ref (b 1 0)) (C := RX5) (T := TX5) (N := 7) hx hb hts inX5 hown hK hP 0 rfl rfl 0 (by decide) f10 (fun _ h9 => h9) rfl dX5_lays_52 ?_
          refine va_get (ci := 1) (v := .int (sGu (uEa s1 ee))) (C := RX3) (T := TX3) (N := 13) hx hb hts inX3 hown hK hP 1 rfl rfl 5 (by decide) f89 (fun _ h9 => h9) rfl dX5_lays_55 ?_
          refine lv_icmp_ge (tgt := 110) hx hb dX5_lays_58 (by decide) (fun c_4 => ?_) (fun c_4 => ?_)
          · skip
            have c_4n := (cmp_le (a := ix (sGu s1)) (b := i) hgu.1 rfl (by omega) (by omega)).mp c_4
            refine lv_iload_n hx hb dX5_lays_110 rfl (lv_at hl 3 rfl) ?_
            exact W.iret hx hb hr (fun t ht hW => ⟨⟨_, ((uEa s1 ee), fnd), rfl, (by exact ⟨((iF_t hs).trans ((iF_f c_2b).trans (lys_end hi2 (show min (ix (size 0)) (ix (sGu s1)) = i by omega)))).symm, hi3⟩), by dsimp only; rw [ht]; exact hP⟩, hS.F ht⟩) hS.2.2 dX5_lays_111
          · skip
            have c_4n := mt (cmp_le (a := ix (sGu s1)) (b := i) hgu.1 rfl (by omega) (by omega)).mpr c_4
            refine lv_aload_n hx hb dX5_lays_61 rfl (lv_at hl 2 rfl) ?_
            refine va_get (ci := 0) (v := .ref (b 8 0)) (C := RX2) (T := TX2) (N := 3) hx hb hts inX2 hown hK hP 40 rfl rfl 2 (by decide) f198 (fun _ h9 => h9) rfl dX5_lays_62 ?_
            refine lv_iload hx hb dX5_lays_65 (lv_at hl 4 rfl) ?_
            refine va_lald hx hb hK hP 41 1 rfl rfl (vp_in_nI (by omega) (by omega)) dX5_lays_67 ?_
            refine lv_lstore (lv' := [(5, .long ((num 0) (ix (nI i)))), (0, .ref (b 0 0)), (1, .int 0), (2, .ref (b 7 0)), (3, .int zz), (4, .int (nI i))]) hx hb dX5_lays_68 hl (by decide) rfl (fun ls hl => ?_)
            refine lv_lload hx hb dX5_lays_70 (lv_at hl 0 rfl) ?_
            refine lv_ldc2 hx hb hown k218 dX5_lays_72 ?_
            refine W.lcmp hx hb dX5_lays_75 ?_
            refine lv_if_lt (tgt := 104) hx hb dX5_lays_76 (by decide) (fun c_5 => ?_) (fun c_5 => ?_)
            · skip
              have hv1 := (lg_cmp_lt _ _).mp c_5
              rw [hix] at hv1
              refine lv_iinc (v := nI (i + 1)) (lv' := [(4, .int (nI (i + 1))), (5, .long ((num 0) (ix (nI i)))), (0, .ref (b 0 0)), (1, .int 0), (2, .ref (b 7 0)), (3, .int zz)]) hx hb dX5_lays_104 hl (k := 5) rfl (nI_1 _) (by decide) rfl (fun ls hl => ?_)
              refine lv_goto (tgt := 40) hx hb dX5_lays_107 (by decide) ?_
              exact ih (n - 1) (by omega) ((i + 1, ee, zz)) H locs ls ⟨by omega, by omega, lys_f hi2 (fun h => h.1 hv1), hi3, hP, hS, lv_sub hl [2, 3, 4, 5, 0] rfl⟩
            · skip
              have hv1 := mt (lg_cmp_lt _ _).mpr c_5
              rw [hix] at hv1
              refine lv_lload hx hb dX5_lays_79 (lv_at hl 0 rfl) ?_
              refine lv_ldc2 hx hb hown k220 dX5_lays_81 ?_
              refine W.lcmp hx hb dX5_lays_84 ?_
              refine lv_if_gt (tgt := 104) hx hb dX5_lays_85 (by decide) (fun c_6 => ?_) (fun c_6 => ?_)
              · skip
                have hv2 := (lg_cmp_gt _ _).mp c_6
                rw [hix] at hv2
                refine lv_iinc (v := nI (i + 1)) (lv' := [(4, .int (nI (i + 1))), (5, .long ((num 0) (ix (nI i)))), (0, .ref (b 0 0)), (1, .int 0), (2, .ref (b 7 0)), (3, .int zz)]) hx hb dX5_lays_104 hl (k := 5) rfl (nI_1 _) (by decide) rfl (fun ls hl => ?_)
                refine lv_goto (tgt := 40) hx hb dX5_lays_107 (by decide) ?_
                exact ih (n - 1) (by omega) ((i + 1, ee, zz)) H locs ls ⟨by omega, by omega, lys_f hi2 (fun h => h.2 hv2), hi3, hP, hS, lv_sub hl [2, 3, 4, 5, 0] rfl⟩
              · skip
                have hv2 := mt (lg_cmp_gt _ _).mpr c_6
                rw [hix] at hv2
                refine lv_aload_n hx hb dX5_lays_88 rfl (lv_at hl 1 rfl) ?_
                refine va_get (ci := 3) (v := .ref (b 1 0)) (C := RX5) (T := TX5) (N := 7) hx hb hts inX5 hown hK hP 0 rfl rfl 0 (by decide) f10 (fun _ h9 => h9) rfl dX5_lays_89 ?_
                refine va_get (ci := 1) (v := .ref (b 1 7)) (C := RX3) (T := TX3) (N := 13) hx hb hts inX3 hown hK hP 1 rfl rfl 8 (by decide) f107 (fun _ h9 => h9) rfl dX5_lays_92 ?_
                refine lv_iload hx hb dX5_lays_95 (lv_at hl 5 rfl) ?_
                refine lv_lload hx hb dX5_lays_97 (lv_at hl 0 rfl) ?_
                refine lv_l2i (v := ((num 0) (ix (nI i))).toInt32) hx hb dX5_lays_99 rfl ?_
                refine va_iast hx hb hK hP (hD _ rfl) hS 8 0 rfl rfl (vp_in_nI (by omega) (by omega)) dX5_lays_100 (fun H locs hP _ hS => ?_)
                have hP : va_P D vwCl (kcw cI cL cS b (uEa (uEa s1 ee) (upd (sEa (uEa s1 ee)) (ix (nI i)) (((num 0) (ix (nI i))).toInt32))) w1 m1 n1 s2 w2 m2 n2 s3 w3 m3 n3 ik bt ln tk sb en nm bits size num fnd) H := hP
                refine lv_iinc (v := zz + 1) (lv' := [(3, .int (zz + 1)), (5, .long ((num 0) (ix (nI i)))), (0, .ref (b 0 0)), (1, .int 0), (2, .ref (b 7 0)), (4, .int (nI i))]) hx hb dX5_lays_101 hl (k := 4) rfl rfl (by decide) rfl (fun ls hl => ?_)
                refine lv_iinc (v := nI (i + 1)) (lv' := [(4, .int (nI (i + 1))), (3, .int (zz + 1)), (5, .long ((num 0) (ix (nI i)))), (0, .ref (b 0 0)), (1, .int 0), (2, .ref (b 7 0))]) hx hb dX5_lays_104 hl (k := 5) rfl (nI_1 _) (by decide) rfl (fun ls hl => ?_)
                refine lv_goto (tgt := 40) hx hb dX5_lays_107 (by decide) ?_
                have hP : va_P D vwCl (kcw cI cL cS b (uEa s1 (upd ee i ((num 0) i).toInt32)) w1 m1 n1 s2 w2 m2 n2 s3 w3 m3 n3 ik bt ln tk sb en nm bits size num fnd) H := by rw [hix] at hP; exact hP
                exact ih (n - 1) (by omega) ((i + 1, upd ee i ((num 0) i).toInt32, zz + 1)) H locs ls ⟨by omega, by omega, lys_t hi2 ⟨hv1, hv2⟩, ok_ea hi3 (l99 ⟨hv1, hv2⟩), hP, hS, lv_sub hl [3, 4, 5, 1, 0] rfl⟩
      · skip
        have c_2b := bI_n c_2
        refine lv_aload_n hx hb dX5_lays_28 rfl (lv_at hl 1 rfl) ?_
        refine lv_ldc hx hb hown k196 dX5_lays_29 ?_
        refine callMi (va_runV (As := [.int (-1000000006)]) (rest := []) ⟨hx, hb, hml, hown, hts⟩ (k_X5_found l D cI cL cS b s1 w1 m1 n1 s2 w2 m2 n2 s3 w3 m3 n3 ik bt ln tk sb en nm bits size num fnd (-1000000006) (va_DT (hD _ rfl) rfl) (vp_in_iff.mpr (by decide))) (cwV 1 hts gX5_lays_X5_found rfl rfl rfl (by decide +kernel) ⟨Nat.le_of_ble_eq_true rfl, Nat.le_of_ble_eq_true rfl⟩) ⟨PcR_fb, va_recv hK hP (ci := 3) (q0 := 0) rfl rfl, PcR_pre hP hK⟩ rfl rfl hl.1 rfl (lv_room (Nat.le_of_ble_eq_true rfl)) dX5_lays_31 ⟨Nat.zero_le _, Nat.zero_le _⟩) hP (hD _ rfl) hS 0 49 rfl (fun r_8 u_7 H locs hu_7 hP hS => ?_)
        obtain ⟨hu_7r, -⟩ := hu_7
        subst hu_7r
        have hP : va_P D vwCl (kcw cI cL cS b s1 w1 m1 n1 s2 w2 m2 n2 s3 w3 m3 n3 ik bt ln tk sb en nm bits size num (bump fnd (-1000000006))) H := hP
        exact W.iret hx hb hr (fun t ht hW => ⟨⟨_, (s1, bump fnd (-1000000006)), rfl, (by exact ⟨((iF_t hs).trans (iF_t c_2b)).symm, o1⟩), by dsimp only; rw [ht]; exact hP⟩, hS.F ht⟩) hS.2.2 dX5_lays_34
    · skip
      have hz := sz_of (oh 1 (by decide)).1
      refine lv_aload_n hx hb dX5_lays_14 rfl (lv_at hl 0 rfl) ?_
      refine va_get (ci := 3) (v := .ref (b 6 0)) (C := RX5) (T := TX5) (N := 7) hx hb hts inX5 hown hK hP 0 rfl rfl 5 (by decide) f35 (fun _ h9 => h9) rfl dX5_lays_15 ?_
      refine lv_iload_n hx hb dX5_lays_18 rfl (lv_at hl 1 rfl) ?_
      refine va_aldq (f := fun s => some (b 7 s)) hx hb hK hP 39 2 rfl rfl (vp_in_iff.mpr (by decide)) dX5_lays_19 ?_
      refine W.eq (g2 := F0 m 20 ls [.ref (b 7 1)]) rfl ?_
      refine lv_astore_n (lv' := [(2, .ref (b 7 1)), (0, .ref (b 0 0)), (1, .int 1)]) hx hb dX5_lays_20 rfl hl (by decide) rfl (fun ls hl => ?_)
      refine lv_aload_n hx hb dX5_lays_21 rfl (lv_at hl 0 rfl) ?_
      refine callE (W.runV (As := []) (rest := []) ⟨hx, hb, hml, hown, hts⟩ (k_X2_isMissing l D cI cL cS (b 7 1) (b 8 1) (bits 1) (size 1) (num 1)) (cwV 0 hts gX5_lays_X2_isMissing rfl rfl rfl (by decide +kernel) ⟨Nat.le_of_ble_eq_true rfl, Nat.le_of_ble_eq_true rfl⟩) ⟨PcR_fb, va_recv hK hP (ci := 0) (q0 := 42) rfl rfl, PcR_pre (va_seg hP 42 2 rfl) hK⟩ rfl rfl hl.1 rfl (lv_room (Nat.le_of_ble_eq_true rfl)) dX5_lays_22 ⟨Nat.zero_le _, Nat.zero_le _⟩) ?_
      refine lv_if_eq (tgt := 35) hx hb dX5_lays_25 (by decide) (fun c_9 => ?_) (fun c_9 => ?_)
      · skip
        have c_9b := bI_0 c_9
        refine lv_iconst (v := 0) hx hb dX5_lays_35 (by decide) ?_
        refine lv_istore_n (lv' := [(3, .int 0), (2, .ref (b 7 1)), (0, .ref (b 0 0)), (1, .int 1)]) hx hb dX5_lays_36 rfl hl (by decide) rfl (fun ls hl => ?_)
        refine lv_iconst (v := 0) hx hb dX5_lays_37 (by decide) ?_
        refine lv_istore (lv' := [(4, .int 0), (3, .int 0), (2, .ref (b 7 1)), (0, .ref (b 0 0)), (1, .int 1)]) hx hb dX5_lays_38 hl (by decide) rfl (fun ls hl => ?_)
        refine lpW (fun n (u : Nat × FI × Int32) H locs ls => (u.1 + n = 41) ∧ (u.1 ≤ ix (size 1) ∧ u.1 ≤ ix (sGu s1)) ∧ ((u.2.1, u.2.2) = lysF (num 1) (sEa s1) u.1) ∧ (okS (uEa s1 u.2.1) w1) ∧ va_P D vwCl (kcw cI cL cS b (uEa s1 u.2.1) w1 m1 n1 s2 w2 m2 n2 s3 w3 m3 n3 ik bt ln tk sb en nm bits size num fnd) H ∧ va_S A s.heap H locs ∧ lv_has ls 7 [(0, .ref (b 0 0)), (1, .int 1), (2, .ref (b 7 1)), (3, .int u.2.2), (4, .int (nI u.1))]) (41) ((0, (sEa s1), 0)) ⟨by omega, ⟨Nat.zero_le _, Nat.zero_le _⟩, rfl, o1, hP, hS, lv_sub hl [3, 4, 2, 1, 0] rfl⟩ (fun n ih u H locs ls hI => ?_)
        obtain ⟨i, ee, zz⟩ := u
        obtain ⟨hi0, hi1, hi2, hi3, hP, hS, hl⟩ := hI
        have hi0 : i + n = 41 := hi0
        have hi1 : i ≤ ix (size 1) ∧ i ≤ ix (sGu s1) := hi1
        have hi2 : (ee, zz) = lysF (num 1) (sEa s1) i := hi2
        have hi3 : okS (uEa s1 ee) w1 := hi3
        have hl : lv_has ls 7 [(0, .ref (b 0 0)), (1, .int 1), (2, .ref (b 7 1)), (3, .int zz), (4, .int (nI i))] := hl
        have hP : va_P D vwCl (kcw cI cL cS b (uEa s1 ee) w1 m1 n1 s2 w2 m2 n2 s3 w3 m3 n3 ik bt ln tk sb en nm bits size num fnd) H := hP
        have hix : ix (nI i) = i := ix_nI (by omega)
        refine lv_iload hx hb dX5_lays_40 (lv_at hl 4 rfl) ?_
        refine lv_aload_n hx hb dX5_lays_42 rfl (lv_at hl 2 rfl) ?_
        refine va_get (ci := 0) (v := .int (size 1)) (C := RX2) (T := TX2) (N := 3) hx hb hts inX2 hown hK hP 42 rfl rfl 1 (by decide) f189 (fun _ h9 => h9) rfl dX5_lays_43 ?_
        refine lv_icmp_ge (tgt := 110) hx hb dX5_lays_46 (by decide) (fun c_10 => ?_) (fun c_10 => ?_)
        · skip
          have c_10n := (cmp_le (a := ix (size 1)) (b := i) hz.1 rfl (by omega) (by omega)).mp c_10
          refine lv_iload_n hx hb dX5_lays_110 rfl (lv_at hl 3 rfl) ?_
          exact W.iret hx hb hr (fun t ht hW => ⟨⟨_, ((uEa s1 ee), fnd), rfl, (by exact ⟨((iF_t hs).trans ((iF_f c_9b).trans (lys_end hi2 (show min (ix (size 1)) (ix (sGu s1)) = i by omega)))).symm, hi3⟩), by dsimp only; rw [ht]; exact hP⟩, hS.F ht⟩) hS.2.2 dX5_lays_111
        · skip
          have c_10n := mt (cmp_le (a := ix (size 1)) (b := i) hz.1 rfl (by omega) (by omega)).mpr c_10
          refine lv_iload hx hb dX5_lays_49 (lv_at hl 4 rfl) ?_
          refine lv_aload_n hx hb dX5_lays_51 rfl (lv_at hl 0 rfl) ?_
          refine va_get (ci := 3) (v := .ref (b 1 0)) (C := RX5) (T := TX5) (N := 7) hx hb hts inX5 hown hK hP 0 rfl rfl 0 (by decide) f10 (fun _ h9 => h9) rfl dX5_lays_52 ?_
          refine va_get (ci := 1) (v := .int (sGu (uEa s1 ee))) (C := RX3) (T := TX3) (N := 13) hx hb hts inX3 hown hK hP 1 rfl rfl 5 (by decide) f89 (fun _ h9 => h9) rfl dX5_lays_55 ?_
          refine lv_icmp_ge (tgt := 110) hx hb dX5_lays_58 (by decide) (fun c_11 => ?_) (fun c_11 => ?_)
          · skip
            have c_11n := (cmp_le (a := ix (sGu s1)) (b := i) hgu.1 rfl (by omega) (by omega)).mp c_11
            refine lv_iload_n hx hb dX5_lays_110 rfl (lv_at hl 3 rfl) ?_
            exact W.iret hx hb hr (fun t ht hW => ⟨⟨_, ((uEa s1 ee), fnd), rfl, (by exact ⟨((iF_t hs).trans ((iF_f c_9b).trans (lys_end hi2 (show min (ix (size 1)) (ix (sGu s1)) = i by omega)))).symm, hi3⟩), by dsimp only; rw [ht]; exact hP⟩, hS.F ht⟩) hS.2.2 dX5_lays_111
          · skip
            have c_11n := mt (cmp_le (a := ix (sGu s1)) (b := i) hgu.1 rfl (by omega) (by omega)).mpr c_11
            refine lv_aload_n hx hb dX5_lays_61 rfl (lv_at hl 2 rfl) ?_
            refine va_get (ci := 0) (v := .ref (b 8 1)) (C := RX2) (T := TX2) (N := 3) hx hb hts inX2 hown hK hP 42 rfl rfl 2 (by decide) f198 (fun _ h9 => h9) rfl dX5_lays_62 ?_
            refine lv_iload hx hb dX5_lays_65 (lv_at hl 4 rfl) ?_
            refine va_lald hx hb hK hP 43 1 rfl rfl (vp_in_nI (by omega) (by omega)) dX5_lays_67 ?_
            refine lv_lstore (lv' := [(5, .long ((num 1) (ix (nI i)))), (0, .ref (b 0 0)), (1, .int 1), (2, .ref (b 7 1)), (3, .int zz), (4, .int (nI i))]) hx hb dX5_lays_68 hl (by decide) rfl (fun ls hl => ?_)
            refine lv_lload hx hb dX5_lays_70 (lv_at hl 0 rfl) ?_
            refine lv_ldc2 hx hb hown k218 dX5_lays_72 ?_
            refine W.lcmp hx hb dX5_lays_75 ?_
            refine lv_if_lt (tgt := 104) hx hb dX5_lays_76 (by decide) (fun c_12 => ?_) (fun c_12 => ?_)
            · skip
              have hv1 := (lg_cmp_lt _ _).mp c_12
              rw [hix] at hv1
              refine lv_iinc (v := nI (i + 1)) (lv' := [(4, .int (nI (i + 1))), (5, .long ((num 1) (ix (nI i)))), (0, .ref (b 0 0)), (1, .int 1), (2, .ref (b 7 1)), (3, .int zz)]) hx hb dX5_lays_104 hl (k := 5) rfl (nI_1 _) (by decide) rfl (fun ls hl => ?_)
              refine lv_goto (tgt := 40) hx hb dX5_lays_107 (by decide) ?_
              exact ih (n - 1) (by omega) ((i + 1, ee, zz)) H locs ls ⟨by omega, by omega, lys_f hi2 (fun h => h.1 hv1), hi3, hP, hS, lv_sub hl [2, 3, 4, 5, 0] rfl⟩
            · skip
              have hv1 := mt (lg_cmp_lt _ _).mpr c_12
              rw [hix] at hv1
              refine lv_lload hx hb dX5_lays_79 (lv_at hl 0 rfl) ?_
              refine lv_ldc2 hx hb hown k220 dX5_lays_81 ?_
              refine W.lcmp hx hb dX5_lays_84 ?_
              refine lv_if_gt (tgt := 104) hx hb dX5_lays_85 (by decide) (fun c_13 => ?_) (fun c_13 => ?_)
              · skip
                have hv2 := (lg_cmp_gt _ _).mp c_13
                rw [hix] at hv2
                refine lv_iinc (v := nI (i + 1)) (lv' := [(4, .int (nI (i + 1))), (5, .long ((num 1) (ix (nI i)))), (0, .ref (b 0 0)), (1, .int 1), (2, .ref (b 7 1)), (3, .int zz)]) hx hb dX5_lays_104 hl (k := 5) rfl (nI_1 _) (by decide) rfl (fun ls hl => ?_)
                refine lv_goto (tgt := 40) hx hb dX5_lays_107 (by decide) ?_
                exact ih (n - 1) (by omega) ((i + 1, ee, zz)) H locs ls ⟨by omega, by omega, lys_f hi2 (fun h => h.2 hv2), hi3, hP, hS, lv_sub hl [2, 3, 4, 5, 0] rfl⟩
              · skip
                have hv2 := mt (lg_cmp_gt _ _).mpr c_13
                rw [hix] at hv2
                refine lv_aload_n hx hb dX5_lays_88 rfl (lv_at hl 1 rfl) ?_
                refine va_get (ci := 3) (v := .ref (b 1 0)) (C := RX5) (T := TX5) (N := 7) hx hb hts inX5 hown hK hP 0 rfl rfl 0 (by decide) f10 (fun _ h9 => h9) rfl dX5_lays_89 ?_
                refine va_get (ci := 1) (v := .ref (b 1 7)) (C := RX3) (T := TX3) (N := 13) hx hb hts inX3 hown hK hP 1 rfl rfl 8 (by decide) f107 (fun _ h9 => h9) rfl dX5_lays_92 ?_
                refine lv_iload hx hb dX5_lays_95 (lv_at hl 5 rfl) ?_
                refine lv_lload hx hb dX5_lays_97 (lv_at hl 0 rfl) ?_
                refine lv_l2i (v := ((num 1) (ix (nI i))).toInt32) hx hb dX5_lays_99 rfl ?_
                refine va_iast hx hb hK hP (hD _ rfl) hS 8 0 rfl rfl (vp_in_nI (by omega) (by omega)) dX5_lays_100 (fun H locs hP _ hS => ?_)
                have hP : va_P D vwCl (kcw cI cL cS b (uEa (uEa s1 ee) (upd (sEa (uEa s1 ee)) (ix (nI i)) (((num 1) (ix (nI i))).toInt32))) w1 m1 n1 s2 w2 m2 n2 s3 w3 m3 n3 ik bt ln tk sb en nm bits size num fnd) H := hP
                refine lv_iinc (v := zz + 1) (lv' := [(3, .int (zz + 1)), (5, .long ((num 1) (ix (nI i)))), (0, .ref (b 0 0)), (1, .int 1), (2, .ref (b 7 1)), (4, .int (nI i))]) hx hb dX5_lays_101 hl (k := 4) rfl rfl (by decide) rfl (fun ls hl => ?_)
                refine lv_iinc (v := nI (i + 1)) (lv' := [(4, .int (nI (i + 1))), (3, .int (zz + 1)), (5, .long ((num 1) (ix (nI i)))), (0, .ref (b 0 0)), (1, .int 1), (2, .ref (b 7 1))]) hx hb dX5_lays_104 hl (k := 5) rfl (nI_1 _) (by decide) rfl (fun ls hl => ?_)
                refine lv_goto (tgt := 40) hx hb dX5_lays_107 (by decide) ?_
                have hP : va_P D vwCl (kcw cI cL cS b (uEa s1 (upd ee i ((num 1) i).toInt32)) w1 m1 n1 s2 w2 m2 n2 s3 w3 m3 n3 ik bt ln tk sb en nm bits size num fnd) H := by rw [hix] at hP; exact hP
                exact ih (n - 1) (by omega) ((i + 1, upd ee i ((num 1) i).toInt32, zz + 1)) H locs ls ⟨by omega, by omega, lys_t hi2 ⟨hv1, hv2⟩, ok_ea hi3 (l99 ⟨hv1, hv2⟩), hP, hS, lv_sub hl [3, 4, 5, 1, 0] rfl⟩
      · skip
        have c_9b := bI_n c_9
        refine lv_aload_n hx hb dX5_lays_28 rfl (lv_at hl 1 rfl) ?_
        refine lv_ldc hx hb hown k196 dX5_lays_29 ?_
        refine callMi (va_runV (As := [.int (-1000000006)]) (rest := []) ⟨hx, hb, hml, hown, hts⟩ (k_X5_found l D cI cL cS b s1 w1 m1 n1 s2 w2 m2 n2 s3 w3 m3 n3 ik bt ln tk sb en nm bits size num fnd (-1000000006) (va_DT (hD _ rfl) rfl) (vp_in_iff.mpr (by decide))) (cwV 1 hts gX5_lays_X5_found rfl rfl rfl (by decide +kernel) ⟨Nat.le_of_ble_eq_true rfl, Nat.le_of_ble_eq_true rfl⟩) ⟨PcR_fb, va_recv hK hP (ci := 3) (q0 := 0) rfl rfl, PcR_pre hP hK⟩ rfl rfl hl.1 rfl (lv_room (Nat.le_of_ble_eq_true rfl)) dX5_lays_31 ⟨Nat.zero_le _, Nat.zero_le _⟩) hP (hD _ rfl) hS 0 49 rfl (fun r_15 u_14 H locs hu_14 hP hS => ?_)
        obtain ⟨hu_14r, -⟩ := hu_14
        subst hu_14r
        have hP : va_P D vwCl (kcw cI cL cS b s1 w1 m1 n1 s2 w2 m2 n2 s3 w3 m3 n3 ik bt ln tk sb en nm bits size num (bump fnd (-1000000006))) H := hP
        exact W.iret hx hb hr (fun t ht hW => ⟨⟨_, (s1, bump fnd (-1000000006)), rfl, (by exact ⟨((iF_t hs).trans (iF_t c_9b)).symm, o1⟩), by dsimp only; rw [ht]; exact hP⟩, hS.F ht⟩) hS.2.2 dX5_lays_34
    · skip
      have hz := sz_of (oh 2 (by decide)).1
      refine lv_aload_n hx hb dX5_lays_14 rfl (lv_at hl 0 rfl) ?_
      refine va_get (ci := 3) (v := .ref (b 6 0)) (C := RX5) (T := TX5) (N := 7) hx hb hts inX5 hown hK hP 0 rfl rfl 5 (by decide) f35 (fun _ h9 => h9) rfl dX5_lays_15 ?_
      refine lv_iload_n hx hb dX5_lays_18 rfl (lv_at hl 1 rfl) ?_
      refine va_aldq (f := fun s => some (b 7 s)) hx hb hK hP 39 2 rfl rfl (vp_in_iff.mpr (by decide)) dX5_lays_19 ?_
      refine W.eq (g2 := F0 m 20 ls [.ref (b 7 2)]) rfl ?_
      refine lv_astore_n (lv' := [(2, .ref (b 7 2)), (0, .ref (b 0 0)), (1, .int 2)]) hx hb dX5_lays_20 rfl hl (by decide) rfl (fun ls hl => ?_)
      refine lv_aload_n hx hb dX5_lays_21 rfl (lv_at hl 0 rfl) ?_
      refine callE (W.runV (As := []) (rest := []) ⟨hx, hb, hml, hown, hts⟩ (k_X2_isMissing l D cI cL cS (b 7 2) (b 8 2) (bits 2) (size 2) (num 2)) (cwV 0 hts gX5_lays_X2_isMissing rfl rfl rfl (by decide +kernel) ⟨Nat.le_of_ble_eq_true rfl, Nat.le_of_ble_eq_true rfl⟩) ⟨PcR_fb, va_recv hK hP (ci := 0) (q0 := 44) rfl rfl, PcR_pre (va_seg hP 44 2 rfl) hK⟩ rfl rfl hl.1 rfl (lv_room (Nat.le_of_ble_eq_true rfl)) dX5_lays_22 ⟨Nat.zero_le _, Nat.zero_le _⟩) ?_
      refine lv_if_eq (tgt := 35) hx hb dX5_lays_25 (by decide) (fun c_16 => ?_) (fun c_16 => ?_)
      · skip
        have c_16b := bI_0 c_16
        refine lv_iconst (v := 0) hx hb dX5_lays_35 (by decide) ?_
        refine lv_istore_n (lv' := [(3, .int 0), (2, .ref (b 7 2)), (0, .ref (b 0 0)), (1, .int 2)]) hx hb dX5_lays_36 rfl hl (by decide) rfl (fun ls hl => ?_)
        refine lv_iconst (v := 0) hx hb dX5_lays_37 (by decide) ?_
        refine lv_istore (lv' := [(4, .int 0), (3, .int 0), (2, .ref (b 7 2)), (0, .ref (b 0 0)), (1, .int 2)]) hx hb dX5_lays_38 hl (by decide) rfl (fun ls hl => ?_)
        refine lpW (fun n (u : Nat × FI × Int32) H locs ls => (u.1 + n = 41) ∧ (u.1 ≤ ix (size 2) ∧ u.1 ≤ ix (sGu s1)) ∧ ((u.2.1, u.2.2) = lysF (num 2) (sEa s1) u.1) ∧ (okS (uEa s1 u.2.1) w1) ∧ va_P D vwCl (kcw cI cL cS b (uEa s1 u.2.1) w1 m1 n1 s2 w2 m2 n2 s3 w3 m3 n3 ik bt ln tk sb en nm bits size num fnd) H ∧ va_S A s.heap H locs ∧ lv_has ls 7 [(0, .ref (b 0 0)), (1, .int 2), (2, .ref (b 7 2)), (3, .int u.2.2), (4, .int (nI u.1))]) (41) ((0, (sEa s1), 0)) ⟨by omega, ⟨Nat.zero_le _, Nat.zero_le _⟩, rfl, o1, hP, hS, lv_sub hl [3, 4, 2, 1, 0] rfl⟩ (fun n ih u H locs ls hI => ?_)
        obtain ⟨i, ee, zz⟩ := u
        obtain ⟨hi0, hi1, hi2, hi3, hP, hS, hl⟩ := hI
        have hi0 : i + n = 41 := hi0
        have hi1 : i ≤ ix (size 2) ∧ i ≤ ix (sGu s1) := hi1
        have hi2 : (ee, zz) = lysF (num 2) (sEa s1) i := hi2
        have hi3 : okS (uEa s1 ee) w1 := hi3
        have hl : lv_has ls 7 [(0, .ref (b 0 0)), (1, .int 2), (2, .ref (b 7 2)), (3, .int zz), (4, .int (nI i))] := hl
        have hP : va_P D vwCl (kcw cI cL cS b (uEa s1 ee) w1 m1 n1 s2 w2 m2 n2 s3 w3 m3 n3 ik bt ln tk sb en nm bits size num fnd) H := hP
        have hix : ix (nI i) = i := ix_nI (by omega)
        refine lv_iload hx hb dX5_lays_40 (lv_at hl 4 rfl) ?_
        refine lv_aload_n hx hb dX5_lays_42 rfl (lv_at hl 2 rfl) ?_
        refine va_get (ci := 0) (v := .int (size 2)) (C := RX2) (T := TX2) (N := 3) hx hb hts inX2 hown hK hP 44 rfl rfl 1 (by decide) f189 (fun _ h9 => h9) rfl dX5_lays_43 ?_
        refine lv_icmp_ge (tgt := 110) hx hb dX5_lays_46 (by decide) (fun c_17 => ?_) (fun c_17 => ?_)
        · skip
          have c_17n := (cmp_le (a := ix (size 2)) (b := i) hz.1 rfl (by omega) (by omega)).mp c_17
          refine lv_iload_n hx hb dX5_lays_110 rfl (lv_at hl 3 rfl) ?_
          exact W.iret hx hb hr (fun t ht hW => ⟨⟨_, ((uEa s1 ee), fnd), rfl, (by exact ⟨((iF_t hs).trans ((iF_f c_16b).trans (lys_end hi2 (show min (ix (size 2)) (ix (sGu s1)) = i by omega)))).symm, hi3⟩), by dsimp only; rw [ht]; exact hP⟩, hS.F ht⟩) hS.2.2 dX5_lays_111
        · skip
          have c_17n := mt (cmp_le (a := ix (size 2)) (b := i) hz.1 rfl (by omega) (by omega)).mpr c_17
          refine lv_iload hx hb dX5_lays_49 (lv_at hl 4 rfl) ?_
          refine lv_aload_n hx hb dX5_lays_51 rfl (lv_at hl 0 rfl) ?_
          refine va_get (ci := 3) (v := .ref (b 1 0)) (C := RX5) (T := TX5) (N := 7) hx hb hts inX5 hown hK hP 0 rfl rfl 0 (by decide) f10 (fun _ h9 => h9) rfl dX5_lays_52 ?_
          refine va_get (ci := 1) (v := .int (sGu (uEa s1 ee))) (C := RX3) (T := TX3) (N := 13) hx hb hts inX3 hown hK hP 1 rfl rfl 5 (by decide) f89 (fun _ h9 => h9) rfl dX5_lays_55 ?_
          refine lv_icmp_ge (tgt := 110) hx hb dX5_lays_58 (by decide) (fun c_18 => ?_) (fun c_18 => ?_)
          · skip
            have c_18n := (cmp_le (a := ix (sGu s1)) (b := i) hgu.1 rfl (by omega) (by omega)).mp c_18
            refine lv_iload_n hx hb dX5_lays_110 rfl (lv_at hl 3 rfl) ?_
            exact W.iret hx hb hr (fun t ht hW => ⟨⟨_, ((uEa s1 ee), fnd), rfl, (by exact ⟨((iF_t hs).trans ((iF_f c_16b).trans (lys_end hi2 (show min (ix (size 2)) (ix (sGu s1)) = i by omega)))).symm, hi3⟩), by dsimp only; rw [ht]; exact hP⟩, hS.F ht⟩) hS.2.2 dX5_lays_111
          · skip
            have c_18n := mt (cmp_le (a := ix (sGu s1)) (b := i) hgu.1 rfl (by omega) (by omega)).mpr c_18
            refine lv_aload_n hx hb dX5_lays_61 rfl (lv_at hl 2 rfl) ?_
            refine va_get (ci := 0) (v := .ref (b 8 2)) (C := RX2) (T := TX2) (N := 3) hx hb hts inX2 hown hK hP 44 rfl rfl 2 (by decide) f198 (fun _ h9 => h9) rfl dX5_lays_62 ?_
            refine lv_iload hx hb dX5_lays_65 (lv_at hl 4 rfl) ?_
            refine va_lald hx hb hK hP 45 1 rfl rfl (vp_in_nI (by omega) (by omega)) dX5_lays_67 ?_
            refine lv_lstore (lv' := [(5, .long ((num 2) (ix (nI i)))), (0, .ref (b 0 0)), (1, .int 2), (2, .ref (b 7 2)), (3, .int zz), (4, .int (nI i))]) hx hb dX5_lays_68 hl (by decide) rfl (fun ls hl => ?_)
            refine lv_lload hx hb dX5_lays_70 (lv_at hl 0 rfl) ?_
            refine lv_ldc2 hx hb hown k218 dX5_lays_72 ?_
            refine W.lcmp hx hb dX5_lays_75 ?_
            refine lv_if_lt (tgt := 104) hx hb dX5_lays_76 (by decide) (fun c_19 => ?_) (fun c_19 => ?_)
            · skip
              have hv1 := (lg_cmp_lt _ _).mp c_19
              rw [hix] at hv1
              refine lv_iinc (v := nI (i + 1)) (lv' := [(4, .int (nI (i + 1))), (5, .long ((num 2) (ix (nI i)))), (0, .ref (b 0 0)), (1, .int 2), (2, .ref (b 7 2)), (3, .int zz)]) hx hb dX5_lays_104 hl (k := 5) rfl (nI_1 _) (by decide) rfl (fun ls hl => ?_)
              refine lv_goto (tgt := 40) hx hb dX5_lays_107 (by decide) ?_
              exact ih (n - 1) (by omega) ((i + 1, ee, zz)) H locs ls ⟨by omega, by omega, lys_f hi2 (fun h => h.1 hv1), hi3, hP, hS, lv_sub hl [2, 3, 4, 5, 0] rfl⟩
            · skip
              have hv1 := mt (lg_cmp_lt _ _).mpr c_19
              rw [hix] at hv1
              refine lv_lload hx hb dX5_lays_79 (lv_at hl 0 rfl) ?_
              refine lv_ldc2 hx hb hown k220 dX5_lays_81 ?_
              refine W.lcmp hx hb dX5_lays_84 ?_
              refine lv_if_gt (tgt := 104) hx hb dX5_lays_85 (by decide) (fun c_20 => ?_) (fun c_20 => ?_)
              · skip
                have hv2 := (lg_cmp_gt _ _).mp c_20
                rw [hix] at hv2
                refine lv_iinc (v := nI (i + 1)) (lv' := [(4, .int (nI (i + 1))), (5, .long ((num 2) (ix (nI i)))), (0, .ref (b 0 0)), (1, .int 2), (2, .ref (b 7 2)), (3, .int zz)]) hx hb dX5_lays_104 hl (k := 5) rfl (nI_1 _) (by decide) rfl (fun ls hl => ?_)
                refine lv_goto (tgt := 40) hx hb dX5_lays_107 (by decide) ?_
                exact ih (n - 1) (by omega) ((i + 1, ee, zz)) H locs ls ⟨by omega, by omega, lys_f hi2 (fun h => h.2 hv2), hi3, hP, hS, lv_sub hl [2, 3, 4, 5, 0] rfl⟩
              · skip
                have hv2 := mt (lg_cmp_gt _ _).mpr c_20
                rw [hix] at hv2
                refine lv_aload_n hx hb dX5_lays_88 rfl (lv_at hl 1 rfl) ?_
                refine va_get (ci := 3) (v := .ref (b 1 0)) (C := RX5) (T := TX5) (N := 7) hx hb hts inX5 hown hK hP 0 rfl rfl 0 (by decide) f10 (fun _ h9 => h9) rfl dX5_lays_89 ?_
                refine va_get (ci := 1) (v := .ref (b 1 7)) (C := RX3) (T := TX3) (N := 13) hx hb hts inX3 hown hK hP 1 rfl rfl 8 (by decide) f107 (fun _ h9 => h9) rfl dX5_lays_92 ?_
                refine lv_iload hx hb dX5_lays_95 (lv_at hl 5 rfl) ?_
                refine lv_lload hx hb dX5_lays_97 (lv_at hl 0 rfl) ?_
                refine lv_l2i (v := ((num 2) (ix (nI i))).toInt32) hx hb dX5_lays_99 rfl ?_
                refine va_iast hx hb hK hP (hD _ rfl) hS 8 0 rfl rfl (vp_in_nI (by omega) (by omega)) dX5_lays_100 (fun H locs hP _ hS => ?_)
                have hP : va_P D vwCl (kcw cI cL cS b (uEa (uEa s1 ee) (upd (sEa (uEa s1 ee)) (ix (nI i)) (((num 2) (ix (nI i))).toInt32))) w1 m1 n1 s2 w2 m2 n2 s3 w3 m3 n3 ik bt ln tk sb en nm bits size num fnd) H := hP
                refine lv_iinc (v := zz + 1) (lv' := [(3, .int (zz + 1)), (5, .long ((num 2) (ix (nI i)))), (0, .ref (b 0 0)), (1, .int 2), (2, .ref (b 7 2)), (4, .int (nI i))]) hx hb dX5_lays_101 hl (k := 4) rfl rfl (by decide) rfl (fun ls hl => ?_)
                refine lv_iinc (v := nI (i + 1)) (lv' := [(4, .int (nI (i + 1))), (3, .int (zz + 1)), (5, .long ((num 2) (ix (nI i)))), (0, .ref (b 0 0)), (1, .int 2), (2, .ref (b 7 2))]) hx hb dX5_lays_104 hl (k := 5) rfl (nI_1 _) (by decide) rfl (fun ls hl => ?_)
                refine lv_goto (tgt := 40) hx hb dX5_lays_107 (by decide) ?_
                have hP : va_P D vwCl (kcw cI cL cS b (uEa s1 (upd ee i ((num 2) i).toInt32)) w1 m1 n1 s2 w2 m2 n2 s3 w3 m3 n3 ik bt ln tk sb en nm bits size num fnd) H := by rw [hix] at hP; exact hP
                exact ih (n - 1) (by omega) ((i + 1, upd ee i ((num 2) i).toInt32, zz + 1)) H locs ls ⟨by omega, by omega, lys_t hi2 ⟨hv1, hv2⟩, ok_ea hi3 (l99 ⟨hv1, hv2⟩), hP, hS, lv_sub hl [3, 4, 5, 1, 0] rfl⟩
      · skip
        have c_16b := bI_n c_16
        refine lv_aload_n hx hb dX5_lays_28 rfl (lv_at hl 1 rfl) ?_
        refine lv_ldc hx hb hown k196 dX5_lays_29 ?_
        refine callMi (va_runV (As := [.int (-1000000006)]) (rest := []) ⟨hx, hb, hml, hown, hts⟩ (k_X5_found l D cI cL cS b s1 w1 m1 n1 s2 w2 m2 n2 s3 w3 m3 n3 ik bt ln tk sb en nm bits size num fnd (-1000000006) (va_DT (hD _ rfl) rfl) (vp_in_iff.mpr (by decide))) (cwV 1 hts gX5_lays_X5_found rfl rfl rfl (by decide +kernel) ⟨Nat.le_of_ble_eq_true rfl, Nat.le_of_ble_eq_true rfl⟩) ⟨PcR_fb, va_recv hK hP (ci := 3) (q0 := 0) rfl rfl, PcR_pre hP hK⟩ rfl rfl hl.1 rfl (lv_room (Nat.le_of_ble_eq_true rfl)) dX5_lays_31 ⟨Nat.zero_le _, Nat.zero_le _⟩) hP (hD _ rfl) hS 0 49 rfl (fun r_22 u_21 H locs hu_21 hP hS => ?_)
        obtain ⟨hu_21r, -⟩ := hu_21
        subst hu_21r
        have hP : va_P D vwCl (kcw cI cL cS b s1 w1 m1 n1 s2 w2 m2 n2 s3 w3 m3 n3 ik bt ln tk sb en nm bits size num (bump fnd (-1000000006))) H := hP
        exact W.iret hx hb hr (fun t ht hW => ⟨⟨_, (s1, bump fnd (-1000000006)), rfl, (by exact ⟨((iF_t hs).trans (iF_t c_16b)).symm, o1⟩), by dsimp only; rw [ht]; exact hP⟩, hS.F ht⟩) hS.2.2 dX5_lays_34
    · skip
      have hz := sz_of (oh 3 (by decide)).1
      refine lv_aload_n hx hb dX5_lays_14 rfl (lv_at hl 0 rfl) ?_
      refine va_get (ci := 3) (v := .ref (b 6 0)) (C := RX5) (T := TX5) (N := 7) hx hb hts inX5 hown hK hP 0 rfl rfl 5 (by decide) f35 (fun _ h9 => h9) rfl dX5_lays_15 ?_
      refine lv_iload_n hx hb dX5_lays_18 rfl (lv_at hl 1 rfl) ?_
      refine va_aldq (f := fun s => some (b 7 s)) hx hb hK hP 39 2 rfl rfl (vp_in_iff.mpr (by decide)) dX5_lays_19 ?_
      refine W.eq (g2 := F0 m 20 ls [.ref (b 7 3)]) rfl ?_
      refine lv_astore_n (lv' := [(2, .ref (b 7 3)), (0, .ref (b 0 0)), (1, .int 3)]) hx hb dX5_lays_20 rfl hl (by decide) rfl (fun ls hl => ?_)
      refine lv_aload_n hx hb dX5_lays_21 rfl (lv_at hl 0 rfl) ?_
      refine callE (W.runV (As := []) (rest := []) ⟨hx, hb, hml, hown, hts⟩ (k_X2_isMissing l D cI cL cS (b 7 3) (b 8 3) (bits 3) (size 3) (num 3)) (cwV 0 hts gX5_lays_X2_isMissing rfl rfl rfl (by decide +kernel) ⟨Nat.le_of_ble_eq_true rfl, Nat.le_of_ble_eq_true rfl⟩) ⟨PcR_fb, va_recv hK hP (ci := 0) (q0 := 46) rfl rfl, PcR_pre (va_seg hP 46 2 rfl) hK⟩ rfl rfl hl.1 rfl (lv_room (Nat.le_of_ble_eq_true rfl)) dX5_lays_22 ⟨Nat.zero_le _, Nat.zero_le _⟩) ?_
      refine lv_if_eq (tgt := 35) hx hb dX5_lays_25 (by decide) (fun c_23 => ?_) (fun c_23 => ?_)
      · skip
        have c_23b := bI_0 c_23
        refine lv_iconst (v := 0) hx hb dX5_lays_35 (by decide) ?_
        refine lv_istore_n (lv' := [(3, .int 0), (2, .ref (b 7 3)), (0, .ref (b 0 0)), (1, .int 3)]) hx hb dX5_lays_36 rfl hl (by decide) rfl (fun ls hl => ?_)
        refine lv_iconst (v := 0) hx hb dX5_lays_37 (by decide) ?_
        refine lv_istore (lv' := [(4, .int 0), (3, .int 0), (2, .ref (b 7 3)), (0, .ref (b 0 0)), (1, .int 3)]) hx hb dX5_lays_38 hl (by decide) rfl (fun ls hl => ?_)
        refine lpW (fun n (u : Nat × FI × Int32) H locs ls => (u.1 + n = 41) ∧ (u.1 ≤ ix (size 3) ∧ u.1 ≤ ix (sGu s1)) ∧ ((u.2.1, u.2.2) = lysF (num 3) (sEa s1) u.1) ∧ (okS (uEa s1 u.2.1) w1) ∧ va_P D vwCl (kcw cI cL cS b (uEa s1 u.2.1) w1 m1 n1 s2 w2 m2 n2 s3 w3 m3 n3 ik bt ln tk sb en nm bits size num fnd) H ∧ va_S A s.heap H locs ∧ lv_has ls 7 [(0, .ref (b 0 0)), (1, .int 3), (2, .ref (b 7 3)), (3, .int u.2.2), (4, .int (nI u.1))]) (41) ((0, (sEa s1), 0)) ⟨by omega, ⟨Nat.zero_le _, Nat.zero_le _⟩, rfl, o1, hP, hS, lv_sub hl [3, 4, 2, 1, 0] rfl⟩ (fun n ih u H locs ls hI => ?_)
        obtain ⟨i, ee, zz⟩ := u
        obtain ⟨hi0, hi1, hi2, hi3, hP, hS, hl⟩ := hI
        have hi0 : i + n = 41 := hi0
        have hi1 : i ≤ ix (size 3) ∧ i ≤ ix (sGu s1) := hi1
        have hi2 : (ee, zz) = lysF (num 3) (sEa s1) i := hi2
        have hi3 : okS (uEa s1 ee) w1 := hi3
        have hl : lv_has ls 7 [(0, .ref (b 0 0)), (1, .int 3), (2, .ref (b 7 3)), (3, .int zz), (4, .int (nI i))] := hl
        have hP : va_P D vwCl (kcw cI cL cS b (uEa s1 ee) w1 m1 n1 s2 w2 m2 n2 s3 w3 m3 n3 ik bt ln tk sb en nm bits size num fnd) H := hP
        have hix : ix (nI i) = i := ix_nI (by omega)
        refine lv_iload hx hb dX5_lays_40 (lv_at hl 4 rfl) ?_
        refine lv_aload_n hx hb dX5_lays_42 rfl (lv_at hl 2 rfl) ?_
        refine va_get (ci := 0) (v := .int (size 3)) (C := RX2) (T := TX2) (N := 3) hx hb hts inX2 hown hK hP 46 rfl rfl 1 (by decide) f189 (fun _ h9 => h9) rfl dX5_lays_43 ?_
        refine lv_icmp_ge (tgt := 110) hx hb dX5_lays_46 (by decide) (fun c_24 => ?_) (fun c_24 => ?_)
        · skip
          have c_24n := (cmp_le (a := ix (size 3)) (b := i) hz.1 rfl (by omega) (by omega)).mp c_24
          refine lv_iload_n hx hb dX5_lays_110 rfl (lv_at hl 3 rfl) ?_
          exact W.iret hx hb hr (fun t ht hW => ⟨⟨_, ((uEa s1 ee), fnd), rfl, (by exact ⟨((iF_t hs).trans ((iF_f c_23b).trans (lys_end hi2 (show min (ix (size 3)) (ix (sGu s1)) = i by omega)))).symm, hi3⟩), by dsimp only; rw [ht]; exact hP⟩, hS.F ht⟩) hS.2.2 dX5_lays_111
        · skip
          have c_24n := mt (cmp_le (a := ix (size 3)) (b := i) hz.1 rfl (by omega) (by omega)).mpr c_24
          refine lv_iload hx hb dX5_lays_49 (lv_at hl 4 rfl) ?_
          refine lv_aload_n hx hb dX5_lays_51 rfl (lv_at hl 0 rfl) ?_
          refine va_get (ci := 3) (v := .ref (b 1 0)) (C := RX5) (T := TX5) (N := 7) hx hb hts inX5 hown hK hP 0 rfl rfl 0 (by decide) f10 (fun _ h9 => h9) rfl dX5_lays_52 ?_
          refine va_get (ci := 1) (v := .int (sGu (uEa s1 ee))) (C := RX3) (T := TX3) (N := 13) hx hb hts inX3 hown hK hP 1 rfl rfl 5 (by decide) f89 (fun _ h9 => h9) rfl dX5_lays_55 ?_
          refine lv_icmp_ge (tgt := 110) hx hb dX5_lays_58 (by decide) (fun c_25 => ?_) (fun c_25 => ?_)
          · skip
            have c_25n := (cmp_le (a := ix (sGu s1)) (b := i) hgu.1 rfl (by omega) (by omega)).mp c_25
            refine lv_iload_n hx hb dX5_lays_110 rfl (lv_at hl 3 rfl) ?_
            exact W.iret hx hb hr (fun t ht hW => ⟨⟨_, ((uEa s1 ee), fnd), rfl, (by exact ⟨((iF_t hs).trans ((iF_f c_23b).trans (lys_end hi2 (show min (ix (size 3)) (ix (sGu s1)) = i by omega)))).symm, hi3⟩), by dsimp only; rw [ht]; exact hP⟩, hS.F ht⟩) hS.2.2 dX5_lays_111
          · skip
            have c_25n := mt (cmp_le (a := ix (sGu s1)) (b := i) hgu.1 rfl (by omega) (by omega)).mpr c_25
            refine lv_aload_n hx hb dX5_lays_61 rfl (lv_at hl 2 rfl) ?_
            refine va_get (ci := 0) (v := .ref (b 8 3)) (C := RX2) (T := TX2) (N := 3) hx hb hts inX2 hown hK hP 46 rfl rfl 2 (by decide) f198 (fun _ h9 => h9) rfl dX5_lays_62 ?_
            refine lv_iload hx hb dX5_lays_65 (lv_at hl 4 rfl) ?_
            refine va_lald hx hb hK hP 47 1 rfl rfl (vp_in_nI (by omega) (by omega)) dX5_lays_67 ?_
            refine lv_lstore (lv' := [(5, .long ((num 3) (ix (nI i)))), (0, .ref (b 0 0)), (1, .int 3), (2, .ref (b 7 3)), (3, .int zz), (4, .int (nI i))]) hx hb dX5_lays_68 hl (by decide) rfl (fun ls hl => ?_)
            refine lv_lload hx hb dX5_lays_70 (lv_at hl 0 rfl) ?_
            refine lv_ldc2 hx hb hown k218 dX5_lays_72 ?_
            refine W.lcmp hx hb dX5_lays_75 ?_
            refine lv_if_lt (tgt := 104) hx hb dX5_lays_76 (by decide) (fun c_26 => ?_) (fun c_26 => ?_)
            · skip
              have hv1 := (lg_cmp_lt _ _).mp c_26
              rw [hix] at hv1
              refine lv_iinc (v := nI (i + 1)) (lv' := [(4, .int (nI (i + 1))), (5, .long ((num 3) (ix (nI i)))), (0, .ref (b 0 0)), (1, .int 3), (2, .ref (b 7 3)), (3, .int zz)]) hx hb dX5_lays_104 hl (k := 5) rfl (nI_1 _) (by decide) rfl (fun ls hl => ?_)
              refine lv_goto (tgt := 40) hx hb dX5_lays_107 (by decide) ?_
              exact ih (n - 1) (by omega) ((i + 1, ee, zz)) H locs ls ⟨by omega, by omega, lys_f hi2 (fun h => h.1 hv1), hi3, hP, hS, lv_sub hl [2, 3, 4, 5, 0] rfl⟩
            · skip
              have hv1 := mt (lg_cmp_lt _ _).mpr c_26
              rw [hix] at hv1
              refine lv_lload hx hb dX5_lays_79 (lv_at hl 0 rfl) ?_
              refine lv_ldc2 hx hb hown k220 dX5_lays_81 ?_
              refine W.lcmp hx hb dX5_lays_84 ?_
              refine lv_if_gt (tgt := 104) hx hb dX5_lays_85 (by decide) (fun c_27 => ?_) (fun c_27 => ?_)
              · skip
                have hv2 := (lg_cmp_gt _ _).mp c_27
                rw [hix] at hv2
                refine lv_iinc (v := nI (i + 1)) (lv' := [(4, .int (nI (i + 1))), (5, .long ((num 3) (ix (nI i)))), (0, .ref (b 0 0)), (1, .int 3), (2, .ref (b 7 3)), (3, .int zz)]) hx hb dX5_lays_104 hl (k := 5) rfl (nI_1 _) (by decide) rfl (fun ls hl => ?_)
                refine lv_goto (tgt := 40) hx hb dX5_lays_107 (by decide) ?_
                exact ih (n - 1) (by omega) ((i + 1, ee, zz)) H locs ls ⟨by omega, by omega, lys_f hi2 (fun h => h.2 hv2), hi3, hP, hS, lv_sub hl [2, 3, 4, 5, 0] rfl⟩
              · skip
                have hv2 := mt (lg_cmp_gt _ _).mpr c_27
                rw [hix] at hv2
                refine lv_aload_n hx hb dX5_lays_88 rfl (lv_at hl 1 rfl) ?_
                refine va_get (ci := 3) (v := .ref (b 1 0)) (C := RX5) (T := TX5) (N := 7) hx hb hts inX5 hown hK hP 0 rfl rfl 0 (by decide) f10 (fun _ h9 => h9) rfl dX5_lays_89 ?_
                refine va_get (ci := 1) (v := .ref (b 1 7)) (C := RX3) (T := TX3) (N := 13) hx hb hts inX3 hown hK hP 1 rfl rfl 8 (by decide) f107 (fun _ h9 => h9) rfl dX5_lays_92 ?_
                refine lv_iload hx hb dX5_lays_95 (lv_at hl 5 rfl) ?_
                refine lv_lload hx hb dX5_lays_97 (lv_at hl 0 rfl) ?_
                refine lv_l2i (v := ((num 3) (ix (nI i))).toInt32) hx hb dX5_lays_99 rfl ?_
                refine va_iast hx hb hK hP (hD _ rfl) hS 8 0 rfl rfl (vp_in_nI (by omega) (by omega)) dX5_lays_100 (fun H locs hP _ hS => ?_)
                have hP : va_P D vwCl (kcw cI cL cS b (uEa (uEa s1 ee) (upd (sEa (uEa s1 ee)) (ix (nI i)) (((num 3) (ix (nI i))).toInt32))) w1 m1 n1 s2 w2 m2 n2 s3 w3 m3 n3 ik bt ln tk sb en nm bits size num fnd) H := hP
                refine lv_iinc (v := zz + 1) (lv' := [(3, .int (zz + 1)), (5, .long ((num 3) (ix (nI i)))), (0, .ref (b 0 0)), (1, .int 3), (2, .ref (b 7 3)), (4, .int (nI i))]) hx hb dX5_lays_101 hl (k := 4) rfl rfl (by decide) rfl (fun ls hl => ?_)
                refine lv_iinc (v := nI (i + 1)) (lv' := [(4, .int (nI (i + 1))), (3, .int (zz + 1)), (5, .long ((num 3) (ix (nI i)))), (0, .ref (b 0 0)), (1, .int 3), (2, .ref (b 7 3))]) hx hb dX5_lays_104 hl (k := 5) rfl (nI_1 _) (by decide) rfl (fun ls hl => ?_)
                refine lv_goto (tgt := 40) hx hb dX5_lays_107 (by decide) ?_
                have hP : va_P D vwCl (kcw cI cL cS b (uEa s1 (upd ee i ((num 3) i).toInt32)) w1 m1 n1 s2 w2 m2 n2 s3 w3 m3 n3 ik bt ln tk sb en nm bits size num fnd) H := by rw [hix] at hP; exact hP
                exact ih (n - 1) (by omega) ((i + 1, upd ee i ((num 3) i).toInt32, zz + 1)) H locs ls ⟨by omega, by omega, lys_t hi2 ⟨hv1, hv2⟩, ok_ea hi3 (l99 ⟨hv1, hv2⟩), hP, hS, lv_sub hl [3, 4, 5, 1, 0] rfl⟩
      · skip
        have c_23b := bI_n c_23
        refine lv_aload_n hx hb dX5_lays_28 rfl (lv_at hl 1 rfl) ?_
        refine lv_ldc hx hb hown k196 dX5_lays_29 ?_
        refine callMi (va_runV (As := [.int (-1000000006)]) (rest := []) ⟨hx, hb, hml, hown, hts⟩ (k_X5_found l D cI cL cS b s1 w1 m1 n1 s2 w2 m2 n2 s3 w3 m3 n3 ik bt ln tk sb en nm bits size num fnd (-1000000006) (va_DT (hD _ rfl) rfl) (vp_in_iff.mpr (by decide))) (cwV 1 hts gX5_lays_X5_found rfl rfl rfl (by decide +kernel) ⟨Nat.le_of_ble_eq_true rfl, Nat.le_of_ble_eq_true rfl⟩) ⟨PcR_fb, va_recv hK hP (ci := 3) (q0 := 0) rfl rfl, PcR_pre hP hK⟩ rfl rfl hl.1 rfl (lv_room (Nat.le_of_ble_eq_true rfl)) dX5_lays_31 ⟨Nat.zero_le _, Nat.zero_le _⟩) hP (hD _ rfl) hS 0 49 rfl (fun r_29 u_28 H locs hu_28 hP hS => ?_)
        obtain ⟨hu_28r, -⟩ := hu_28
        subst hu_28r
        have hP : va_P D vwCl (kcw cI cL cS b s1 w1 m1 n1 s2 w2 m2 n2 s3 w3 m3 n3 ik bt ln tk sb en nm bits size num (bump fnd (-1000000006))) H := hP
        exact W.iret hx hb hr (fun t ht hW => ⟨⟨_, (s1, bump fnd (-1000000006)), rfl, (by exact ⟨((iF_t hs).trans (iF_t c_23b)).symm, o1⟩), by dsimp only; rw [ht]; exact hP⟩, hS.F ht⟩) hS.2.2 dX5_lays_34
  · skip
    have c_1b := bI_0 c_1
    refine lv_aload_n hx hb dX5_lays_7 rfl (lv_at hl 0 rfl) ?_
    refine lv_ldc hx hb hown k52 dX5_lays_8 ?_
    refine callMi (va_runV (As := [.int (-1000000001)]) (rest := []) ⟨hx, hb, hml, hown, hts⟩ (k_X5_found l D cI cL cS b s1 w1 m1 n1 s2 w2 m2 n2 s3 w3 m3 n3 ik bt ln tk sb en nm bits size num fnd (-1000000001) (va_DT (hD _ rfl) rfl) (vp_in_iff.mpr (by decide))) (cwV 1 hts gX5_lays_X5_found rfl rfl rfl (by decide +kernel) ⟨Nat.le_of_ble_eq_true rfl, Nat.le_of_ble_eq_true rfl⟩) ⟨PcR_fb, va_recv hK hP (ci := 3) (q0 := 0) rfl rfl, PcR_pre hP hK⟩ rfl rfl hl.1 rfl (lv_room (Nat.le_of_ble_eq_true rfl)) dX5_lays_10 ⟨Nat.zero_le _, Nat.zero_le _⟩) hP (hD _ rfl) hS 0 49 rfl (fun r_31 u_30 H locs hu_30 hP hS => ?_)
    obtain ⟨hu_30r, -⟩ := hu_30
    subst hu_30r
    have hP : va_P D vwCl (kcw cI cL cS b s1 w1 m1 n1 s2 w2 m2 n2 s3 w3 m3 n3 ik bt ln tk sb en nm bits size num (bump fnd (-1000000001))) H := hP
    exact W.iret hx hb hr (fun t ht hW => ⟨⟨_, (s1, bump fnd (-1000000001)), rfl, (by exact ⟨(iF_f c_1b).symm, o1⟩), by dsimp only; rw [ht]; exact hP⟩, hS.F ht⟩) hS.2.2 dX5_lays_13
