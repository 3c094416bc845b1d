set_option maxRecDepth 100000 in
set_option maxHeartbeats 4000000 in
theorem k_X5_found (l : Launch) (D : va_G) (cI cL cS : ClassId) (b : Nat → Nat → Nat) (s1 : Sg) (w1 m1 n1 : FI) (s2 : Sg) (w2 m2 n2 : FI) (s3 : Sg) (w3 m3 n3 : FI) (ik : Int32) (bt : FI) (ln tk sb en nm : Int32) (bits size : FI) (num : Nat → FJ) (fnd : FI) (x0 : Int32) (dj : va_D (fun _ => True) (djk b)) (h0 : vp_in ((-1000000001) - x0) 7) : Met l yX5_found wsX5_found { frames := 0, cells := 0, slots := 0, locals := 0 } (PcR D vwCl (tyG cI cL cS) [.ref (b 0 0), .int x0] (kcw cI cL cS b s1 w1 m1 n1 s2 w2 m2 n2 s3 w3 m3 n3 ik bt ln tk sb en nm bits size num fnd)) (va_Qi (fun (r : Int32) (u : Unit) => r = x0 ∧ True) (fun u t => va_P D vwCl (kcw cI cL cS b s1 w1 m1 n1 s2 w2 m2 n2 s3 w3 m3 n3 ik bt ln tk sb en nm bits size num (bump fnd x0)) t.heap) (Aof (kcw cI cL cS b s1 w1 m1 n1 s2 w2 m2 n2 s3 w3 m3 n3 ik bt ln tk sb en nm bits size num fnd))) 0 0 (Aof (kcw cI cL cS b s1 w1 m1 n1 s2 w2 m2 n2 s3 w3 m3 n3 ik bt ln tk sb en nm bits size num fnd)) := by
  refine Met.ofW (cc := cX5_found) (maxL := 3) (ret := (some .int)) (by decide) rfl ?_
  intro p e s m args below meth c s₁ B hml hv
  obtain ⟨rfl, hP, hK⟩ := hv
  have hx := B.exec
  have hb := B.bytes
  have hr := B.returns
  have hts := atoms_spec (ws := wsX5_found) B.pre
  have hown : s.vm.findClass RX5 = some m.cls := findClass_of_methodNamed B.named
  have hlocks := B.notSynchronized
  obtain ⟨A, hAe⟩ : ∃ A, A = Aof (kcw cI cL cS b s1 w1 m1 n1 s2 w2 m2 n2 s3 w3 m3 n3 ik bt ln tk sb en nm bits size num fnd) := ⟨_, rfl⟩
  rw [← hAe]
  have hD : ∀ ws' : va_W, ws'.map Prod.fst = (kcw cI cL cS b s1 w1 m1 n1 s2 w2 m2 n2 s3 w3 m3 n3 ik bt ln tk sb en nm bits size num fnd).map Prod.fst → va_D A ws' := fun ws' e => by rw [hAe]; exact va_D_adr (va_D_self (va_D_adr dj rfl)) e
  have hS : va_S A s.heap s.heap [] := va_S.rf
  have hP : va_P D vwCl (kcw cI cL cS b s1 w1 m1 n1 s2 w2 m2 n2 s3 w3 m3 n3 ik bt ln tk sb en nm bits size num fnd) s.heap := hP
  have hl := lv_entry ([.ref (b 0 0), .int x0]) (n := 3) (Nat.le_of_ble_eq_true rfl)
  rw [lg_entry_eq]
  generalize (lg_sl ([.ref (b 0 0), .int x0]) ++ List.replicate (3 - (lg_sl ([.ref (b 0 0), .int x0])).length) Slot.unset).toArray = ls at hl ⊢
  have hl : lv_has ls 3 [(0, .ref (b 0 0)), (1, .int x0)] := hl
  have k52 := hts (.constant RX5 52 (-1000000001)) (List.mem_of_getElem? (i := 1) rfl)
  have f40 := hts (.fieldLink RX5 40 "KnivesLaid" "findings" "[I") (List.mem_of_getElem? (i := 2) rfl)
  have inX5 : ∀ w ∈ u_ws RX5 TX5 7, w ∈ wsX5_found := in_at 3 _ _ rfl
  skip
  refine lv_ldc hx hb hown k52 dX5_found_0 ?_
  refine lv_iload_n hx hb dX5_found_2 rfl (lv_at hl 1 rfl) ?_
  refine lv_isub hx hb dX5_found_3 ?_
  refine lv_istore_n (lv' := [(2, .int ((-1000000001) - x0)), (0, .ref (b 0 0)), (1, .int x0)]) hx hb dX5_found_4 rfl hl (by decide) rfl (fun ls hl => ?_)
  refine lv_iload_n hx hb dX5_found_5 rfl (lv_at hl 0 rfl) ?_
  refine lv_if_lt (tgt := 25) hx hb dX5_found_6 (by decide) (fun c_1 => ?_) (fun c_1 => ?_)
  · skip
    exact absurd c_1 ((in_iff (by decide)).mp h0).1
  · skip
    refine lv_iload_n hx hb dX5_found_9 rfl (lv_at hl 0 rfl) ?_
    refine lv_bipush (v := 7) hx hb dX5_found_10 (by decide) ?_
    refine lv_icmp_ge (tgt := 25) hx hb dX5_found_12 (by decide) (fun c_2 => ?_) (fun c_2 => ?_)
    · skip
      exact absurd c_2 ((in_iff (by decide)).mp h0).2
    · skip
      refine lv_aload_n hx hb dX5_found_15 rfl (lv_at hl 1 rfl) ?_
      refine va_get (ci := 3) (v := .ref (b 9 0)) (C := RX5) (T := TX5) (N := 7) hx hb hts inX5 hown hK hP 0 rfl rfl 6 (by decide) f40 (fun _ h9 => h9) rfl dX5_found_16 ?_
      refine lv_iload_n hx hb dX5_found_19 rfl (lv_at hl 0 rfl) ?_
      refine lv_dup2_11 hx hb dX5_found_20 rfl rfl ?_
      refine va_iald hx hb hK hP 48 0 rfl rfl h0 dX5_found_21 ?_
      refine lv_iconst (v := 1) hx hb dX5_found_22 (by decide) ?_
      refine lv_iadd hx hb dX5_found_23 ?_
      refine va_iast hx hb hK hP (hD _ rfl) hS 48 0 rfl rfl h0 dX5_found_24 (fun H locs hP _ hS => ?_)
      have hP : va_P D vwCl (kcw cI cL cS b s1 w1 m1 n1 s2 w2 m2 n2 s3 w3 m3 n3 ik bt ln tk sb en nm bits size num (upd fnd (ix ((-1000000001) - x0)) ((fnd (ix ((-1000000001) - x0))) + 1))) H := hP
      refine lv_iload_n hx hb dX5_found_25 rfl (lv_at hl 2 rfl) ?_
      exact W.iret hx hb hr (fun t ht hW => ⟨⟨_, (), rfl, (by exact ⟨rfl, trivial⟩), by dsimp only; rw [ht]; exact hP⟩, hS.F ht⟩) hS.2.2 dX5_found_26

set_option maxRecDepth 100000 in
set_option maxHeartbeats 4000000 in
theorem k_X5_lay (l : Launch) (D : va_G) (cI cL cS : ClassId) (b : Nat → Nat → Nat) (s1 : Sg) (w1 m1 n1 : FI) (s2 : Sg) (w2 m2 n2 : FI) (s3 : Sg) (w3 m3 n3 : FI) (ik : Int32) (bt : FI) (ln tk sb en nm : Int32) (bits size : FI) (num : Nat → FJ) (fnd : FI) (x0 : Int32) (x1 : Int32) (x2 : Int32) (dj : va_D (fun _ => True) (djk b)) (o1 : okS s1 w1) : Met l yX5_lay wsX5_lay { frames := 1, cells := 0, slots := 0, locals := 22 } (PcR D vwCl (tyG cI cL cS) [.ref (b 0 0), .int x0, .int x1, .int x2] (kcw cI cL cS b s1 w1 m1 n1 s2 w2 m2 n2 s3 w3 m3 n3 ik bt ln tk sb en nm bits size num fnd)) (va_Qi (fun (r : Int32) (u : Sg × FI) => (r, u.1, u.2) = sLay s1 fnd x0 x1 x2 ∧ okS u.1 w1) (fun u t => va_P D vwCl (kcw cI cL cS b u.1 w1 m1 n1 s2 w2 m2 n2 s3 w3 m3 n3 ik bt ln tk sb en nm bits size num u.2) t.heap) (Aof (kcw cI cL cS b s1 w1 m1 n1 s2 w2 m2 n2 s3 w3 m3 n3 ik bt ln tk sb en nm bits size num fnd))) 0 0 (Aof (kcw cI cL cS b s1 w1 m1 n1 s2 w2 m2 n2 s3 w3 m3 n3 ik bt ln tk sb en nm bits size num fnd)) := by
  refine Met.ofW (cc := cX5_lay) (maxL := 6) (ret := (some .int)) (by decide) rfl ?_
  intro p e s m args below meth c s₁ B hml hv
  obtain ⟨rfl, hP, hK⟩ := hv
  have hx := B.exec
  have hb := B.bytes
  have hr := B.returns
  have hts := atoms_spec (ws := wsX5_lay) B.pre
  have hown : s.vm.findClass RX5 = some m.cls := findClass_of_methodNamed B.named
  have hlocks := B.notSynchronized
  obtain ⟨A, hAe⟩ : ∃ A, A = Aof (kcw cI cL cS b s1 w1 m1 n1 s2 w2 m2 n2 s3 w3 m3 n3 ik bt ln tk sb en nm bits size num fnd) := ⟨_, rfl⟩
  rw [← hAe]
  have hD : ∀ ws' : va_W, ws'.map Prod.fst = (kcw cI cL cS b s1 w1 m1 n1 s2 w2 m2 n2 s3 w3 m3 n3 ik bt ln tk sb en nm bits size num fnd).map Prod.fst → va_D A ws' := fun ws' e => by rw [hAe]; exact va_D_adr (va_D_self (va_D_adr dj rfl)) e
  have hS : va_S A s.heap s.heap [] := va_S.rf
  have hP : va_P D vwCl (kcw cI cL cS b s1 w1 m1 n1 s2 w2 m2 n2 s3 w3 m3 n3 ik bt ln tk sb en nm bits size num fnd) s.heap := hP
  have hl := lv_entry ([.ref (b 0 0), .int x0, .int x1, .int x2]) (n := 6) (Nat.le_of_ble_eq_true rfl)
  rw [lg_entry_eq]
  generalize (lg_sl ([.ref (b 0 0), .int x0, .int x1, .int x2]) ++ List.replicate (6 - (lg_sl ([.ref (b 0 0), .int x0, .int x1, .int x2])).length) Slot.unset).toArray = ls at hl ⊢
  have hl : lv_has ls 6 [(0, .ref (b 0 0)), (1, .int x0), (2, .int x1), (3, .int x2)] := hl
  have k52 := hts (.constant RX5 52 (-1000000001)) (List.mem_of_getElem? (i := 1) rfl)
  have f10 := hts (.fieldLink RX5 10 "KnivesLaid" "table" "LKnivesLaid$Table;") (List.mem_of_getElem? (i := 2) rfl)
  have inX5 : ∀ w ∈ u_ws RX5 TX5 7, w ∈ wsX5_lay := in_at 18 _ _ rfl
  have f57 := hts (.fieldLink RX5 57 "KnivesLaid$Table" "knives" "[I") (List.mem_of_getElem? (i := 3) rfl)
  have inX3 : ∀ w ∈ u_ws RX3 TX3 13, w ∈ wsX5_lay := in_at 25 _ _ rfl
  have f60 := hts (.fieldLink RX5 60 "KnivesLaid$Table" "forks" "[I") (List.mem_of_getElem? (i := 4) rfl)
  have f63 := hts (.fieldLink RX5 63 "KnivesLaid$Table" "spoons" "[I") (List.mem_of_getElem? (i := 5) rfl)
  skip
  refine lv_iload_n hx hb dX5_lay_0 rfl (lv_at hl 1 rfl) ?_
  refine callE (W.runS (As := [.int x0]) (rest := []) ⟨hx, hb, hml, hown, hts⟩ (k_X5_isPlace l x0) (va_cwS 1 hts gX5_lay_X5_isPlace rfl rfl rfl (by decide +kernel) ⟨Nat.le_of_ble_eq_true rfl, Nat.le_of_ble_eq_true rfl⟩) ⟨PcP_fb, fun U _ _ => ⟨rfl, trivial⟩⟩ rfl rfl hl.1 rfl (lv_room (Nat.le_of_ble_eq_true rfl)) dX5_lay_1 ⟨Nat.zero_le _, Nat.zero_le _⟩) ?_
  refine lv_if_eq (tgt := 35) hx hb dX5_lay_4 (by decide) (fun c_1 => ?_) (fun c_1 => ?_)
  · skip
    have c_1b := bI_0 c_1
    refine lv_aload_n hx hb dX5_lay_35 rfl (lv_at hl 0 rfl) ?_
    refine lv_ldc hx hb hown k52 dX5_lay_36 ?_
    refine callMi (va_runV (As := [.int (-1000000001)]) (rest := []) ⟨hx, hb, hml, hown, hts⟩ (k_X5_found l D cI cL cS b s1 w1 m1 n1 s2 w2 m2 n2 s3 w3 m3 n3 ik bt ln tk sb en nm bits size num fnd (-1000000001) (va_DT (hD _ rfl) rfl) (vp_in_iff.mpr (by decide))) (cwV 1 hts gX5_lay_X5_found rfl rfl rfl (by decide +kernel) ⟨Nat.le_of_ble_eq_true rfl, Nat.le_of_ble_eq_true rfl⟩) ⟨PcR_fb, va_recv hK hP (ci := 3) (q0 := 0) rfl rfl, PcR_pre hP hK⟩ rfl rfl hl.1 rfl (lv_room (Nat.le_of_ble_eq_true rfl)) dX5_lay_38 ⟨Nat.zero_le _, Nat.zero_le _⟩) hP (hD _ rfl) hS 0 49 rfl (fun r_3 u_2 H locs hu_2 hP hS => ?_)
    obtain ⟨hu_2r, -⟩ := hu_2
    subst hu_2r
    have hP : va_P D vwCl (kcw cI cL cS b s1 w1 m1 n1 s2 w2 m2 n2 s3 w3 m3 n3 ik bt ln tk sb en nm bits size num (bump fnd (-1000000001))) H := hP
    exact W.iret hx hb hr (fun t ht hW => ⟨⟨_, (s1, bump fnd (-1000000001)), rfl, (by exact ⟨by exact (iF_f (fun h => by first | exact absurd h.1 c_1b | exact absurd c_1b h.1 | exact absurd h.2.1.1 c_1b | exact absurd c_1b h.2.1.1 | exact absurd h.2.1.2 c_1b | exact absurd c_1b h.2.1.2 | exact absurd h.2.2 c_1b | exact absurd c_1b h.2.2)).symm, o1⟩), by dsimp only; rw [ht]; exact hP⟩, hS.F ht⟩) hS.2.2 dX5_lay_41
  · skip
    have c_1b := bI_n c_1
    have hp : vp_in x0 10 := c_1b
    refine lv_iload_n hx hb dX5_lay_7 rfl (lv_at hl 2 rfl) ?_
    refine lv_if_lt (tgt := 35) hx hb dX5_lay_8 (by decide) (fun c_4 => ?_) (fun c_4 => ?_)
    · skip
      refine lv_aload_n hx hb dX5_lay_35 rfl (lv_at hl 0 rfl) ?_
      refine lv_ldc hx hb hown k52 dX5_lay_36 ?_
      refine callMi (va_runV (As := [.int (-1000000001)]) (rest := []) ⟨hx, hb, hml, hown, hts⟩ (k_X5_found l D cI cL cS b s1 w1 m1 n1 s2 w2 m2 n2 s3 w3 m3 n3 ik bt ln tk sb en nm bits size num fnd (-1000000001) (va_DT (hD _ rfl) rfl) (vp_in_iff.mpr (by decide))) (cwV 1 hts gX5_lay_X5_found rfl rfl rfl (by decide +kernel) ⟨Nat.le_of_ble_eq_true rfl, Nat.le_of_ble_eq_true rfl⟩) ⟨PcR_fb, va_recv hK hP (ci := 3) (q0 := 0) rfl rfl, PcR_pre hP hK⟩ rfl rfl hl.1 rfl (lv_room (Nat.le_of_ble_eq_true rfl)) dX5_lay_38 ⟨Nat.zero_le _, Nat.zero_le _⟩) hP (hD _ rfl) hS 0 49 rfl (fun r_6 u_5 H locs hu_5 hP hS => ?_)
      obtain ⟨hu_5r, -⟩ := hu_5
      subst hu_5r
      have hP : va_P D vwCl (kcw cI cL cS b s1 w1 m1 n1 s2 w2 m2 n2 s3 w3 m3 n3 ik bt ln tk sb en nm bits size num (bump fnd (-1000000001))) H := hP
      exact W.iret hx hb hr (fun t ht hW => ⟨⟨_, (s1, bump fnd (-1000000001)), rfl, (by exact ⟨by exact (iF_f (fun h => by first | exact absurd h.1 c_4 | exact absurd c_4 h.1 | exact absurd h.2.1.1 c_4 | exact absurd c_4 h.2.1.1 | exact absurd h.2.1.2 c_4 | exact absurd c_4 h.2.1.2 | exact absurd h.2.2 c_4 | exact absurd c_4 h.2.2)).symm, o1⟩), by dsimp only; rw [ht]; exact hP⟩, hS.F ht⟩) hS.2.2 dX5_lay_41
    · skip
      refine lv_iload_n hx hb dX5_lay_11 rfl (lv_at hl 2 rfl) ?_
      refine lv_iconst (v := 2) hx hb dX5_lay_12 (by decide) ?_
      refine lv_icmp_gt (tgt := 35) hx hb dX5_lay_13 (by decide) (fun c_7 => ?_) (fun c_7 => ?_)
      · skip
        refine lv_aload_n hx hb dX5_lay_35 rfl (lv_at hl 0 rfl) ?_
        refine lv_ldc hx hb hown k52 dX5_lay_36 ?_
        refine callMi (va_runV (As := [.int (-1000000001)]) (rest := []) ⟨hx, hb, hml, hown, hts⟩ (k_X5_found l D cI cL cS b s1 w1 m1 n1 s2 w2 m2 n2 s3 w3 m3 n3 ik bt ln tk sb en nm bits size num fnd (-1000000001) (va_DT (hD _ rfl) rfl) (vp_in_iff.mpr (by decide))) (cwV 1 hts gX5_lay_X5_found rfl rfl rfl (by decide +kernel) ⟨Nat.le_of_ble_eq_true rfl, Nat.le_of_ble_eq_true rfl⟩) ⟨PcR_fb, va_recv hK hP (ci := 3) (q0 := 0) rfl rfl, PcR_pre hP hK⟩ rfl rfl hl.1 rfl (lv_room (Nat.le_of_ble_eq_true rfl)) dX5_lay_38 ⟨Nat.zero_le _, Nat.zero_le _⟩) hP (hD _ rfl) hS 0 49 rfl (fun r_9 u_8 H locs hu_8 hP hS => ?_)
        obtain ⟨hu_8r, -⟩ := hu_8
        subst hu_8r
        have hP : va_P D vwCl (kcw cI cL cS b s1 w1 m1 n1 s2 w2 m2 n2 s3 w3 m3 n3 ik bt ln tk sb en nm bits size num (bump fnd (-1000000001))) H := hP
        exact W.iret hx hb hr (fun t ht hW => ⟨⟨_, (s1, bump fnd (-1000000001)), rfl, (by exact ⟨by exact (iF_f (fun h => by first | exact absurd h.1 c_7 | exact absurd c_7 h.1 | exact absurd h.2.1.1 c_7 | exact absurd c_7 h.2.1.1 | exact absurd h.2.1.2 c_7 | exact absurd c_7 h.2.1.2 | exact absurd h.2.2 c_7 | exact absurd c_7 h.2.2)).symm, o1⟩), by dsimp only; rw [ht]; exact hP⟩, hS.F ht⟩) hS.2.2 dX5_lay_41
      · skip
        refine lv_iload_n hx hb dX5_lay_16 rfl (lv_at hl 3 rfl) ?_
        refine lv_iconst (v := 0) hx hb dX5_lay_17 (by decide) ?_
        refine lv_iload_n hx hb dX5_lay_18 rfl (lv_at hl 2 rfl) ?_
        refine lv_iconst (v := 2) hx hb dX5_lay_19 (by decide) ?_
        refine jn (fun v_10 : Int32 => v_10 = (if x1 = 2 then 9 else 1 : Int32)) (fun v_10 => F0 m 29 ls [.int v_10, .int 0, .int x2]) (fun Jv_10 => ?_) (fun v_10 ev_10 => ?_)
        · skip
          refine lv_icmp_ne (tgt := 28) hx hb dX5_lay_20 (by decide) (fun c_11 => ?_) (fun c_11 => ?_)
          · skip
            refine lv_iconst (v := 1) hx hb dX5_lay_28 (by decide) ?_
            exact Jv_10 _ (by rw [if_neg c_11])
          · skip
            refine lv_bipush (v := 9) hx hb dX5_lay_23 (by decide) ?_
            refine lv_goto (tgt := 29) hx hb dX5_lay_25 (by decide) ?_
            exact Jv_10 _ (by rw [if_pos c_11])
        subst ev_10
        refine callE (W.runS (As := [.int x2, .int 0, .int (if x1 = 2 then 9 else 1 : Int32)]) (rest := []) ⟨hx, hb, hml, hown, hts⟩ (k_X5_within l x2 0 (if x1 = 2 then 9 else 1 : Int32)) (va_cwS 3 hts gX5_lay_X5_within rfl rfl rfl (by decide +kernel) ⟨Nat.le_of_ble_eq_true rfl, Nat.le_of_ble_eq_true rfl⟩) ⟨PcP_fb, fun U _ _ => ⟨rfl, trivial⟩⟩ rfl rfl hl.1 rfl (lv_room (Nat.le_of_ble_eq_true rfl)) dX5_lay_29 ⟨Nat.zero_le _, Nat.zero_le _⟩) ?_
        refine lv_if_ne (tgt := 42) hx hb dX5_lay_32 (by decide) (fun c_12 => ?_) (fun c_12 => ?_)
        · skip
          have c_12b := bI_n c_12
          refine lv_iload_n hx hb dX5_lay_42 rfl (lv_at hl 2 rfl) ?_
          refine lv_if_ne (tgt := 56) hx hb dX5_lay_43 (by decide) (fun c_13 => ?_) (fun c_13 => ?_)
          · skip
            refine lv_iload_n hx hb dX5_lay_56 rfl (lv_at hl 2 rfl) ?_
            refine lv_iconst (v := 1) hx hb dX5_lay_57 (by decide) ?_
            refine lv_icmp_ne (tgt := 71) hx hb dX5_lay_58 (by decide) (fun c_14 => ?_) (fun c_14 => ?_)
            · skip
              refine lv_aload_n hx hb dX5_lay_71 rfl (lv_at hl 0 rfl) ?_
              refine va_get (ci := 3) (v := .ref (b 1 0)) (C := RX5) (T := TX5) (N := 7) hx hb hts inX5 hown hK hP 0 rfl rfl 0 (by decide) f10 (fun _ h9 => h9) rfl dX5_lay_72 ?_
              refine va_get (ci := 1) (v := .ref (b 1 3)) (C := RX3) (T := TX3) (N := 13) hx hb hts inX3 hown hK hP 1 rfl rfl 3 (by decide) f63 (fun _ h9 => h9) rfl dX5_lay_75 ?_
              refine lv_astore (lv' := [(4, .ref (b 1 3)), (0, .ref (b 0 0)), (1, .int x0), (2, .int x1), (3, .int x2)]) hx hb dX5_lay_78 hl (by decide) rfl (fun ls hl => ?_)
              refine lv_aload hx hb dX5_lay_80 (lv_at hl 0 rfl) ?_
              refine lv_iload_n hx hb dX5_lay_82 rfl (lv_at hl 2 rfl) ?_
              refine va_iald hx hb hK hP 4 0 rfl rfl (by assumption) dX5_lay_83 ?_
              refine lv_istore (lv' := [(5, .int ((sSp s1) (ix x0))), (4, .ref (b 1 3)), (0, .ref (b 0 0)), (1, .int x0), (2, .int x1), (3, .int x2)]) hx hb dX5_lay_84 hl (by decide) rfl (fun ls hl => ?_)
              refine lv_aload hx hb dX5_lay_86 (lv_at hl 1 rfl) ?_
              refine lv_iload_n hx hb dX5_lay_88 rfl (lv_at hl 3 rfl) ?_
              refine lv_iload_n hx hb dX5_lay_89 rfl (lv_at hl 5 rfl) ?_
              refine va_iast hx hb hK hP (hD _ rfl) hS 4 0 rfl rfl (by assumption) dX5_lay_90 (fun H locs hP _ hS => ?_)
              have hP : va_P D vwCl (kcw cI cL cS b (uSp s1 (upd (sSp s1) (ix x0) x2)) w1 m1 n1 s2 w2 m2 n2 s3 w3 m3 n3 ik bt ln tk sb en nm bits size num fnd) H := hP
              refine lv_iload hx hb dX5_lay_91 (lv_at hl 0 rfl) ?_
              exact W.iret hx hb hr (fun t ht hW => ⟨⟨_, ((uSp s1 (upd (sSp s1) (ix x0) x2)), fnd), rfl, (by exact ⟨by unfold sLay; rw [iF_t ⟨c_1b, ⟨c_4, c_7⟩, c_12b⟩]; simp [c_13, c_14], ok_sp o1 ((lay_v c_12b).2 (lay_2 c_4 c_7 c_13 c_14))⟩), by dsimp only; rw [ht]; exact hP⟩, hS.F ht⟩) hS.2.2 dX5_lay_93
            · skip
              refine lv_aload_n hx hb dX5_lay_61 rfl (lv_at hl 0 rfl) ?_
              refine va_get (ci := 3) (v := .ref (b 1 0)) (C := RX5) (T := TX5) (N := 7) hx hb hts inX5 hown hK hP 0 rfl rfl 0 (by decide) f10 (fun _ h9 => h9) rfl dX5_lay_62 ?_
              refine va_get (ci := 1) (v := .ref (b 1 2)) (C := RX3) (T := TX3) (N := 13) hx hb hts inX3 hown hK hP 1 rfl rfl 2 (by decide) f60 (fun _ h9 => h9) rfl dX5_lay_65 ?_
              refine lv_goto (tgt := 78) hx hb dX5_lay_68 (by decide) ?_
              refine lv_astore (lv' := [(4, .ref (b 1 2)), (0, .ref (b 0 0)), (1, .int x0), (2, .int x1), (3, .int x2)]) hx hb dX5_lay_78 hl (by decide) rfl (fun ls hl => ?_)
              refine lv_aload hx hb dX5_lay_80 (lv_at hl 0 rfl) ?_
              refine lv_iload_n hx hb dX5_lay_82 rfl (lv_at hl 2 rfl) ?_
              refine va_iald hx hb hK hP 3 0 rfl rfl (by assumption) dX5_lay_83 ?_
              refine lv_istore (lv' := [(5, .int ((sFo s1) (ix x0))), (4, .ref (b 1 2)), (0, .ref (b 0 0)), (1, .int x0), (2, .int x1), (3, .int x2)]) hx hb dX5_lay_84 hl (by decide) rfl (fun ls hl => ?_)
              refine lv_aload hx hb dX5_lay_86 (lv_at hl 1 rfl) ?_
              refine lv_iload_n hx hb dX5_lay_88 rfl (lv_at hl 3 rfl) ?_
              refine lv_iload_n hx hb dX5_lay_89 rfl (lv_at hl 5 rfl) ?_
              refine va_iast hx hb hK hP (hD _ rfl) hS 3 0 rfl rfl (by assumption) dX5_lay_90 (fun H locs hP _ hS => ?_)
              have hP : va_P D vwCl (kcw cI cL cS b (uFo s1 (upd (sFo s1) (ix x0) x2)) w1 m1 n1 s2 w2 m2 n2 s3 w3 m3 n3 ik bt ln tk sb en nm bits size num fnd) H := hP
              refine lv_iload hx hb dX5_lay_91 (lv_at hl 0 rfl) ?_
              exact W.iret hx hb hr (fun t ht hW => ⟨⟨_, ((uFo s1 (upd (sFo s1) (ix x0) x2)), fnd), rfl, (by exact ⟨by unfold sLay; rw [iF_t ⟨c_1b, ⟨c_4, c_7⟩, c_12b⟩]; simp [c_13, c_14], ok_fo o1 ((lay_v c_12b).1 (by rw [c_14]; decide))⟩), by dsimp only; rw [ht]; exact hP⟩, hS.F ht⟩) hS.2.2 dX5_lay_93
          · skip
            refine lv_aload_n hx hb dX5_lay_46 rfl (lv_at hl 0 rfl) ?_
            refine va_get (ci := 3) (v := .ref (b 1 0)) (C := RX5) (T := TX5) (N := 7) hx hb hts inX5 hown hK hP 0 rfl rfl 0 (by decide) f10 (fun _ h9 => h9) rfl dX5_lay_47 ?_
            refine va_get (ci := 1) (v := .ref (b 1 1)) (C := RX3) (T := TX3) (N := 13) hx hb hts inX3 hown hK hP 1 rfl rfl 1 (by decide) f57 (fun _ h9 => h9) rfl dX5_lay_50 ?_
            refine lv_goto (tgt := 78) hx hb dX5_lay_53 (by decide) ?_
            refine lv_astore (lv' := [(4, .ref (b 1 1)), (0, .ref (b 0 0)), (1, .int x0), (2, .int x1), (3, .int x2)]) hx hb dX5_lay_78 hl (by decide) rfl (fun ls hl => ?_)
            refine lv_aload hx hb dX5_lay_80 (lv_at hl 0 rfl) ?_
            refine lv_iload_n hx hb dX5_lay_82 rfl (lv_at hl 2 rfl) ?_
            refine va_iald hx hb hK hP 2 0 rfl rfl (by assumption) dX5_lay_83 ?_
            refine lv_istore (lv' := [(5, .int ((sKn s1) (ix x0))), (4, .ref (b 1 1)), (0, .ref (b 0 0)), (1, .int x0), (2, .int x1), (3, .int x2)]) hx hb dX5_lay_84 hl (by decide) rfl (fun ls hl => ?_)
            refine lv_aload hx hb dX5_lay_86 (lv_at hl 1 rfl) ?_
            refine lv_iload_n hx hb dX5_lay_88 rfl (lv_at hl 3 rfl) ?_
            refine lv_iload_n hx hb dX5_lay_89 rfl (lv_at hl 5 rfl) ?_
            refine va_iast hx hb hK hP (hD _ rfl) hS 2 0 rfl rfl (by assumption) dX5_lay_90 (fun H locs hP _ hS => ?_)
            have hP : va_P D vwCl (kcw cI cL cS b (uKn s1 (upd (sKn s1) (ix x0) x2)) w1 m1 n1 s2 w2 m2 n2 s3 w3 m3 n3 ik bt ln tk sb en nm bits size num fnd) H := hP
            refine lv_iload hx hb dX5_lay_91 (lv_at hl 0 rfl) ?_
            exact W.iret hx hb hr (fun t ht hW => ⟨⟨_, ((uKn s1 (upd (sKn s1) (ix x0) x2)), fnd), rfl, (by exact ⟨by unfold sLay; rw [iF_t ⟨c_1b, ⟨c_4, c_7⟩, c_12b⟩]; simp [c_13], ok_kn o1 ((lay_v c_12b).1 (by rw [c_13]; decide))⟩), by dsimp only; rw [ht]; exact hP⟩, hS.F ht⟩) hS.2.2 dX5_lay_93
        · skip
          have c_12b := bI_0 c_12
          refine lv_aload_n hx hb dX5_lay_35 rfl (lv_at hl 0 rfl) ?_
          refine lv_ldc hx hb hown k52 dX5_lay_36 ?_
          refine callMi (va_runV (As := [.int (-1000000001)]) (rest := []) ⟨hx, hb, hml, hown, hts⟩ (k_X5_found l D cI cL cS b s1 w1 m1 n1 s2 w2 m2 n2 s3 w3 m3 n3 ik bt ln tk sb en nm bits size num fnd (-1000000001) (va_DT (hD _ rfl) rfl) (vp_in_iff.mpr (by decide))) (cwV 1 hts gX5_lay_X5_found rfl rfl rfl (by decide +kernel) ⟨Nat.le_of_ble_eq_true rfl, Nat.le_of_ble_eq_true rfl⟩) ⟨PcR_fb, va_recv hK hP (ci := 3) (q0 := 0) rfl rfl, PcR_pre hP hK⟩ rfl rfl hl.1 rfl (lv_room (Nat.le_of_ble_eq_true rfl)) dX5_lay_38 ⟨Nat.zero_le _, Nat.zero_le _⟩) hP (hD _ rfl) hS 0 49 rfl (fun r_16 u_15 H locs hu_15 hP hS => ?_)
          obtain ⟨hu_15r, -⟩ := hu_15
          subst hu_15r
          have hP : va_P D vwCl (kcw cI cL cS b s1 w1 m1 n1 s2 w2 m2 n2 s3 w3 m3 n3 ik bt ln tk sb en nm bits size num (bump fnd (-1000000001))) H := hP
          exact W.iret hx hb hr (fun t ht hW => ⟨⟨_, (s1, bump fnd (-1000000001)), rfl, (by exact ⟨by exact (iF_f (fun h => by first | exact absurd h.1 c_12b | exact absurd c_12b h.1 | exact absurd h.2.1.1 c_12b | exact absurd c_12b h.2.1.1 | exact absurd h.2.1.2 c_12b | exact absurd c_12b h.2.1.2 | exact absurd h.2.2 c_12b | exact absurd c_12b h.2.2)).symm, o1⟩), by dsimp only; rw [ht]; exact hP⟩, hS.F ht⟩) hS.2.2 dX5_lay_41

set_option maxRecDepth 100000 in
set_option maxHeartbeats 4000000 in
theorem k_X5_place (l : Launch) (D : va_G) (cI cL cS : ClassId) (b : Nat → Nat → Nat) (s1 : Sg) (w1 m1 n1 : FI) (s2 : Sg) (w2 m2 n2 : FI) (s3 : Sg) (w3 m3 n3 : FI) (ik : Int32) (bt : FI) (ln tk sb en nm : Int32) (bits size : FI) (num : Nat → FJ) (fnd : FI) (x0 : Int32) (x1 : Int32) (dj : va_D (fun _ => True) (djk b)) (o1 : okS s1 w1) : Met l yX5_place wsX5_place { frames := 1, cells := 0, slots := 0, locals := 22 } (PcR D vwCl (tyG cI cL cS) [.ref (b 0 0), .int x0, .int x1] (kcw cI cL cS b s1 w1 m1 n1 s2 w2 m2 n2 s3 w3 m3 n3 ik bt ln tk sb en nm bits size num fnd)) (va_Qi (fun (r : Int32) (u : FI) => (r, u) = sPlace s1 fnd x0 x1) (fun u t => va_P D vwCl (kcw cI cL cS b s1 w1 m1 n1 s2 w2 m2 n2 s3 w3 m3 n3 ik bt ln tk sb en nm bits size num u) t.heap) (Aof (kcw cI cL cS b s1 w1 m1 n1 s2 w2 m2 n2 s3 w3 m3 n3 ik bt ln tk sb en nm bits size num fnd))) 0 0 (Aof (kcw cI cL cS b s1 w1 m1 n1 s2 w2 m2 n2 s3 w3 m3 n3 ik bt ln tk sb en nm bits size num fnd)) := by
  refine Met.ofW (cc := cX5_place) (maxL := 3) (ret := (some .int)) (by decide) rfl ?_
  intro p e s m args below meth c s₁ B hml hv
  obtain ⟨rfl, hP, hK⟩ := hv
  have hx := B.exec
  have hb := B.bytes
  have hr := B.returns
  have hts := atoms_spec (ws := wsX5_place) B.pre
  have hown : s.vm.findClass RX5 = some m.cls := findClass_of_methodNamed B.named
  have hlocks := B.notSynchronized
  obtain ⟨A, hAe⟩ : ∃ A, A = Aof (kcw cI cL cS b s1 w1 m1 n1 s2 w2 m2 n2 s3 w3 m3 n3 ik bt ln tk sb en nm bits size num fnd) := ⟨_, rfl⟩
  rw [← hAe]
  have hD : ∀ ws' : va_W, ws'.map Prod.fst = (kcw cI cL cS b s1 w1 m1 n1 s2 w2 m2 n2 s3 w3 m3 n3 ik bt ln tk sb en nm bits size num fnd).map Prod.fst → va_D A ws' := fun ws' e => by rw [hAe]; exact va_D_adr (va_D_self (va_D_adr dj rfl)) e
  have hS : va_S A s.heap s.heap [] := va_S.rf
  have hP : va_P D vwCl (kcw cI cL cS b s1 w1 m1 n1 s2 w2 m2 n2 s3 w3 m3 n3 ik bt ln tk sb en nm bits size num fnd) s.heap := hP
  have hl := lv_entry ([.ref (b 0 0), .int x0, .int x1]) (n := 3) (Nat.le_of_ble_eq_true rfl)
  rw [lg_entry_eq]
  generalize (lg_sl ([.ref (b 0 0), .int x0, .int x1]) ++ List.replicate (3 - (lg_sl ([.ref (b 0 0), .int x0, .int x1])).length) Slot.unset).toArray = ls at hl ⊢
  have hl : lv_has ls 3 [(0, .ref (b 0 0)), (1, .int x0), (2, .int x1)] := hl
  have f10 := hts (.fieldLink RX5 10 "KnivesLaid" "table" "LKnivesLaid$Table;") (List.mem_of_getElem? (i := 2) rfl)
  have inX5 : ∀ w ∈ u_ws RX5 TX5 7, w ∈ wsX5_place := in_at 16 _ _ rfl
  have f57 := hts (.fieldLink RX5 57 "KnivesLaid$Table" "knives" "[I") (List.mem_of_getElem? (i := 3) rfl)
  have inX3 : ∀ w ∈ u_ws RX3 TX3 13, w ∈ wsX5_place := in_at 23 _ _ rfl
  have f60 := hts (.fieldLink RX5 60 "KnivesLaid$Table" "forks" "[I") (List.mem_of_getElem? (i := 4) rfl)
  have f63 := hts (.fieldLink RX5 63 "KnivesLaid$Table" "spoons" "[I") (List.mem_of_getElem? (i := 5) rfl)
  have f66 := hts (.fieldLink RX5 66 "KnivesLaid$Table" "who" "[I") (List.mem_of_getElem? (i := 6) rfl)
  have k52 := hts (.constant RX5 52 (-1000000001)) (List.mem_of_getElem? (i := 1) rfl)
  skip
  refine lv_iload_n hx hb dX5_place_0 rfl (lv_at hl 1 rfl) ?_
  refine callE (W.runS (As := [.int x0]) (rest := []) ⟨hx, hb, hml, hown, hts⟩ (k_X5_isPlace l x0) (va_cwS 1 hts gX5_place_X5_isPlace rfl rfl rfl (by decide +kernel) ⟨Nat.le_of_ble_eq_true rfl, Nat.le_of_ble_eq_true rfl⟩) ⟨PcP_fb, fun U _ _ => ⟨rfl, trivial⟩⟩ rfl rfl hl.1 rfl (lv_room (Nat.le_of_ble_eq_true rfl)) dX5_place_1 ⟨Nat.zero_le _, Nat.zero_le _⟩) ?_
  refine lv_if_ne (tgt := 14) hx hb dX5_place_4 (by decide) (fun c_1 => ?_) (fun c_1 => ?_)
  · skip
    have c_1b := bI_n c_1
    have hp : vp_in x0 10 := c_1b
    refine lv_iload_n hx hb dX5_place_14 rfl (lv_at hl 2 rfl) ?_
    by_cases c_2 : x1 = 0
    · refine lv_tableIn (tgt := 44) hx hb dX5_place_15 (by rw [c_2]; decide) (by rw [c_2]; decide) (by rw [c_2]; rfl) (by decide) ?_
      refine lv_aload_n hx hb dX5_place_44 rfl (lv_at hl 0 rfl) ?_
      refine va_get (ci := 3) (v := .ref (b 1 0)) (C := RX5) (T := TX5) (N := 7) hx hb hts inX5 hown hK hP 0 rfl rfl 0 (by decide) f10 (fun _ h9 => h9) rfl dX5_place_45 ?_
      refine va_get (ci := 1) (v := .ref (b 1 1)) (C := RX3) (T := TX3) (N := 13) hx hb hts inX3 hown hK hP 1 rfl rfl 1 (by decide) f57 (fun _ h9 => h9) rfl dX5_place_48 ?_
      refine lv_iload_n hx hb dX5_place_51 rfl (lv_at hl 1 rfl) ?_
      refine va_iald hx hb hK hP 2 0 rfl rfl (by assumption) dX5_place_52 ?_
      exact W.iret hx hb hr (fun t ht hW => ⟨⟨_, (fnd), rfl, (by unfold sPlace; rw [iF_t c_1b]; simp [c_2]), by dsimp only; rw [ht]; exact hP⟩, hS.F ht⟩) hS.2.2 dX5_place_53
    by_cases c_3 : x1 = 1
    · refine lv_tableIn (tgt := 54) hx hb dX5_place_15 (by rw [c_3]; decide) (by rw [c_3]; decide) (by rw [c_3]; rfl) (by decide) ?_
      refine lv_aload_n hx hb dX5_place_54 rfl (lv_at hl 0 rfl) ?_
      refine va_get (ci := 3) (v := .ref (b 1 0)) (C := RX5) (T := TX5) (N := 7) hx hb hts inX5 hown hK hP 0 rfl rfl 0 (by decide) f10 (fun _ h9 => h9) rfl dX5_place_55 ?_
      refine va_get (ci := 1) (v := .ref (b 1 2)) (C := RX3) (T := TX3) (N := 13) hx hb hts inX3 hown hK hP 1 rfl rfl 2 (by decide) f60 (fun _ h9 => h9) rfl dX5_place_58 ?_
      refine lv_iload_n hx hb dX5_place_61 rfl (lv_at hl 1 rfl) ?_
      refine va_iald hx hb hK hP 3 0 rfl rfl (by assumption) dX5_place_62 ?_
      exact W.iret hx hb hr (fun t ht hW => ⟨⟨_, (fnd), rfl, (by unfold sPlace; rw [iF_t c_1b]; simp [c_3]), by dsimp only; rw [ht]; exact hP⟩, hS.F ht⟩) hS.2.2 dX5_place_63
    by_cases c_4 : x1 = 2
    · refine lv_tableIn (tgt := 64) hx hb dX5_place_15 (by rw [c_4]; decide) (by rw [c_4]; decide) (by rw [c_4]; rfl) (by decide) ?_
      refine lv_aload_n hx hb dX5_place_64 rfl (lv_at hl 0 rfl) ?_
      refine va_get (ci := 3) (v := .ref (b 1 0)) (C := RX5) (T := TX5) (N := 7) hx hb hts inX5 hown hK hP 0 rfl rfl 0 (by decide) f10 (fun _ h9 => h9) rfl dX5_place_65 ?_
      refine va_get (ci := 1) (v := .ref (b 1 3)) (C := RX3) (T := TX3) (N := 13) hx hb hts inX3 hown hK hP 1 rfl rfl 3 (by decide) f63 (fun _ h9 => h9) rfl dX5_place_68 ?_
      refine lv_iload_n hx hb dX5_place_71 rfl (lv_at hl 1 rfl) ?_
      refine va_iald hx hb hK hP 4 0 rfl rfl (by assumption) dX5_place_72 ?_
      exact W.iret hx hb hr (fun t ht hW => ⟨⟨_, (fnd), rfl, (by unfold sPlace; rw [iF_t c_1b]; simp [c_4]), by dsimp only; rw [ht]; exact hP⟩, hS.F ht⟩) hS.2.2 dX5_place_73
    by_cases c_5 : x1 = 3
    · refine lv_tableIn (tgt := 74) hx hb dX5_place_15 (by rw [c_5]; decide) (by rw [c_5]; decide) (by rw [c_5]; rfl) (by decide) ?_
      refine lv_aload_n hx hb dX5_place_74 rfl (lv_at hl 0 rfl) ?_
      refine va_get (ci := 3) (v := .ref (b 1 0)) (C := RX5) (T := TX5) (N := 7) hx hb hts inX5 hown hK hP 0 rfl rfl 0 (by decide) f10 (fun _ h9 => h9) rfl dX5_place_75 ?_
      refine va_get (ci := 1) (v := .ref (b 1 4)) (C := RX3) (T := TX3) (N := 13) hx hb hts inX3 hown hK hP 1 rfl rfl 4 (by decide) f66 (fun _ h9 => h9) rfl dX5_place_78 ?_
      refine lv_iload_n hx hb dX5_place_81 rfl (lv_at hl 1 rfl) ?_
      refine va_iald hx hb hK hP 5 0 rfl rfl (by assumption) dX5_place_82 ?_
      exact W.iret hx hb hr (fun t ht hW => ⟨⟨_, (fnd), rfl, (by unfold sPlace; rw [iF_t c_1b]; simp [c_5]; try exact o1.1.wh (by assumption)), by dsimp only; rw [ht]; exact hP⟩, hS.F ht⟩) hS.2.2 dX5_place_83
    refine lv_tableOut (tgt := 84) hx hb dX5_place_15 (by have := lv_neT c_2 (a := 0) rfl; have := lv_neT c_3 (a := 1) rfl; have := lv_neT c_4 (a := 2) rfl; have := lv_neT c_5 (a := 3) rfl; omega) (by decide) ?_
    refine lv_aload_n hx hb dX5_place_84 rfl (lv_at hl 0 rfl) ?_
    refine lv_ldc hx hb hown k52 dX5_place_85 ?_
    refine callMi (va_runV (As := [.int (-1000000001)]) (rest := []) ⟨hx, hb, hml, hown, hts⟩ (k_X5_found l D cI cL cS b s1 w1 m1 n1 s2 w2 m2 n2 s3 w3 m3 n3 ik bt ln tk sb en nm bits size num fnd (-1000000001) (va_DT (hD _ rfl) rfl) (vp_in_iff.mpr (by decide))) (cwV 1 hts gX5_place_X5_found rfl rfl rfl (by decide +kernel) ⟨Nat.le_of_ble_eq_true rfl, Nat.le_of_ble_eq_true rfl⟩) ⟨PcR_fb, va_recv hK hP (ci := 3) (q0 := 0) rfl rfl, PcR_pre hP hK⟩ rfl rfl hl.1 rfl (lv_room (Nat.le_of_ble_eq_true rfl)) dX5_place_87 ⟨Nat.zero_le _, Nat.zero_le _⟩) hP (hD _ rfl) hS 0 49 rfl (fun r_7 u_6 H locs hu_6 hP hS => ?_)
    obtain ⟨hu_6r, -⟩ := hu_6
    subst hu_6r
    have hP : va_P D vwCl (kcw cI cL cS b s1 w1 m1 n1 s2 w2 m2 n2 s3 w3 m3 n3 ik bt ln tk sb en nm bits size num (bump fnd (-1000000001))) H := hP
    exact W.iret hx hb hr (fun t ht hW => ⟨⟨_, (bump fnd (-1000000001)), rfl, (by unfold sPlace; rw [iF_t c_1b]; simp [c_2, c_3, c_4, c_5]), by dsimp only; rw [ht]; exact hP⟩, hS.F ht⟩) hS.2.2 dX5_place_90
  · skip
    have c_1b := bI_0 c_1
    refine lv_aload_n hx hb dX5_place_7 rfl (lv_at hl 0 rfl) ?_
    refine lv_ldc hx hb hown k52 dX5_place_8 ?_
    refine callMi (va_runV (As := [.int (-1000000001)]) (rest := []) ⟨hx, hb, hml, hown, hts⟩ (k_X5_found l D cI cL cS b s1 w1 m1 n1 s2 w2 m2 n2 s3 w3 m3 n3 ik bt ln tk sb en nm bits size num fnd (-1000000001) (va_DT (hD _ rfl) rfl) (vp_in_iff.mpr (by decide))) (cwV 1 hts gX5_place_X5_found rfl rfl rfl (by decide +kernel) ⟨Nat.le_of_ble_eq_true rfl, Nat.le_of_ble_eq_true rfl⟩) ⟨PcR_fb, va_recv hK hP (ci := 3) (q0 := 0) rfl rfl, PcR_pre hP hK⟩ rfl rfl hl.1 rfl (lv_room (Nat.le_of_ble_eq_true rfl)) dX5_place_10 ⟨Nat.zero_le _, Nat.zero_le _⟩) hP (hD _ rfl) hS 0 49 rfl (fun r_9 u_8 H locs hu_8 hP hS => ?_)
    obtain ⟨hu_8r, -⟩ := hu_8
    subst hu_8r
    have hP : va_P D vwCl (kcw cI cL cS b s1 w1 m1 n1 s2 w2 m2 n2 s3 w3 m3 n3 ik bt ln tk sb en nm bits size num (bump fnd (-1000000001))) H := hP
    exact W.iret hx hb hr (fun t ht hW => ⟨⟨_, (bump fnd (-1000000001)), rfl, (by exact (iF_f c_1b).symm), by dsimp only; rw [ht]; exact hP⟩, hS.F ht⟩) hS.2.2 dX5_place_13

set_option maxRecDepth 100000 in
set_option maxHeartbeats 4000000 in
theorem k_X5_now (l : Launch) (D : va_G) (cI cL cS : ClassId) (b : Nat → Nat → Nat) (s1 : Sg) (w1 m1 n1 : FI) (s2 : Sg) (w2 m2 n2 : FI) (s3 : Sg) (w3 m3 n3 : FI) (ik : Int32) (bt : FI) (ln tk sb en nm : Int32) (bits size : FI) (num : Nat → FJ) (fnd : FI) (x0 : Int32) (dj : va_D (fun _ => True) (djk b)) (o1 : okS s1 w1) : Met l yX5_now wsX5_now { frames := 3, cells := 0, slots := 0, locals := 65 } (PcR D vwCl (tyG cI cL cS) [.ref (b 0 0), .int x0] (kcw cI cL cS b s1 w1 m1 n1 s2 w2 m2 n2 s3 w3 m3 n3 ik bt ln tk sb en nm bits size num fnd)) (va_Qi (fun (r : Int32) (u : FI) => (r, u) = sNow s1 fnd x0) (fun u t => va_P D vwCl (kcw cI cL cS b s1 w1 m1 n1 s2 w2 m2 n2 s3 w3 m3 n3 ik bt ln tk sb en nm bits size num u) t.heap) (Aof (kcw cI cL cS b s1 w1 m1 n1 s2 w2 m2 n2 s3 w3 m3 n3 ik bt ln tk sb en nm bits size num fnd))) 0 0 (Aof (kcw cI cL cS b s1 w1 m1 n1 s2 w2 m2 n2 s3 w3 m3 n3 ik bt ln tk sb en nm bits size num fnd)) := by
  refine Met.ofW (cc := cX5_now) (maxL := 2) (ret := (some .int)) (by decide) rfl ?_
  intro p e s m args below meth c s₁ B hml hv
  obtain ⟨rfl, hP, hK⟩ := hv
  have hx := B.exec
  have hb := B.bytes
  have hr := B.returns
  have hts := atoms_spec (ws := wsX5_now) B.pre
  have hown : s.vm.findClass RX5 = some m.cls := findClass_of_methodNamed B.named
  have hlocks := B.notSynchronized
  obtain ⟨A, hAe⟩ : ∃ A, A = Aof (kcw cI cL cS b s1 w1 m1 n1 s2 w2 m2 n2 s3 w3 m3 n3 ik bt ln tk sb en nm bits size num fnd) := ⟨_, rfl⟩
  rw [← hAe]
  have hD : ∀ ws' : va_W, ws'.map Prod.fst = (kcw cI cL cS b s1 w1 m1 n1 s2 w2 m2 n2 s3 w3 m3 n3 ik bt ln tk sb en nm bits size num fnd).map Prod.fst → va_D A ws' := fun ws' e => by rw [hAe]; exact va_D_adr (va_D_self (va_D_adr dj rfl)) e
  have hS : va_S A s.heap s.heap [] := va_S.rf
  have hP : va_P D vwCl (kcw cI cL cS b s1 w1 m1 n1 s2 w2 m2 n2 s3 w3 m3 n3 ik bt ln tk sb en nm bits size num fnd) s.heap := hP
  have hl := lv_entry ([.ref (b 0 0), .int x0]) (n := 2) (Nat.le_of_ble_eq_true rfl)
  rw [lg_entry_eq]
  generalize (lg_sl ([.ref (b 0 0), .int x0]) ++ List.replicate (2 - (lg_sl ([.ref (b 0 0), .int x0])).length) Slot.unset).toArray = ls at hl ⊢
  have hl : lv_has ls 2 [(0, .ref (b 0 0)), (1, .int x0)] := hl
  have f10 := hts (.fieldLink RX5 10 "KnivesLaid" "table" "LKnivesLaid$Table;") (List.mem_of_getElem? (i := 1) rfl)
  have inX5 : ∀ w ∈ u_ws RX5 TX5 7, w ∈ wsX5_now := in_at 47 _ _ rfl
  have f69 := hts (.fieldLink RX5 69 "KnivesLaid$Table" "course" "I") (List.mem_of_getElem? (i := 2) rfl)
  have inX3 : ∀ w ∈ u_ws RX3 TX3 13, w ∈ wsX5_now := in_at 54 _ _ rfl
  have k52 := hts (.constant RX5 52 (-1000000001)) (List.mem_of_getElem? (i := 3) rfl)
  skip
  refine lv_iload_n hx hb dX5_now_0 rfl (lv_at hl 1 rfl) ?_
  by_cases c_1 : x0 = 0
  · refine lv_tableIn (tgt := 40) hx hb dX5_now_1 (by rw [c_1]; decide) (by rw [c_1]; decide) (by rw [c_1]; rfl) (by decide) ?_
    refine lv_aload_n hx hb dX5_now_40 rfl (lv_at hl 0 rfl) ?_
    refine va_get (ci := 3) (v := .ref (b 1 0)) (C := RX5) (T := TX5) (N := 7) hx hb hts inX5 hown hK hP 0 rfl rfl 0 (by decide) f10 (fun _ h9 => h9) rfl dX5_now_41 ?_
    refine va_get (ci := 1) (v := .int (sCo s1)) (C := RX3) (T := TX3) (N := 13) hx hb hts inX3 hown hK hP 1 rfl rfl 0 (by decide) f69 (fun _ h9 => h9) rfl dX5_now_44 ?_
    exact W.iret hx hb hr (fun t ht hW => ⟨⟨_, (fnd), rfl, (by unfold sNow; simp [c_1]), by dsimp only; rw [ht]; exact hP⟩, hS.F ht⟩) hS.2.2 dX5_now_47
  by_cases c_2 : x0 = 1
  · refine lv_tableIn (tgt := 48) hx hb dX5_now_1 (by rw [c_2]; decide) (by rw [c_2]; decide) (by rw [c_2]; rfl) (by decide) ?_
    refine lv_aload_n hx hb dX5_now_48 rfl (lv_at hl 0 rfl) ?_
    refine va_get (ci := 3) (v := .ref (b 1 0)) (C := RX5) (T := TX5) (N := 7) hx hb hts inX5 hown hK hP 0 rfl rfl 0 (by decide) f10 (fun _ h9 => h9) rfl dX5_now_49 ?_
    refine callE (W.runV (As := []) (rest := []) ⟨hx, hb, hml, hown, hts⟩ (k_X3_soreSet l D cI cL cS (b 1) (sCo s1) (sGu s1) (sKn s1) (sFo s1) (sSp s1) w1 (sKi s1) (sPl s1) (sEa s1) (sTo s1) (sQu s1) m1 n1 o1.1.gu) (cwV 0 hts gX5_now_X3_soreSet rfl rfl rfl (by decide +kernel) ⟨Nat.le_of_ble_eq_true rfl, Nat.le_of_ble_eq_true rfl⟩) ⟨PcR_fb, va_recv hK hP (ci := 1) (q0 := 1) rfl rfl, PcR_pre (va_seg hP 1 12 rfl) hK⟩ rfl rfl hl.1 rfl (lv_room (Nat.le_of_ble_eq_true rfl)) dX5_now_52 ⟨Nat.zero_le _, Nat.zero_le _⟩) ?_
    refine lv_if_ne (tgt := 62) hx hb dX5_now_55 (by decide) (fun c_3 => ?_) (fun c_3 => ?_)
    · skip
      refine lv_iconst (v := 0) hx hb dX5_now_62 (by decide) ?_
      exact W.iret hx hb hr (fun t ht hW => ⟨⟨_, (fnd), rfl, (by unfold sNow; simp [c_2, c_3]), by dsimp only; rw [ht]; exact hP⟩, hS.F ht⟩) hS.2.2 dX5_now_63
    · skip
      refine lv_iconst (v := 1) hx hb dX5_now_58 (by decide) ?_
      refine lv_goto (tgt := 63) hx hb dX5_now_59 (by decide) ?_
      exact W.iret hx hb hr (fun t ht hW => ⟨⟨_, (fnd), rfl, (by unfold sNow; simp [c_2, c_3]), by dsimp only; rw [ht]; exact hP⟩, hS.F ht⟩) hS.2.2 dX5_now_63
  by_cases c_4 : x0 = 2
  · refine lv_tableIn (tgt := 64) hx hb dX5_now_1 (by rw [c_4]; decide) (by rw [c_4]; decide) (by rw [c_4]; rfl) (by decide) ?_
    refine lv_aload_n hx hb dX5_now_64 rfl (lv_at hl 0 rfl) ?_
    refine va_get (ci := 3) (v := .ref (b 1 0)) (C := RX5) (T := TX5) (N := 7) hx hb hts inX5 hown hK hP 0 rfl rfl 0 (by decide) f10 (fun _ h9 => h9) rfl dX5_now_65 ?_
    refine callE (W.runV (As := []) (rest := []) ⟨hx, hb, hml, hown, hts⟩ (k_X3_tellingSet l D cI cL cS (b 1) (sCo s1) (sGu s1) (sKn s1) (sFo s1) (sSp s1) w1 (sKi s1) (sPl s1) (sEa s1) (sTo s1) (sQu s1) m1 n1 o1.1) (cwV 0 hts gX5_now_X3_tellingSet rfl rfl rfl (by decide +kernel) ⟨Nat.le_of_ble_eq_true rfl, Nat.le_of_ble_eq_true rfl⟩) ⟨PcR_fb, va_recv hK hP (ci := 1) (q0 := 1) rfl rfl, PcR_pre (va_seg hP 1 12 rfl) hK⟩ rfl rfl hl.1 rfl (lv_room (Nat.le_of_ble_eq_true rfl)) dX5_now_68 ⟨Nat.zero_le _, Nat.zero_le _⟩) ?_
    exact W.iret hx hb hr (fun t ht hW => ⟨⟨_, (fnd), rfl, (by unfold sNow; simp [c_4]), by dsimp only; rw [ht]; exact hP⟩, hS.F ht⟩) hS.2.2 dX5_now_71
  by_cases c_5 : x0 = 3
  · refine lv_tableIn (tgt := 72) hx hb dX5_now_1 (by rw [c_5]; decide) (by rw [c_5]; decide) (by rw [c_5]; rfl) (by decide) ?_
    refine lv_aload_n hx hb dX5_now_72 rfl (lv_at hl 0 rfl) ?_
    refine va_get (ci := 3) (v := .ref (b 1 0)) (C := RX5) (T := TX5) (N := 7) hx hb hts inX5 hown hK hP 0 rfl rfl 0 (by decide) f10 (fun _ h9 => h9) rfl dX5_now_73 ?_
    refine callE (W.runV (As := []) (rest := []) ⟨hx, hb, hml, hown, hts⟩ (k_X3_soreSet l D cI cL cS (b 1) (sCo s1) (sGu s1) (sKn s1) (sFo s1) (sSp s1) w1 (sKi s1) (sPl s1) (sEa s1) (sTo s1) (sQu s1) m1 n1 o1.1.gu) (cwV 0 hts gX5_now_X3_soreSet rfl rfl rfl (by decide +kernel) ⟨Nat.le_of_ble_eq_true rfl, Nat.le_of_ble_eq_true rfl⟩) ⟨PcR_fb, va_recv hK hP (ci := 1) (q0 := 1) rfl rfl, PcR_pre (va_seg hP 1 12 rfl) hK⟩ rfl rfl hl.1 rfl (lv_room (Nat.le_of_ble_eq_true rfl)) dX5_now_76 ⟨Nat.zero_le _, Nat.zero_le _⟩) ?_
    exact W.iret hx hb hr (fun t ht hW => ⟨⟨_, (fnd), rfl, (by unfold sNow; simp [c_5]), by dsimp only; rw [ht]; exact hP⟩, hS.F ht⟩) hS.2.2 dX5_now_79
  by_cases c_6 : x0 = 4
  · refine lv_tableIn (tgt := 80) hx hb dX5_now_1 (by rw [c_6]; decide) (by rw [c_6]; decide) (by rw [c_6]; rfl) (by decide) ?_
    refine lv_sipush (v := 10000) hx hb dX5_now_80 (by decide) ?_
    refine lv_aload_n hx hb dX5_now_83 rfl (lv_at hl 0 rfl) ?_
    refine va_get (ci := 3) (v := .ref (b 1 0)) (C := RX5) (T := TX5) (N := 7) hx hb hts inX5 hown hK hP 0 rfl rfl 0 (by decide) f10 (fun _ h9 => h9) rfl dX5_now_84 ?_
    refine callE (W.runV (As := []) (rest := [.int 10000]) ⟨hx, hb, hml, hown, hts⟩ (k_X3_easeOfAll l D cI cL cS (b 1) (sCo s1) (sGu s1) (sKn s1) (sFo s1) (sSp s1) w1 (sKi s1) (sPl s1) (sEa s1) (sTo s1) (sQu s1) m1 n1 o1.1.gu) (cwV 0 hts gX5_now_X3_easeOfAll rfl rfl rfl (by decide +kernel) ⟨Nat.le_of_ble_eq_true rfl, Nat.le_of_ble_eq_true rfl⟩) ⟨PcR_fb, va_recv hK hP (ci := 1) (q0 := 1) rfl rfl, PcR_pre (va_seg hP 1 12 rfl) hK⟩ rfl rfl hl.1 rfl (lv_room (Nat.le_of_ble_eq_true rfl)) dX5_now_87 ⟨Nat.zero_le _, Nat.zero_le _⟩) ?_
    refine lv_iadd hx hb dX5_now_90 ?_
    exact W.iret hx hb hr (fun t ht hW => ⟨⟨_, (fnd), rfl, (by unfold sNow; simp [c_6]), by dsimp only; rw [ht]; exact hP⟩, hS.F ht⟩) hS.2.2 dX5_now_91
  by_cases c_7 : x0 = 5
  · refine lv_tableIn (tgt := 92) hx hb dX5_now_1 (by rw [c_7]; decide) (by rw [c_7]; decide) (by rw [c_7]; rfl) (by decide) ?_
    refine lv_aload_n hx hb dX5_now_92 rfl (lv_at hl 0 rfl) ?_
    refine va_get (ci := 3) (v := .ref (b 1 0)) (C := RX5) (T := TX5) (N := 7) hx hb hts inX5 hown hK hP 0 rfl rfl 0 (by decide) f10 (fun _ h9 => h9) rfl dX5_now_93 ?_
    refine callE (W.runV (As := []) (rest := []) ⟨hx, hb, hml, hown, hts⟩ (k_X3_toldOfAll l D cI cL cS (b 1) (sCo s1) (sGu s1) (sKn s1) (sFo s1) (sSp s1) w1 (sKi s1) (sPl s1) (sEa s1) (sTo s1) (sQu s1) m1 n1 o1.1.gu) (cwV 0 hts gX5_now_X3_toldOfAll rfl rfl rfl (by decide +kernel) ⟨Nat.le_of_ble_eq_true rfl, Nat.le_of_ble_eq_true rfl⟩) ⟨PcR_fb, va_recv hK hP (ci := 1) (q0 := 1) rfl rfl, PcR_pre (va_seg hP 1 12 rfl) hK⟩ rfl rfl hl.1 rfl (lv_room (Nat.le_of_ble_eq_true rfl)) dX5_now_96 ⟨Nat.zero_le _, Nat.zero_le _⟩) ?_
    exact W.iret hx hb hr (fun t ht hW => ⟨⟨_, (fnd), rfl, (by unfold sNow; simp [c_7]), by dsimp only; rw [ht]; exact hP⟩, hS.F ht⟩) hS.2.2 dX5_now_99
  refine lv_tableOut (tgt := 100) hx hb dX5_now_1 (by have := lv_neT c_1 (a := 0) rfl; have := lv_neT c_2 (a := 1) rfl; have := lv_neT c_4 (a := 2) rfl; have := lv_neT c_5 (a := 3) rfl; have := lv_neT c_6 (a := 4) rfl; have := lv_neT c_7 (a := 5) rfl; omega) (by decide) ?_
  refine lv_aload_n hx hb dX5_now_100 rfl (lv_at hl 0 rfl) ?_
  refine lv_ldc hx hb hown k52 dX5_now_101 ?_
  refine callMi (va_runV (As := [.int (-1000000001)]) (rest := []) ⟨hx, hb, hml, hown, hts⟩ (k_X5_found l D cI cL cS b s1 w1 m1 n1 s2 w2 m2 n2 s3 w3 m3 n3 ik bt ln tk sb en nm bits size num fnd (-1000000001) (va_DT (hD _ rfl) rfl) (vp_in_iff.mpr (by decide))) (cwV 1 hts gX5_now_X5_found rfl rfl rfl (by decide +kernel) ⟨Nat.le_of_ble_eq_true rfl, Nat.le_of_ble_eq_true rfl⟩) ⟨PcR_fb, va_recv hK hP (ci := 3) (q0 := 0) rfl rfl, PcR_pre hP hK⟩ rfl rfl hl.1 rfl (lv_room (Nat.le_of_ble_eq_true rfl)) dX5_now_103 ⟨Nat.zero_le _, Nat.zero_le _⟩) hP (hD _ rfl) hS 0 49 rfl (fun r_9 u_8 H locs hu_8 hP hS => ?_)
  obtain ⟨hu_8r, -⟩ := hu_8
  subst hu_8r
  have hP : va_P D vwCl (kcw cI cL cS b s1 w1 m1 n1 s2 w2 m2 n2 s3 w3 m3 n3 ik bt ln tk sb en nm bits size num (bump fnd (-1000000001))) H := hP
  exact W.iret hx hb hr (fun t ht hW => ⟨⟨_, (bump fnd (-1000000001)), rfl, (by unfold sNow; simp [c_1, c_2, c_4, c_5, c_6, c_7]), by dsimp only; rw [ht]; exact hP⟩, hS.F ht⟩) hS.2.2 dX5_now_106

set_option maxRecDepth 100000 in
set_option maxHeartbeats 4000000 in
theorem k_X5_guest (l : Launch) (D : va_G) (cI cL cS : ClassId) (b : Nat → Nat → Nat) (s1 : Sg) (w1 m1 n1 : FI) (s2 : Sg) (w2 m2 n2 : FI) (s3 : Sg) (w3 m3 n3 : FI) (ik : Int32) (bt : FI) (ln tk sb en nm : Int32) (bits size : FI) (num : Nat → FJ) (fnd : FI) (x0 : Int32) (x1 : Int32) (dj : va_D (fun _ => True) (djk b)) (o1 : okS s1 w1) : Met l yX5_guest wsX5_guest { frames := 1, cells := 0, slots := 0, locals := 23 } (PcR D vwCl (tyG cI cL cS) [.ref (b 0 0), .int x0, .int x1] (kcw cI cL cS b s1 w1 m1 n1 s2 w2 m2 n2 s3 w3 m3 n3 ik bt ln tk sb en nm bits size num fnd)) (va_Qi (fun (r : Int32) (u : Sg × FI × FI) => (r, u.1, u.2.2) = sGuest s1 fnd x0 x1 ∧ okS u.1 u.2.1) (fun u t => va_P D vwCl (kcw cI cL cS b u.1 u.2.1 m1 n1 s2 w2 m2 n2 s3 w3 m3 n3 ik bt ln tk sb en nm bits size num u.2.2) t.heap) (Aof (kcw cI cL cS b s1 w1 m1 n1 s2 w2 m2 n2 s3 w3 m3 n3 ik bt ln tk sb en nm bits size num fnd))) 0 0 (Aof (kcw cI cL cS b s1 w1 m1 n1 s2 w2 m2 n2 s3 w3 m3 n3 ik bt ln tk sb en nm bits size num fnd)) := by
  refine Met.ofW (cc := cX5_guest) (maxL := 3) (ret := (some .int)) (by decide) rfl ?_
  intro p e s m args below meth c s₁ B hml hv
  obtain ⟨rfl, hP, hK⟩ := hv
  have hx := B.exec
  have hb := B.bytes
  have hr := B.returns
  have hts := atoms_spec (ws := wsX5_guest) B.pre
  have hown : s.vm.findClass RX5 = some m.cls := findClass_of_methodNamed B.named
  have hlocks := B.notSynchronized
  obtain ⟨A, hAe⟩ : ∃ A, A = Aof (kcw cI cL cS b s1 w1 m1 n1 s2 w2 m2 n2 s3 w3 m3 n3 ik bt ln tk sb en nm bits size num fnd) := ⟨_, rfl⟩
  rw [← hAe]
  have hD : ∀ ws' : va_W, ws'.map Prod.fst = (kcw cI cL cS b s1 w1 m1 n1 s2 w2 m2 n2 s3 w3 m3 n3 ik bt ln tk sb en nm bits size num fnd).map Prod.fst → va_D A ws' := fun ws' e => by rw [hAe]; exact va_D_adr (va_D_self (va_D_adr dj rfl)) e
  have hS : va_S A s.heap s.heap [] := va_S.rf
  have hP : va_P D vwCl (kcw cI cL cS b s1 w1 m1 n1 s2 w2 m2 n2 s3 w3 m3 n3 ik bt ln tk sb en nm bits size num fnd) s.heap := hP
  have hl := lv_entry ([.ref (b 0 0), .int x0, .int x1]) (n := 3) (Nat.le_of_ble_eq_true rfl)
  rw [lg_entry_eq]
  generalize (lg_sl ([.ref (b 0 0), .int x0, .int x1]) ++ List.replicate (3 - (lg_sl ([.ref (b 0 0), .int x0, .int x1])).length) Slot.unset).toArray = ls at hl ⊢
  have hl : lv_has ls 3 [(0, .ref (b 0 0)), (1, .int x0), (2, .int x1)] := hl
  have k52 := hts (.constant RX5 52 (-1000000001)) (List.mem_of_getElem? (i := 1) rfl)
  have f10 := hts (.fieldLink RX5 10 "KnivesLaid" "table" "LKnivesLaid$Table;") (List.mem_of_getElem? (i := 2) rfl)
  have inX5 : ∀ w ∈ u_ws RX5 TX5 7, w ∈ wsX5_guest := in_at 31 _ _ rfl
  have f89 := hts (.fieldLink RX5 89 "KnivesLaid$Table" "guests" "I") (List.mem_of_getElem? (i := 3) rfl)
  have inX3 : ∀ w ∈ u_ws RX3 TX3 13, w ∈ wsX5_guest := in_at 38 _ _ rfl
  have f66 := hts (.fieldLink RX5 66 "KnivesLaid$Table" "who" "[I") (List.mem_of_getElem? (i := 5) rfl)
  have k93 := hts (.constant RX5 93 (-1000000005)) (List.mem_of_getElem? (i := 6) rfl)
  have k92 := hts (.constant RX5 92 (-1000000002)) (List.mem_of_getElem? (i := 4) rfl)
  skip
  refine lv_iload_n hx hb dX5_guest_0 rfl (lv_at hl 1 rfl) ?_
  refine callE (W.runS (As := [.int x0]) (rest := []) ⟨hx, hb, hml, hown, hts⟩ (k_X5_isKind l x0) (va_cwS 1 hts gX5_guest_X5_isKind rfl rfl rfl (by decide +kernel) ⟨Nat.le_of_ble_eq_true rfl, Nat.le_of_ble_eq_true rfl⟩) ⟨PcP_fb, fun U _ _ => ⟨rfl, trivial⟩⟩ rfl rfl hl.1 rfl (lv_room (Nat.le_of_ble_eq_true rfl)) dX5_guest_1 ⟨Nat.zero_le _, Nat.zero_le _⟩) ?_
  refine lv_if_eq (tgt := 14) hx hb dX5_guest_4 (by decide) (fun c_1 => ?_) (fun c_1 => ?_)
  · skip
    have c_1b := bI_0 c_1
    refine lv_aload_n hx hb dX5_guest_14 rfl (lv_at hl 0 rfl) ?_
    refine lv_ldc hx hb hown k52 dX5_guest_15 ?_
    refine callMi (va_runV (As := [.int (-1000000001)]) (rest := []) ⟨hx, hb, hml, hown, hts⟩ (k_X5_found l D cI cL cS b s1 w1 m1 n1 s2 w2 m2 n2 s3 w3 m3 n3 ik bt ln tk sb en nm bits size num fnd (-1000000001) (va_DT (hD _ rfl) rfl) (vp_in_iff.mpr (by decide))) (cwV 1 hts gX5_guest_X5_found rfl rfl rfl (by decide +kernel) ⟨Nat.le_of_ble_eq_true rfl, Nat.le_of_ble_eq_true rfl⟩) ⟨PcR_fb, va_recv hK hP (ci := 3) (q0 := 0) rfl rfl, PcR_pre hP hK⟩ rfl rfl hl.1 rfl (lv_room (Nat.le_of_ble_eq_true rfl)) dX5_guest_17 ⟨Nat.zero_le _, Nat.zero_le _⟩) hP (hD _ rfl) hS 0 49 rfl (fun r_3 u_2 H locs hu_2 hP hS => ?_)
    obtain ⟨hu_2r, -⟩ := hu_2
    subst hu_2r
    have hP : va_P D vwCl (kcw cI cL cS b s1 w1 m1 n1 s2 w2 m2 n2 s3 w3 m3 n3 ik bt ln tk sb en nm bits size num (bump fnd (-1000000001))) H := hP
    exact W.iret hx hb hr (fun t ht hW => ⟨⟨_, (s1, w1, bump fnd (-1000000001)), rfl, (by exact ⟨by exact (iF_f (fun h => by first | exact absurd h.1 c_1b | exact absurd c_1b h.1 | exact absurd h.2 c_1b | exact absurd c_1b h.2)).symm, o1⟩), by dsimp only; rw [ht]; exact hP⟩, hS.F ht⟩) hS.2.2 dX5_guest_20
  · skip
    have c_1b := bI_n c_1
    refine lv_iload_n hx hb dX5_guest_7 rfl (lv_at hl 2 rfl) ?_
    refine callE (W.runS (As := [.int x1]) (rest := []) ⟨hx, hb, hml, hown, hts⟩ (k_X5_isPlace l x1) (va_cwS 1 hts gX5_guest_X5_isPlace rfl rfl rfl (by decide +kernel) ⟨Nat.le_of_ble_eq_true rfl, Nat.le_of_ble_eq_true rfl⟩) ⟨PcP_fb, fun U _ _ => ⟨rfl, trivial⟩⟩ rfl rfl hl.1 rfl (lv_room (Nat.le_of_ble_eq_true rfl)) dX5_guest_8 ⟨Nat.zero_le _, Nat.zero_le _⟩) ?_
    refine lv_if_ne (tgt := 21) hx hb dX5_guest_11 (by decide) (fun c_4 => ?_) (fun c_4 => ?_)
    · skip
      have c_4b := bI_n c_4
      have hp : vp_in x1 10 := c_4b
      refine lv_aload_n hx hb dX5_guest_21 rfl (lv_at hl 0 rfl) ?_
      refine va_get (ci := 3) (v := .ref (b 1 0)) (C := RX5) (T := TX5) (N := 7) hx hb hts inX5 hown hK hP 0 rfl rfl 0 (by decide) f10 (fun _ h9 => h9) rfl dX5_guest_22 ?_
      refine va_get (ci := 1) (v := .int (sGu s1)) (C := RX3) (T := TX3) (N := 13) hx hb hts inX3 hown hK hP 1 rfl rfl 5 (by decide) f89 (fun _ h9 => h9) rfl dX5_guest_25 ?_
      refine lv_bipush (v := 8) hx hb dX5_guest_28 (by decide) ?_
      refine lv_icmp_lt (tgt := 40) hx hb dX5_guest_30 (by decide) (fun c_5 => ?_) (fun c_5 => ?_)
      · skip
        have h8 : vp_in (sGu s1) 8 := gu8_in o1.1.gu c_5
        refine lv_aload_n hx hb dX5_guest_40 rfl (lv_at hl 0 rfl) ?_
        refine va_get (ci := 3) (v := .ref (b 1 0)) (C := RX5) (T := TX5) (N := 7) hx hb hts inX5 hown hK hP 0 rfl rfl 0 (by decide) f10 (fun _ h9 => h9) rfl dX5_guest_41 ?_
        refine va_get (ci := 1) (v := .ref (b 1 4)) (C := RX3) (T := TX3) (N := 13) hx hb hts inX3 hown hK hP 1 rfl rfl 4 (by decide) f66 (fun _ h9 => h9) rfl dX5_guest_44 ?_
        refine lv_iload_n hx hb dX5_guest_47 rfl (lv_at hl 2 rfl) ?_
        refine va_iald hx hb hK hP 5 0 rfl rfl (by assumption) dX5_guest_48 ?_
        refine lv_iconst (v := (-1)) hx hb dX5_guest_49 (by decide) ?_
        refine lv_icmp_eq (tgt := 60) hx hb dX5_guest_50 (by decide) (fun c_6 => ?_) (fun c_6 => ?_)
        · skip
          refine lv_aload_n hx hb dX5_guest_60 rfl (lv_at hl 0 rfl) ?_
          refine va_get (ci := 3) (v := .ref (b 1 0)) (C := RX5) (T := TX5) (N := 7) hx hb hts inX5 hown hK hP 0 rfl rfl 0 (by decide) f10 (fun _ h9 => h9) rfl dX5_guest_61 ?_
          refine lv_iload_n hx hb dX5_guest_64 rfl (lv_at hl 1 rfl) ?_
          refine lv_iload_n hx hb dX5_guest_65 rfl (lv_at hl 2 rfl) ?_
          refine callMi (va_runV (As := [.int x0, .int x1]) (rest := []) ⟨hx, hb, hml, hown, hts⟩ (k_X3_welcome l D cI cL cS (b 1) (sCo s1) (sGu s1) (sKn s1) (sFo s1) (sSp s1) w1 (sKi s1) (sPl s1) (sEa s1) (sTo s1) (sQu s1) m1 n1 x0 x1 (va_DT (va_segD (hD _ rfl) 1 12 rfl) rfl) h8 hp) (cwV 2 hts gX5_guest_X3_welcome rfl rfl rfl (by decide +kernel) ⟨Nat.le_of_ble_eq_true rfl, Nat.le_of_ble_eq_true rfl⟩) ⟨PcR_fb, va_recv hK hP (ci := 1) (q0 := 1) rfl rfl, PcR_pre (va_seg hP 1 12 rfl) hK⟩ rfl rfl hl.1 rfl (lv_room (Nat.le_of_ble_eq_true rfl)) dX5_guest_66 ⟨Nat.zero_le _, Nat.zero_le _⟩) hP (hD _ rfl) hS 1 12 rfl (fun r_8 u_7 H locs hu_7 hP hS => ?_)
          obtain ⟨hu_7r, hu_7⟩ := hu_7
          subst hu_7r
          have hP : va_P D vwCl (kcw cI cL cS b (uQu (uTo (uEa (uPl (uKi (uGu s1 ((sGu s1) + 1)) (upd (sKi s1) (ix (sGu s1)) x0)) (upd (sPl s1) (ix (sGu s1)) x1)) (upd (sEa s1) (ix (sGu s1)) 0)) (upd (sTo s1) (ix (sGu s1)) 0)) (upd (sQu s1) (ix (sGu s1)) 0)) (upd w1 (ix x1) (sGu s1)) m1 n1 s2 w2 m2 n2 s3 w3 m3 n3 ik bt ln tk sb en nm bits size num fnd) H := hP
          exact W.iret hx hb hr (fun t ht hW => ⟨⟨_, ((uQu (uTo (uEa (uPl (uKi (uGu s1 ((sGu s1) + 1)) (upd (sKi s1) (ix (sGu s1)) x0)) (upd (sPl s1) (ix (sGu s1)) x1)) (upd (sEa s1) (ix (sGu s1)) 0)) (upd (sTo s1) (ix (sGu s1)) 0)) (upd (sQu s1) (ix (sGu s1)) 0)), upd w1 (ix x1) (sGu s1), fnd), rfl, (by exact ⟨by unfold sGuest; rw [iF_t ⟨c_1b, c_4b⟩, iF_f (gu8_ne c_5), iF_t (by rw [o1.1.wh c_4b] at c_6; exact c_6)], ok_wel o1 h8 c_1b hp (by have q := c_6; rw [o1.1.wh hp] at q; exact q)⟩), by dsimp only; rw [ht]; exact hP⟩, hS.F ht⟩) hS.2.2 dX5_guest_69
        · skip
          refine lv_aload_n hx hb dX5_guest_53 rfl (lv_at hl 0 rfl) ?_
          refine lv_ldc hx hb hown k93 dX5_guest_54 ?_
          refine callMi (va_runV (As := [.int (-1000000005)]) (rest := []) ⟨hx, hb, hml, hown, hts⟩ (k_X5_found l D cI cL cS b s1 w1 m1 n1 s2 w2 m2 n2 s3 w3 m3 n3 ik bt ln tk sb en nm bits size num fnd (-1000000005) (va_DT (hD _ rfl) rfl) (vp_in_iff.mpr (by decide))) (cwV 1 hts gX5_guest_X5_found rfl rfl rfl (by decide +kernel) ⟨Nat.le_of_ble_eq_true rfl, Nat.le_of_ble_eq_true rfl⟩) ⟨PcR_fb, va_recv hK hP (ci := 3) (q0 := 0) rfl rfl, PcR_pre hP hK⟩ rfl rfl hl.1 rfl (lv_room (Nat.le_of_ble_eq_true rfl)) dX5_guest_56 ⟨Nat.zero_le _, Nat.zero_le _⟩) hP (hD _ rfl) hS 0 49 rfl (fun r_10 u_9 H locs hu_9 hP hS => ?_)
          obtain ⟨hu_9r, -⟩ := hu_9
          subst hu_9r
          have hP : va_P D vwCl (kcw cI cL cS b s1 w1 m1 n1 s2 w2 m2 n2 s3 w3 m3 n3 ik bt ln tk sb en nm bits size num (bump fnd (-1000000005))) H := hP
          exact W.iret hx hb hr (fun t ht hW => ⟨⟨_, (s1, w1, bump fnd (-1000000005)), rfl, (by exact ⟨by unfold sGuest; rw [iF_t ⟨c_1b, c_4b⟩, iF_f (gu8_ne c_5), iF_f (by rw [o1.1.wh c_4b] at c_6; exact c_6)], o1⟩), by dsimp only; rw [ht]; exact hP⟩, hS.F ht⟩) hS.2.2 dX5_guest_59
      · skip
        refine lv_aload_n hx hb dX5_guest_33 rfl (lv_at hl 0 rfl) ?_
        refine lv_ldc hx hb hown k92 dX5_guest_34 ?_
        refine callMi (va_runV (As := [.int (-1000000002)]) (rest := []) ⟨hx, hb, hml, hown, hts⟩ (k_X5_found l D cI cL cS b s1 w1 m1 n1 s2 w2 m2 n2 s3 w3 m3 n3 ik bt ln tk sb en nm bits size num fnd (-1000000002) (va_DT (hD _ rfl) rfl) (vp_in_iff.mpr (by decide))) (cwV 1 hts gX5_guest_X5_found rfl rfl rfl (by decide +kernel) ⟨Nat.le_of_ble_eq_true rfl, Nat.le_of_ble_eq_true rfl⟩) ⟨PcR_fb, va_recv hK hP (ci := 3) (q0 := 0) rfl rfl, PcR_pre hP hK⟩ rfl rfl hl.1 rfl (lv_room (Nat.le_of_ble_eq_true rfl)) dX5_guest_36 ⟨Nat.zero_le _, Nat.zero_le _⟩) hP (hD _ rfl) hS 0 49 rfl (fun r_12 u_11 H locs hu_11 hP hS => ?_)
        obtain ⟨hu_11r, -⟩ := hu_11
        subst hu_11r
        have hP : va_P D vwCl (kcw cI cL cS b s1 w1 m1 n1 s2 w2 m2 n2 s3 w3 m3 n3 ik bt ln tk sb en nm bits size num (bump fnd (-1000000002))) H := hP
        exact W.iret hx hb hr (fun t ht hW => ⟨⟨_, (s1, w1, bump fnd (-1000000002)), rfl, (by exact ⟨by unfold sGuest; rw [iF_t ⟨c_1b, c_4b⟩, iF_t (gu8_eq o1.1.gu c_5)], o1⟩), by dsimp only; rw [ht]; exact hP⟩, hS.F ht⟩) hS.2.2 dX5_guest_39
    · skip
      have c_4b := bI_0 c_4
      refine lv_aload_n hx hb dX5_guest_14 rfl (lv_at hl 0 rfl) ?_
      refine lv_ldc hx hb hown k52 dX5_guest_15 ?_
      refine callMi (va_runV (As := [.int (-1000000001)]) (rest := []) ⟨hx, hb, hml, hown, hts⟩ (k_X5_found l D cI cL cS b s1 w1 m1 n1 s2 w2 m2 n2 s3 w3 m3 n3 ik bt ln tk sb en nm bits size num fnd (-1000000001) (va_DT (hD _ rfl) rfl) (vp_in_iff.mpr (by decide))) (cwV 1 hts gX5_guest_X5_found rfl rfl rfl (by decide +kernel) ⟨Nat.le_of_ble_eq_true rfl, Nat.le_of_ble_eq_true rfl⟩) ⟨PcR_fb, va_recv hK hP (ci := 3) (q0 := 0) rfl rfl, PcR_pre hP hK⟩ rfl rfl hl.1 rfl (lv_room (Nat.le_of_ble_eq_true rfl)) dX5_guest_17 ⟨Nat.zero_le _, Nat.zero_le _⟩) hP (hD _ rfl) hS 0 49 rfl (fun r_14 u_13 H locs hu_13 hP hS => ?_)
      obtain ⟨hu_13r, -⟩ := hu_13
      subst hu_13r
      have hP : va_P D vwCl (kcw cI cL cS b s1 w1 m1 n1 s2 w2 m2 n2 s3 w3 m3 n3 ik bt ln tk sb en nm bits size num (bump fnd (-1000000001))) H := hP
      exact W.iret hx hb hr (fun t ht hW => ⟨⟨_, (s1, w1, bump fnd (-1000000001)), rfl, (by exact ⟨by exact (iF_f (fun h => by first | exact absurd h.1 c_4b | exact absurd c_4b h.1 | exact absurd h.2 c_4b | exact absurd c_4b h.2)).symm, o1⟩), by dsimp only; rw [ht]; exact hP⟩, hS.F ht⟩) hS.2.2 dX5_guest_20

set_option maxRecDepth 100000 in
set_option maxHeartbeats 4000000 in
theorem k_X5_of (l : Launch) (D : va_G) (cI cL cS : ClassId) (b : Nat → Nat → Nat) (s1 : Sg) (w1 m1 n1 : FI) (s2 : Sg) (w2 m2 n2 : FI) (s3 : Sg) (w3 m3 n3 : FI) (ik : Int32) (bt : FI) (ln tk sb en nm : Int32) (bits size : FI) (num : Nat → FJ) (fnd : FI) (x0 : Int32) (x1 : Int32) (dj : va_D (fun _ => True) (djk b)) (o1 : okS s1 w1) : Met l yX5_of wsX5_of { frames := 3, cells := 0, slots := 0, locals := 68 } (PcR D vwCl (tyG cI cL cS) [.ref (b 0 0), .int x0, .int x1] (kcw cI cL cS b s1 w1 m1 n1 s2 w2 m2 n2 s3 w3 m3 n3 ik bt ln tk sb en nm bits size num fnd)) (va_Qi (fun (r : Int32) (u : FI) => (r, u) = sOf s1 fnd x0 x1) (fun u t => va_P D vwCl (kcw cI cL cS b s1 w1 m1 n1 s2 w2 m2 n2 s3 w3 m3 n3 ik bt ln tk sb en nm bits size num u) t.heap) (Aof (kcw cI cL cS b s1 w1 m1 n1 s2 w2 m2 n2 s3 w3 m3 n3 ik bt ln tk sb en nm bits size num fnd))) 0 0 (Aof (kcw cI cL cS b s1 w1 m1 n1 s2 w2 m2 n2 s3 w3 m3 n3 ik bt ln tk sb en nm bits size num fnd)) := by
  refine Met.ofW (cc := cX5_of) (maxL := 3) (ret := (some .int)) (by decide) rfl ?_
  intro p e s m args below meth c s₁ B hml hv
  obtain ⟨rfl, hP, hK⟩ := hv
  have hx := B.exec
  have hb := B.bytes
  have hr := B.returns
  have hts := atoms_spec (ws := wsX5_of) B.pre
  have hown : s.vm.findClass RX5 = some m.cls := findClass_of_methodNamed B.named
  have hlocks := B.notSynchronized
  obtain ⟨A, hAe⟩ : ∃ A, A = Aof (kcw cI cL cS b s1 w1 m1 n1 s2 w2 m2 n2 s3 w3 m3 n3 ik bt ln tk sb en nm bits size num fnd) := ⟨_, rfl⟩
  rw [← hAe]
  have hD : ∀ ws' : va_W, ws'.map Prod.fst = (kcw cI cL cS b s1 w1 m1 n1 s2 w2 m2 n2 s3 w3 m3 n3 ik bt ln tk sb en nm bits size num fnd).map Prod.fst → va_D A ws' := fun ws' e => by rw [hAe]; exact va_D_adr (va_D_self (va_D_adr dj rfl)) e
  have hS : va_S A s.heap s.heap [] := va_S.rf
  have hP : va_P D vwCl (kcw cI cL cS b s1 w1 m1 n1 s2 w2 m2 n2 s3 w3 m3 n3 ik bt ln tk sb en nm bits size num fnd) s.heap := hP
  have hl := lv_entry ([.ref (b 0 0), .int x0, .int x1]) (n := 3) (Nat.le_of_ble_eq_true rfl)
  rw [lg_entry_eq]
  generalize (lg_sl ([.ref (b 0 0), .int x0, .int x1]) ++ List.replicate (3 - (lg_sl ([.ref (b 0 0), .int x0, .int x1])).length) Slot.unset).toArray = ls at hl ⊢
  have hl : lv_has ls 3 [(0, .ref (b 0 0)), (1, .int x0), (2, .int x1)] := hl
  have f10 := hts (.fieldLink RX5 10 "KnivesLaid" "table" "LKnivesLaid$Table;") (List.mem_of_getElem? (i := 1) rfl)
  have inX5 : ∀ w ∈ u_ws RX5 TX5 7, w ∈ wsX5_of := in_at 69 _ _ rfl
  have f101 := hts (.fieldLink RX5 101 "KnivesLaid$Table" "kinds" "[I") (List.mem_of_getElem? (i := 3) rfl)
  have inX3 : ∀ w ∈ u_ws RX3 TX3 13, w ∈ wsX5_of := in_at 76 _ _ rfl
  have f104 := hts (.fieldLink RX5 104 "KnivesLaid$Table" "at" "[I") (List.mem_of_getElem? (i := 4) rfl)
  have f107 := hts (.fieldLink RX5 107 "KnivesLaid$Table" "ease" "[I") (List.mem_of_getElem? (i := 5) rfl)
  have f110 := hts (.fieldLink RX5 110 "KnivesLaid$Table" "told" "[I") (List.mem_of_getElem? (i := 6) rfl)
  have f113 := hts (.fieldLink RX5 113 "KnivesLaid$Table" "quarrelled" "[I") (List.mem_of_getElem? (i := 7) rfl)
  have k52 := hts (.constant RX5 52 (-1000000001)) (List.mem_of_getElem? (i := 2) rfl)
  skip
  refine lv_aload_n hx hb dX5_of_0 rfl (lv_at hl 0 rfl) ?_
  refine va_get (ci := 3) (v := .ref (b 1 0)) (C := RX5) (T := TX5) (N := 7) hx hb hts inX5 hown hK hP 0 rfl rfl 0 (by decide) f10 (fun _ h9 => h9) rfl dX5_of_1 ?_
  refine lv_iload_n hx hb dX5_of_4 rfl (lv_at hl 1 rfl) ?_
  refine callE (W.runV (As := [.int x0]) (rest := []) ⟨hx, hb, hml, hown, hts⟩ (k_X3_has l D cI cL cS (b 1) (sCo s1) (sGu s1) (sKn s1) (sFo s1) (sSp s1) w1 (sKi s1) (sPl s1) (sEa s1) (sTo s1) (sQu s1) m1 n1 x0 o1.1.gu) (cwV 1 hts gX5_of_X3_has rfl rfl rfl (by decide +kernel) ⟨Nat.le_of_ble_eq_true rfl, Nat.le_of_ble_eq_true rfl⟩) ⟨PcR_fb, va_recv hK hP (ci := 1) (q0 := 1) rfl rfl, PcR_pre (va_seg hP 1 12 rfl) hK⟩ rfl rfl hl.1 rfl (lv_room (Nat.le_of_ble_eq_true rfl)) dX5_of_5 ⟨Nat.zero_le _, Nat.zero_le _⟩) ?_
  refine lv_if_ne (tgt := 18) hx hb dX5_of_8 (by decide) (fun c_1 => ?_) (fun c_1 => ?_)
  · skip
    have c_1b := bI_n c_1
    have h8 : vp_in x0 8 := in_8 o1.1.gu c_1b
    refine lv_iload_n hx hb dX5_of_18 rfl (lv_at hl 2 rfl) ?_
    by_cases c_2 : x1 = 0
    · refine lv_tableIn (tgt := 68) hx hb dX5_of_19 (by rw [c_2]; decide) (by rw [c_2]; decide) (by rw [c_2]; rfl) (by decide) ?_
      refine lv_aload_n hx hb dX5_of_68 rfl (lv_at hl 0 rfl) ?_
      refine va_get (ci := 3) (v := .ref (b 1 0)) (C := RX5) (T := TX5) (N := 7) hx hb hts inX5 hown hK hP 0 rfl rfl 0 (by decide) f10 (fun _ h9 => h9) rfl dX5_of_69 ?_
      refine va_get (ci := 1) (v := .ref (b 1 5)) (C := RX3) (T := TX3) (N := 13) hx hb hts inX3 hown hK hP 1 rfl rfl 6 (by decide) f101 (fun _ h9 => h9) rfl dX5_of_72 ?_
      refine lv_iload_n hx hb dX5_of_75 rfl (lv_at hl 1 rfl) ?_
      refine va_iald hx hb hK hP 6 0 rfl rfl (by assumption) dX5_of_76 ?_
      exact W.iret hx hb hr (fun t ht hW => ⟨⟨_, (fnd), rfl, (by unfold sOf; rw [iF_t c_1b]; simp [c_2]), by dsimp only; rw [ht]; exact hP⟩, hS.F ht⟩) hS.2.2 dX5_of_77
    by_cases c_3 : x1 = 1
    · refine lv_tableIn (tgt := 78) hx hb dX5_of_19 (by rw [c_3]; decide) (by rw [c_3]; decide) (by rw [c_3]; rfl) (by decide) ?_
      refine lv_aload_n hx hb dX5_of_78 rfl (lv_at hl 0 rfl) ?_
      refine va_get (ci := 3) (v := .ref (b 1 0)) (C := RX5) (T := TX5) (N := 7) hx hb hts inX5 hown hK hP 0 rfl rfl 0 (by decide) f10 (fun _ h9 => h9) rfl dX5_of_79 ?_
      refine va_get (ci := 1) (v := .ref (b 1 6)) (C := RX3) (T := TX3) (N := 13) hx hb hts inX3 hown hK hP 1 rfl rfl 7 (by decide) f104 (fun _ h9 => h9) rfl dX5_of_82 ?_
      refine lv_iload_n hx hb dX5_of_85 rfl (lv_at hl 1 rfl) ?_
      refine va_iald hx hb hK hP 7 0 rfl rfl (by assumption) dX5_of_86 ?_
      exact W.iret hx hb hr (fun t ht hW => ⟨⟨_, (fnd), rfl, (by unfold sOf; rw [iF_t c_1b]; simp [c_3]), by dsimp only; rw [ht]; exact hP⟩, hS.F ht⟩) hS.2.2 dX5_of_87
    by_cases c_4 : x1 = 2
    · refine lv_tableIn (tgt := 88) hx hb dX5_of_19 (by rw [c_4]; decide) (by rw [c_4]; decide) (by rw [c_4]; rfl) (by decide) ?_
      refine lv_bipush (v := 100) hx hb dX5_of_88 (by decide) ?_
      refine lv_aload_n hx hb dX5_of_90 rfl (lv_at hl 0 rfl) ?_
      refine va_get (ci := 3) (v := .ref (b 1 0)) (C := RX5) (T := TX5) (N := 7) hx hb hts inX5 hown hK hP 0 rfl rfl 0 (by decide) f10 (fun _ h9 => h9) rfl dX5_of_91 ?_
      refine va_get (ci := 1) (v := .ref (b 1 7)) (C := RX3) (T := TX3) (N := 13) hx hb hts inX3 hown hK hP 1 rfl rfl 8 (by decide) f107 (fun _ h9 => h9) rfl dX5_of_94 ?_
      refine lv_iload_n hx hb dX5_of_97 rfl (lv_at hl 1 rfl) ?_
      refine va_iald hx hb hK hP 8 0 rfl rfl (by assumption) dX5_of_98 ?_
      refine lv_iadd hx hb dX5_of_99 ?_
      exact W.iret hx hb hr (fun t ht hW => ⟨⟨_, (fnd), rfl, (by unfold sOf; rw [iF_t c_1b]; simp [c_4]), by dsimp only; rw [ht]; exact hP⟩, hS.F ht⟩) hS.2.2 dX5_of_100
    by_cases c_5 : x1 = 3
    · refine lv_tableIn (tgt := 101) hx hb dX5_of_19 (by rw [c_5]; decide) (by rw [c_5]; decide) (by rw [c_5]; rfl) (by decide) ?_
      refine lv_aload_n hx hb dX5_of_101 rfl (lv_at hl 0 rfl) ?_
      refine va_get (ci := 3) (v := .ref (b 1 0)) (C := RX5) (T := TX5) (N := 7) hx hb hts inX5 hown hK hP 0 rfl rfl 0 (by decide) f10 (fun _ h9 => h9) rfl dX5_of_102 ?_
      refine va_get (ci := 1) (v := .ref (b 1 8)) (C := RX3) (T := TX3) (N := 13) hx hb hts inX3 hown hK hP 1 rfl rfl 9 (by decide) f110 (fun _ h9 => h9) rfl dX5_of_105 ?_
      refine lv_iload_n hx hb dX5_of_108 rfl (lv_at hl 1 rfl) ?_
      refine va_iald hx hb hK hP 9 0 rfl rfl (by assumption) dX5_of_109 ?_
      exact W.iret hx hb hr (fun t ht hW => ⟨⟨_, (fnd), rfl, (by unfold sOf; rw [iF_t c_1b]; simp [c_5]), by dsimp only; rw [ht]; exact hP⟩, hS.F ht⟩) hS.2.2 dX5_of_110
    by_cases c_6 : x1 = 4
    · refine lv_tableIn (tgt := 111) hx hb dX5_of_19 (by rw [c_6]; decide) (by rw [c_6]; decide) (by rw [c_6]; rfl) (by decide) ?_
      refine lv_aload_n hx hb dX5_of_111 rfl (lv_at hl 0 rfl) ?_
      refine va_get (ci := 3) (v := .ref (b 1 0)) (C := RX5) (T := TX5) (N := 7) hx hb hts inX5 hown hK hP 0 rfl rfl 0 (by decide) f10 (fun _ h9 => h9) rfl dX5_of_112 ?_
      refine va_get (ci := 1) (v := .ref (b 1 9)) (C := RX3) (T := TX3) (N := 13) hx hb hts inX3 hown hK hP 1 rfl rfl 10 (by decide) f113 (fun _ h9 => h9) rfl dX5_of_115 ?_
      refine lv_iload_n hx hb dX5_of_118 rfl (lv_at hl 1 rfl) ?_
      refine va_iald hx hb hK hP 10 0 rfl rfl (by assumption) dX5_of_119 ?_
      exact W.iret hx hb hr (fun t ht hW => ⟨⟨_, (fnd), rfl, (by unfold sOf; rw [iF_t c_1b]; simp [c_6]), by dsimp only; rw [ht]; exact hP⟩, hS.F ht⟩) hS.2.2 dX5_of_120
    by_cases c_7 : x1 = 5
    · refine lv_tableIn (tgt := 121) hx hb dX5_of_19 (by rw [c_7]; decide) (by rw [c_7]; decide) (by rw [c_7]; rfl) (by decide) ?_
      refine lv_bipush (v := 100) hx hb dX5_of_121 (by decide) ?_
      refine lv_aload_n hx hb dX5_of_123 rfl (lv_at hl 0 rfl) ?_
      refine va_get (ci := 3) (v := .ref (b 1 0)) (C := RX5) (T := TX5) (N := 7) hx hb hts inX5 hown hK hP 0 rfl rfl 0 (by decide) f10 (fun _ h9 => h9) rfl dX5_of_124 ?_
      refine lv_iload_n hx hb dX5_of_127 rfl (lv_at hl 1 rfl) ?_
      refine callE (W.runV (As := [.int x0]) (rest := [.int 100]) ⟨hx, hb, hml, hown, hts⟩ (k_X3_feeling l D cI cL cS (b 1) (sCo s1) (sGu s1) (sKn s1) (sFo s1) (sSp s1) w1 (sKi s1) (sPl s1) (sEa s1) (sTo s1) (sQu s1) m1 n1 x0 o1.1 h8) (cwV 1 hts gX5_of_X3_feeling rfl rfl rfl (by decide +kernel) ⟨Nat.le_of_ble_eq_true rfl, Nat.le_of_ble_eq_true rfl⟩) ⟨PcR_fb, va_recv hK hP (ci := 1) (q0 := 1) rfl rfl, PcR_pre (va_seg hP 1 12 rfl) hK⟩ rfl rfl hl.1 rfl (lv_room (Nat.le_of_ble_eq_true rfl)) dX5_of_128 ⟨Nat.zero_le _, Nat.zero_le _⟩) ?_
      refine lv_iadd hx hb dX5_of_131 ?_
      exact W.iret hx hb hr (fun t ht hW => ⟨⟨_, (fnd), rfl, (by unfold sOf; rw [iF_t c_1b]; simp [c_7]), by dsimp only; rw [ht]; exact hP⟩, hS.F ht⟩) hS.2.2 dX5_of_132
    by_cases c_8 : x1 = 6
    · refine lv_tableIn (tgt := 133) hx hb dX5_of_19 (by rw [c_8]; decide) (by rw [c_8]; decide) (by rw [c_8]; rfl) (by decide) ?_
      refine lv_bipush (v := 100) hx hb dX5_of_133 (by decide) ?_
      refine lv_aload_n hx hb dX5_of_135 rfl (lv_at hl 0 rfl) ?_
      refine va_get (ci := 3) (v := .ref (b 1 0)) (C := RX5) (T := TX5) (N := 7) hx hb hts inX5 hown hK hP 0 rfl rfl 0 (by decide) f10 (fun _ h9 => h9) rfl dX5_of_136 ?_
      refine lv_iload_n hx hb dX5_of_139 rfl (lv_at hl 1 rfl) ?_
      refine callE (W.runV (As := [.int x0]) (rest := [.int 100]) ⟨hx, hb, hml, hown, hts⟩ (k_X3_caught l D cI cL cS (b 1) (sCo s1) (sGu s1) (sKn s1) (sFo s1) (sSp s1) w1 (sKi s1) (sPl s1) (sEa s1) (sTo s1) (sQu s1) m1 n1 x0 o1.1 h8) (cwV 1 hts gX5_of_X3_caught rfl rfl rfl (by decide +kernel) ⟨Nat.le_of_ble_eq_true rfl, Nat.le_of_ble_eq_true rfl⟩) ⟨PcR_fb, va_recv hK hP (ci := 1) (q0 := 1) rfl rfl, PcR_pre (va_seg hP 1 12 rfl) hK⟩ rfl rfl hl.1 rfl (lv_room (Nat.le_of_ble_eq_true rfl)) dX5_of_140 ⟨Nat.zero_le _, Nat.zero_le _⟩) ?_
      refine lv_iadd hx hb dX5_of_143 ?_
      exact W.iret hx hb hr (fun t ht hW => ⟨⟨_, (fnd), rfl, (by unfold sOf; rw [iF_t c_1b]; simp [c_8]), by dsimp only; rw [ht]; exact hP⟩, hS.F ht⟩) hS.2.2 dX5_of_144
    by_cases c_9 : x1 = 7
    · refine lv_tableIn (tgt := 145) hx hb dX5_of_19 (by rw [c_9]; decide) (by rw [c_9]; decide) (by rw [c_9]; rfl) (by decide) ?_
      refine lv_bipush (v := 100) hx hb dX5_of_145 (by decide) ?_
      refine lv_aload_n hx hb dX5_of_147 rfl (lv_at hl 0 rfl) ?_
      refine va_get (ci := 3) (v := .ref (b 1 0)) (C := RX5) (T := TX5) (N := 7) hx hb hts inX5 hown hK hP 0 rfl rfl 0 (by decide) f10 (fun _ h9 => h9) rfl dX5_of_148 ?_
      refine va_get (ci := 1) (v := .ref (b 1 5)) (C := RX3) (T := TX3) (N := 13) hx hb hts inX3 hown hK hP 1 rfl rfl 6 (by decide) f101 (fun _ h9 => h9) rfl dX5_of_151 ?_
      refine lv_iload_n hx hb dX5_of_154 rfl (lv_at hl 1 rfl) ?_
      refine va_iald hx hb hK hP 6 0 rfl rfl (by assumption) dX5_of_155 ?_
      refine callE (W.runS (As := [.int ((sKi s1) (ix x0))]) (rest := [.int 100]) ⟨hx, hb, hml, hown, hts⟩ (k_X1_soreBelow l ((sKi s1) (ix x0))) (va_cwS 1 hts gX5_of_X1_soreBelow rfl rfl rfl (by decide +kernel) ⟨Nat.le_of_ble_eq_true rfl, Nat.le_of_ble_eq_true rfl⟩) ⟨PcP_fb, fun U _ _ => ⟨rfl, trivial⟩⟩ rfl rfl hl.1 rfl (lv_room (Nat.le_of_ble_eq_true rfl)) dX5_of_156 ⟨Nat.zero_le _, Nat.zero_le _⟩) ?_
      refine lv_iadd hx hb dX5_of_159 ?_
      exact W.iret hx hb hr (fun t ht hW => ⟨⟨_, (fnd), rfl, (by unfold sOf; rw [iF_t c_1b]; simp [c_9]), by dsimp only; rw [ht]; exact hP⟩, hS.F ht⟩) hS.2.2 dX5_of_160
    by_cases c_10 : x1 = 8
    · refine lv_tableIn (tgt := 161) hx hb dX5_of_19 (by rw [c_10]; decide) (by rw [c_10]; decide) (by rw [c_10]; rfl) (by decide) ?_
      refine lv_aload_n hx hb dX5_of_161 rfl (lv_at hl 0 rfl) ?_
      refine va_get (ci := 3) (v := .ref (b 1 0)) (C := RX5) (T := TX5) (N := 7) hx hb hts inX5 hown hK hP 0 rfl rfl 0 (by decide) f10 (fun _ h9 => h9) rfl dX5_of_162 ?_
      refine lv_iload_n hx hb dX5_of_165 rfl (lv_at hl 1 rfl) ?_
      refine callE (W.runV (As := [.int x0]) (rest := []) ⟨hx, hb, hml, hown, hts⟩ (k_X3_neighbours l D cI cL cS (b 1) (sCo s1) (sGu s1) (sKn s1) (sFo s1) (sSp s1) w1 (sKi s1) (sPl s1) (sEa s1) (sTo s1) (sQu s1) m1 n1 x0 o1.1 h8) (cwV 1 hts gX5_of_X3_neighbours rfl rfl rfl (by decide +kernel) ⟨Nat.le_of_ble_eq_true rfl, Nat.le_of_ble_eq_true rfl⟩) ⟨PcR_fb, va_recv hK hP (ci := 1) (q0 := 1) rfl rfl, PcR_pre (va_seg hP 1 12 rfl) hK⟩ rfl rfl hl.1 rfl (lv_room (Nat.le_of_ble_eq_true rfl)) dX5_of_166 ⟨Nat.zero_le _, Nat.zero_le _⟩) ?_
      exact W.iret hx hb hr (fun t ht hW => ⟨⟨_, (fnd), rfl, (by unfold sOf; rw [iF_t c_1b]; simp [c_10]), by dsimp only; rw [ht]; exact hP⟩, hS.F ht⟩) hS.2.2 dX5_of_169
    refine lv_tableOut (tgt := 170) hx hb dX5_of_19 (by have := lv_neT c_2 (a := 0) rfl; have := lv_neT c_3 (a := 1) rfl; have := lv_neT c_4 (a := 2) rfl; have := lv_neT c_5 (a := 3) rfl; have := lv_neT c_6 (a := 4) rfl; have := lv_neT c_7 (a := 5) rfl; have := lv_neT c_8 (a := 6) rfl; have := lv_neT c_9 (a := 7) rfl; have := lv_neT c_10 (a := 8) rfl; omega) (by decide) ?_
    refine lv_aload_n hx hb dX5_of_170 rfl (lv_at hl 0 rfl) ?_
    refine lv_ldc hx hb hown k52 dX5_of_171 ?_
    refine callMi (va_runV (As := [.int (-1000000001)]) (rest := []) ⟨hx, hb, hml, hown, hts⟩ (k_X5_found l D cI cL cS b s1 w1 m1 n1 s2 w2 m2 n2 s3 w3 m3 n3 ik bt ln tk sb en nm bits size num fnd (-1000000001) (va_DT (hD _ rfl) rfl) (vp_in_iff.mpr (by decide))) (cwV 1 hts gX5_of_X5_found rfl rfl rfl (by decide +kernel) ⟨Nat.le_of_ble_eq_true rfl, Nat.le_of_ble_eq_true rfl⟩) ⟨PcR_fb, va_recv hK hP (ci := 3) (q0 := 0) rfl rfl, PcR_pre hP hK⟩ rfl rfl hl.1 rfl (lv_room (Nat.le_of_ble_eq_true rfl)) dX5_of_173 ⟨Nat.zero_le _, Nat.zero_le _⟩) hP (hD _ rfl) hS 0 49 rfl (fun r_12 u_11 H locs hu_11 hP hS => ?_)
    obtain ⟨hu_11r, -⟩ := hu_11
    subst hu_11r
    have hP : va_P D vwCl (kcw cI cL cS b s1 w1 m1 n1 s2 w2 m2 n2 s3 w3 m3 n3 ik bt ln tk sb en nm bits size num (bump fnd (-1000000001))) H := hP
    exact W.iret hx hb hr (fun t ht hW => ⟨⟨_, (bump fnd (-1000000001)), rfl, (by unfold sOf; rw [iF_t c_1b]; simp [c_2, c_3, c_4, c_5, c_6, c_7, c_8, c_9, c_10]), by dsimp only; rw [ht]; exact hP⟩, hS.F ht⟩) hS.2.2 dX5_of_176
  · skip
    have c_1b := bI_0 c_1
    refine lv_aload_n hx hb dX5_of_11 rfl (lv_at hl 0 rfl) ?_
    refine lv_ldc hx hb hown k52 dX5_of_12 ?_
    refine callMi (va_runV (As := [.int (-1000000001)]) (rest := []) ⟨hx, hb, hml, hown, hts⟩ (k_X5_found l D cI cL cS b s1 w1 m1 n1 s2 w2 m2 n2 s3 w3 m3 n3 ik bt ln tk sb en nm bits size num fnd (-1000000001) (va_DT (hD _ rfl) rfl) (vp_in_iff.mpr (by decide))) (cwV 1 hts gX5_of_X5_found rfl rfl rfl (by decide +kernel) ⟨Nat.le_of_ble_eq_true rfl, Nat.le_of_ble_eq_true rfl⟩) ⟨PcR_fb, va_recv hK hP (ci := 3) (q0 := 0) rfl rfl, PcR_pre hP hK⟩ rfl rfl hl.1 rfl (lv_room (Nat.le_of_ble_eq_true rfl)) dX5_of_14 ⟨Nat.zero_le _, Nat.zero_le _⟩) hP (hD _ rfl) hS 0 49 rfl (fun r_14 u_13 H locs hu_13 hP hS => ?_)
    obtain ⟨hu_13r, -⟩ := hu_13
    subst hu_13r
    have hP : va_P D vwCl (kcw cI cL cS b s1 w1 m1 n1 s2 w2 m2 n2 s3 w3 m3 n3 ik bt ln tk sb en nm bits size num (bump fnd (-1000000001))) H := hP
    exact W.iret hx hb hr (fun t ht hW => ⟨⟨_, (bump fnd (-1000000001)), rfl, (by exact (iF_f c_1b).symm), by dsimp only; rw [ht]; exact hP⟩, hS.F ht⟩) hS.2.2 dX5_of_17

set_option maxRecDepth 100000 in
set_option maxHeartbeats 4000000 in
theorem k_X5_set (l : Launch) (D : va_G) (cI cL cS : ClassId) (b : Nat → Nat → Nat) (s1 : Sg) (w1 m1 n1 : FI) (s2 : Sg) (w2 m2 n2 : FI) (s3 : Sg) (w3 m3 n3 : FI) (ik : Int32) (bt : FI) (ln tk sb en nm : Int32) (bits size : FI) (num : Nat → FJ) (fnd : FI) (x0 : Int32) (x1 : Int32) (x2 : Int32) (dj : va_D (fun _ => True) (djk b)) (o1 : okS s1 w1) : Met l yX5_set wsX5_set { frames := 1, cells := 0, slots := 0, locals := 22 } (PcR D vwCl (tyG cI cL cS) [.ref (b 0 0), .int x0, .int x1, .int x2] (kcw cI cL cS b s1 w1 m1 n1 s2 w2 m2 n2 s3 w3 m3 n3 ik bt ln tk sb en nm bits size num fnd)) (va_Qi (fun (r : Int32) (u : Sg × FI) => (r, u.1, u.2) = sSetv s1 fnd x0 x1 x2 ∧ okS u.1 w1) (fun u t => va_P D vwCl (kcw cI cL cS b u.1 w1 m1 n1 s2 w2 m2 n2 s3 w3 m3 n3 ik bt ln tk sb en nm bits size num u.2) t.heap) (Aof (kcw cI cL cS b s1 w1 m1 n1 s2 w2 m2 n2 s3 w3 m3 n3 ik bt ln tk sb en nm bits size num fnd))) 0 0 (Aof (kcw cI cL cS b s1 w1 m1 n1 s2 w2 m2 n2 s3 w3 m3 n3 ik bt ln tk sb en nm bits size num fnd)) := by
  refine Met.ofW (cc := cX5_set) (maxL := 6) (ret := (some .int)) (by decide) rfl ?_
  intro p e s m args below meth c s₁ B hml hv
  obtain ⟨rfl, hP, hK⟩ := hv
  have hx := B.exec
  have hb := B.bytes
  have hr := B.returns
  have hts := atoms_spec (ws := wsX5_set) B.pre
  have hown : s.vm.findClass RX5 = some m.cls := findClass_of_methodNamed B.named
  have hlocks := B.notSynchronized
  obtain ⟨A, hAe⟩ : ∃ A, A = Aof (kcw cI cL cS b s1 w1 m1 n1 s2 w2 m2 n2 s3 w3 m3 n3 ik bt ln tk sb en nm bits size num fnd) := ⟨_, rfl⟩
  rw [← hAe]
  have hD : ∀ ws' : va_W, ws'.map Prod.fst = (kcw cI cL cS b s1 w1 m1 n1 s2 w2 m2 n2 s3 w3 m3 n3 ik bt ln tk sb en nm bits size num fnd).map Prod.fst → va_D A ws' := fun ws' e => by rw [hAe]; exact va_D_adr (va_D_self (va_D_adr dj rfl)) e
  have hS : va_S A s.heap s.heap [] := va_S.rf
  have hP : va_P D vwCl (kcw cI cL cS b s1 w1 m1 n1 s2 w2 m2 n2 s3 w3 m3 n3 ik bt ln tk sb en nm bits size num fnd) s.heap := hP
  have hl := lv_entry ([.ref (b 0 0), .int x0, .int x1, .int x2]) (n := 6) (Nat.le_of_ble_eq_true rfl)
  rw [lg_entry_eq]
  generalize (lg_sl ([.ref (b 0 0), .int x0, .int x1, .int x2]) ++ List.replicate (6 - (lg_sl ([.ref (b 0 0), .int x0, .int x1, .int x2])).length) Slot.unset).toArray = ls at hl ⊢
  have hl : lv_has ls 6 [(0, .ref (b 0 0)), (1, .int x0), (2, .int x1), (3, .int x2)] := hl
  have f10 := hts (.fieldLink RX5 10 "KnivesLaid" "table" "LKnivesLaid$Table;") (List.mem_of_getElem? (i := 1) rfl)
  have inX5 : ∀ w ∈ u_ws RX5 TX5 7, w ∈ wsX5_set := in_at 21 _ _ rfl
  have k52 := hts (.constant RX5 52 (-1000000001)) (List.mem_of_getElem? (i := 2) rfl)
  have f107 := hts (.fieldLink RX5 107 "KnivesLaid$Table" "ease" "[I") (List.mem_of_getElem? (i := 3) rfl)
  have inX3 : ∀ w ∈ u_ws RX3 TX3 13, w ∈ wsX5_set := in_at 28 _ _ rfl
  have f110 := hts (.fieldLink RX5 110 "KnivesLaid$Table" "told" "[I") (List.mem_of_getElem? (i := 4) rfl)
  have f113 := hts (.fieldLink RX5 113 "KnivesLaid$Table" "quarrelled" "[I") (List.mem_of_getElem? (i := 5) rfl)
  skip
  refine lv_aload_n hx hb dX5_set_0 rfl (lv_at hl 0 rfl) ?_
  refine va_get (ci := 3) (v := .ref (b 1 0)) (C := RX5) (T := TX5) (N := 7) hx hb hts inX5 hown hK hP 0 rfl rfl 0 (by decide) f10 (fun _ h9 => h9) rfl dX5_set_1 ?_
  refine lv_iload_n hx hb dX5_set_4 rfl (lv_at hl 1 rfl) ?_
  refine callE (W.runV (As := [.int x0]) (rest := []) ⟨hx, hb, hml, hown, hts⟩ (k_X3_has l D cI cL cS (b 1) (sCo s1) (sGu s1) (sKn s1) (sFo s1) (sSp s1) w1 (sKi s1) (sPl s1) (sEa s1) (sTo s1) (sQu s1) m1 n1 x0 o1.1.gu) (cwV 1 hts gX5_set_X3_has rfl rfl rfl (by decide +kernel) ⟨Nat.le_of_ble_eq_true rfl, Nat.le_of_ble_eq_true rfl⟩) ⟨PcR_fb, va_recv hK hP (ci := 1) (q0 := 1) rfl rfl, PcR_pre (va_seg hP 1 12 rfl) hK⟩ rfl rfl hl.1 rfl (lv_room (Nat.le_of_ble_eq_true rfl)) dX5_set_5 ⟨Nat.zero_le _, Nat.zero_le _⟩) ?_
  refine lv_if_eq (tgt := 21) hx hb dX5_set_8 (by decide) (fun c_1 => ?_) (fun c_1 => ?_)
  · skip
    have c_1b := bI_0 c_1
    refine lv_aload_n hx hb dX5_set_21 rfl (lv_at hl 0 rfl) ?_
    refine lv_ldc hx hb hown k52 dX5_set_22 ?_
    refine callMi (va_runV (As := [.int (-1000000001)]) (rest := []) ⟨hx, hb, hml, hown, hts⟩ (k_X5_found l D cI cL cS b s1 w1 m1 n1 s2 w2 m2 n2 s3 w3 m3 n3 ik bt ln tk sb en nm bits size num fnd (-1000000001) (va_DT (hD _ rfl) rfl) (vp_in_iff.mpr (by decide))) (cwV 1 hts gX5_set_X5_found rfl rfl rfl (by decide +kernel) ⟨Nat.le_of_ble_eq_true rfl, Nat.le_of_ble_eq_true rfl⟩) ⟨PcR_fb, va_recv hK hP (ci := 3) (q0 := 0) rfl rfl, PcR_pre hP hK⟩ rfl rfl hl.1 rfl (lv_room (Nat.le_of_ble_eq_true rfl)) dX5_set_24 ⟨Nat.zero_le _, Nat.zero_le _⟩) hP (hD _ rfl) hS 0 49 rfl (fun r_3 u_2 H locs hu_2 hP hS => ?_)
    obtain ⟨hu_2r, -⟩ := hu_2
    subst hu_2r
    have hP : va_P D vwCl (kcw cI cL cS b s1 w1 m1 n1 s2 w2 m2 n2 s3 w3 m3 n3 ik bt ln tk sb en nm bits size num (bump fnd (-1000000001))) H := hP
    exact W.iret hx hb hr (fun t ht hW => ⟨⟨_, (s1, bump fnd (-1000000001)), rfl, (by exact ⟨by exact (iF_f (fun h => by rcases h.2 with q | q <;> first | exact absurd h.1 c_1b | exact absurd q.1 c_1b | exact set_no1 q.1 (by first | exact Or.inl c_1b | exact Or.inr c_1b) | exact set_no2 q.2.1 (by first | exact Or.inl c_1b | exact Or.inr c_1b))).symm, o1⟩), by dsimp only; rw [ht]; exact hP⟩, hS.F ht⟩) hS.2.2 dX5_set_27
  · skip
    have c_1b := bI_n c_1
    have h8 : vp_in x0 8 := in_8 o1.1.gu c_1b
    refine lv_iload_n hx hb dX5_set_11 rfl (lv_at hl 2 rfl) ?_
    refine lv_iconst (v := 2) hx hb dX5_set_12 (by decide) ?_
    refine lv_icmp_lt (tgt := 21) hx hb dX5_set_13 (by decide) (fun c_4 => ?_) (fun c_4 => ?_)
    · skip
      refine lv_aload_n hx hb dX5_set_21 rfl (lv_at hl 0 rfl) ?_
      refine lv_ldc hx hb hown k52 dX5_set_22 ?_
      refine callMi (va_runV (As := [.int (-1000000001)]) (rest := []) ⟨hx, hb, hml, hown, hts⟩ (k_X5_found l D cI cL cS b s1 w1 m1 n1 s2 w2 m2 n2 s3 w3 m3 n3 ik bt ln tk sb en nm bits size num fnd (-1000000001) (va_DT (hD _ rfl) rfl) (vp_in_iff.mpr (by decide))) (cwV 1 hts gX5_set_X5_found rfl rfl rfl (by decide +kernel) ⟨Nat.le_of_ble_eq_true rfl, Nat.le_of_ble_eq_true rfl⟩) ⟨PcR_fb, va_recv hK hP (ci := 3) (q0 := 0) rfl rfl, PcR_pre hP hK⟩ rfl rfl hl.1 rfl (lv_room (Nat.le_of_ble_eq_true rfl)) dX5_set_24 ⟨Nat.zero_le _, Nat.zero_le _⟩) hP (hD _ rfl) hS 0 49 rfl (fun r_6 u_5 H locs hu_5 hP hS => ?_)
      obtain ⟨hu_5r, -⟩ := hu_5
      subst hu_5r
      have hP : va_P D vwCl (kcw cI cL cS b s1 w1 m1 n1 s2 w2 m2 n2 s3 w3 m3 n3 ik bt ln tk sb en nm bits size num (bump fnd (-1000000001))) H := hP
      exact W.iret hx hb hr (fun t ht hW => ⟨⟨_, (s1, bump fnd (-1000000001)), rfl, (by exact ⟨by exact (iF_f (fun h => by rcases h.2 with q | q <;> first | exact absurd h.1 c_4 | exact absurd q.1 c_4 | exact set_no1 q.1 (by first | exact Or.inl c_4 | exact Or.inr c_4) | exact set_no2 q.2.1 (by first | exact Or.inl c_4 | exact Or.inr c_4))).symm, o1⟩), by dsimp only; rw [ht]; exact hP⟩, hS.F ht⟩) hS.2.2 dX5_set_27
    · skip
      refine lv_iload_n hx hb dX5_set_16 rfl (lv_at hl 2 rfl) ?_
      refine lv_iconst (v := 4) hx hb dX5_set_17 (by decide) ?_
      refine lv_icmp_le (tgt := 28) hx hb dX5_set_18 (by decide) (fun c_7 => ?_) (fun c_7 => ?_)
      · skip
        refine lv_iload_n hx hb dX5_set_28 rfl (lv_at hl 2 rfl) ?_
        refine lv_iconst (v := 2) hx hb dX5_set_29 (by decide) ?_
        refine lv_icmp_ne (tgt := 47) hx hb dX5_set_30 (by decide) (fun c_8 => ?_) (fun c_8 => ?_)
        · skip
          refine lv_iload_n hx hb dX5_set_47 rfl (lv_at hl 3 rfl) ?_
          refine lv_iconst (v := 0) hx hb dX5_set_48 (by decide) ?_
          refine lv_sipush (v := 9999) hx hb dX5_set_49 (by decide) ?_
          refine callE (W.runS (As := [.int x2, .int 0, .int 9999]) (rest := []) ⟨hx, hb, hml, hown, hts⟩ (k_X5_within l x2 0 9999) (va_cwS 3 hts gX5_set_X5_within rfl rfl rfl (by decide +kernel) ⟨Nat.le_of_ble_eq_true rfl, Nat.le_of_ble_eq_true rfl⟩) ⟨PcP_fb, fun U _ _ => ⟨rfl, trivial⟩⟩ rfl rfl hl.1 rfl (lv_room (Nat.le_of_ble_eq_true rfl)) dX5_set_52 ⟨Nat.zero_le _, Nat.zero_le _⟩) ?_
          refine lv_if_ne (tgt := 65) hx hb dX5_set_55 (by decide) (fun c_9 => ?_) (fun c_9 => ?_)
          · skip
            have c_9b := bI_n c_9
            refine lv_iload_n hx hb dX5_set_65 rfl (lv_at hl 2 rfl) ?_
            refine lv_iconst (v := 2) hx hb dX5_set_66 (by decide) ?_
            refine lv_icmp_ne (tgt := 80) hx hb dX5_set_67 (by decide) (fun c_10 => ?_) (fun c_10 => ?_)
            · skip
              refine lv_iload_n hx hb dX5_set_80 rfl (lv_at hl 2 rfl) ?_
              refine lv_iconst (v := 3) hx hb dX5_set_81 (by decide) ?_
              refine lv_icmp_ne (tgt := 95) hx hb dX5_set_82 (by decide) (fun c_11 => ?_) (fun c_11 => ?_)
              · skip
                refine lv_aload_n hx hb dX5_set_95 rfl (lv_at hl 0 rfl) ?_
                refine va_get (ci := 3) (v := .ref (b 1 0)) (C := RX5) (T := TX5) (N := 7) hx hb hts inX5 hown hK hP 0 rfl rfl 0 (by decide) f10 (fun _ h9 => h9) rfl dX5_set_96 ?_
                refine va_get (ci := 1) (v := .ref (b 1 9)) (C := RX3) (T := TX3) (N := 13) hx hb hts inX3 hown hK hP 1 rfl rfl 10 (by decide) f113 (fun _ h9 => h9) rfl dX5_set_99 ?_
                refine lv_astore (lv' := [(4, .ref (b 1 9)), (0, .ref (b 0 0)), (1, .int x0), (2, .int x1), (3, .int x2)]) hx hb dX5_set_102 hl (by decide) rfl (fun ls hl => ?_)
                refine lv_aload hx hb dX5_set_104 (lv_at hl 0 rfl) ?_
                refine lv_iload_n hx hb dX5_set_106 rfl (lv_at hl 2 rfl) ?_
                refine va_iald hx hb hK hP 10 0 rfl rfl (by assumption) dX5_set_107 ?_
                refine lv_istore (lv' := [(5, .int ((sQu s1) (ix x0))), (4, .ref (b 1 9)), (0, .ref (b 0 0)), (1, .int x0), (2, .int x1), (3, .int x2)]) hx hb dX5_set_108 hl (by decide) rfl (fun ls hl => ?_)
                refine lv_aload hx hb dX5_set_110 (lv_at hl 1 rfl) ?_
                refine lv_iload_n hx hb dX5_set_112 rfl (lv_at hl 3 rfl) ?_
                refine lv_iload_n hx hb dX5_set_113 rfl (lv_at hl 5 rfl) ?_
                refine va_iast hx hb hK hP (hD _ rfl) hS 10 0 rfl rfl (by assumption) dX5_set_114 (fun H locs hP _ hS => ?_)
                have hP : va_P D vwCl (kcw cI cL cS b (uQu s1 (upd (sQu s1) (ix x0) x2)) w1 m1 n1 s2 w2 m2 n2 s3 w3 m3 n3 ik bt ln tk sb en nm bits size num fnd) H := hP
                refine lv_iload hx hb dX5_set_115 (lv_at hl 0 rfl) ?_
                exact W.iret hx hb hr (fun t ht hW => ⟨⟨_, ((uQu s1 (upd (sQu s1) (ix x0) x2)), fnd), rfl, (by exact ⟨by unfold sSetv; rw [iF_t ⟨c_1b, Or.inr ⟨c_8, set_34 c_4 c_7 c_8, c_9b⟩⟩]; simp [c_8, c_10, c_11], ok_qu o1 (set_r9999 c_9b)⟩), by dsimp only; rw [ht]; exact hP⟩, hS.F ht⟩) hS.2.2 dX5_set_117
              · skip
                refine lv_aload_n hx hb dX5_set_85 rfl (lv_at hl 0 rfl) ?_
                refine va_get (ci := 3) (v := .ref (b 1 0)) (C := RX5) (T := TX5) (N := 7) hx hb hts inX5 hown hK hP 0 rfl rfl 0 (by decide) f10 (fun _ h9 => h9) rfl dX5_set_86 ?_
                refine va_get (ci := 1) (v := .ref (b 1 8)) (C := RX3) (T := TX3) (N := 13) hx hb hts inX3 hown hK hP 1 rfl rfl 9 (by decide) f110 (fun _ h9 => h9) rfl dX5_set_89 ?_
                refine lv_goto (tgt := 102) hx hb dX5_set_92 (by decide) ?_
                refine lv_astore (lv' := [(4, .ref (b 1 8)), (0, .ref (b 0 0)), (1, .int x0), (2, .int x1), (3, .int x2)]) hx hb dX5_set_102 hl (by decide) rfl (fun ls hl => ?_)
                refine lv_aload hx hb dX5_set_104 (lv_at hl 0 rfl) ?_
                refine lv_iload_n hx hb dX5_set_106 rfl (lv_at hl 2 rfl) ?_
                refine va_iald hx hb hK hP 9 0 rfl rfl (by assumption) dX5_set_107 ?_
                refine lv_istore (lv' := [(5, .int ((sTo s1) (ix x0))), (4, .ref (b 1 8)), (0, .ref (b 0 0)), (1, .int x0), (2, .int x1), (3, .int x2)]) hx hb dX5_set_108 hl (by decide) rfl (fun ls hl => ?_)
                refine lv_aload hx hb dX5_set_110 (lv_at hl 1 rfl) ?_
                refine lv_iload_n hx hb dX5_set_112 rfl (lv_at hl 3 rfl) ?_
                refine lv_iload_n hx hb dX5_set_113 rfl (lv_at hl 5 rfl) ?_
                refine va_iast hx hb hK hP (hD _ rfl) hS 9 0 rfl rfl (by assumption) dX5_set_114 (fun H locs hP _ hS => ?_)
                have hP : va_P D vwCl (kcw cI cL cS b (uTo s1 (upd (sTo s1) (ix x0) x2)) w1 m1 n1 s2 w2 m2 n2 s3 w3 m3 n3 ik bt ln tk sb en nm bits size num fnd) H := hP
                refine lv_iload hx hb dX5_set_115 (lv_at hl 0 rfl) ?_
                exact W.iret hx hb hr (fun t ht hW => ⟨⟨_, ((uTo s1 (upd (sTo s1) (ix x0) x2)), fnd), rfl, (by exact ⟨by unfold sSetv; rw [iF_t ⟨c_1b, Or.inr ⟨c_8, set_34 c_4 c_7 c_8, c_9b⟩⟩]; simp [c_8, c_10, c_11], ok_to o1 (set_r9999 c_9b)⟩), by dsimp only; rw [ht]; exact hP⟩, hS.F ht⟩) hS.2.2 dX5_set_117
            · skip
              exact absurd c_10 c_8
          · skip
            have c_9b := bI_0 c_9
            refine lv_aload_n hx hb dX5_set_58 rfl (lv_at hl 0 rfl) ?_
            refine lv_ldc hx hb hown k52 dX5_set_59 ?_
            refine callMi (va_runV (As := [.int (-1000000001)]) (rest := []) ⟨hx, hb, hml, hown, hts⟩ (k_X5_found l D cI cL cS b s1 w1 m1 n1 s2 w2 m2 n2 s3 w3 m3 n3 ik bt ln tk sb en nm bits size num fnd (-1000000001) (va_DT (hD _ rfl) rfl) (vp_in_iff.mpr (by decide))) (cwV 1 hts gX5_set_X5_found rfl rfl rfl (by decide +kernel) ⟨Nat.le_of_ble_eq_true rfl, Nat.le_of_ble_eq_true rfl⟩) ⟨PcR_fb, va_recv hK hP (ci := 3) (q0 := 0) rfl rfl, PcR_pre hP hK⟩ rfl rfl hl.1 rfl (lv_room (Nat.le_of_ble_eq_true rfl)) dX5_set_61 ⟨Nat.zero_le _, Nat.zero_le _⟩) hP (hD _ rfl) hS 0 49 rfl (fun r_13 u_12 H locs hu_12 hP hS => ?_)
            obtain ⟨hu_12r, -⟩ := hu_12
            subst hu_12r
            have hP : va_P D vwCl (kcw cI cL cS b s1 w1 m1 n1 s2 w2 m2 n2 s3 w3 m3 n3 ik bt ln tk sb en nm bits size num (bump fnd (-1000000001))) H := hP
            exact W.iret hx hb hr (fun t ht hW => ⟨⟨_, (s1, bump fnd (-1000000001)), rfl, (by exact ⟨by exact (iF_f (fun h => by rcases h.2 with q | q <;> first | exact absurd q.2 c_9b | exact absurd q.2.2 c_9b | exact absurd q.1 c_8 | exact absurd c_8 q.1)).symm, o1⟩), by dsimp only; rw [ht]; exact hP⟩, hS.F ht⟩) hS.2.2 dX5_set_64
        · skip
          refine lv_iload_n hx hb dX5_set_33 rfl (lv_at hl 3 rfl) ?_
          refine lv_bipush (v := (-99)) hx hb dX5_set_34 (by decide) ?_
          refine lv_bipush (v := 99) hx hb dX5_set_36 (by decide) ?_
          refine callE (W.runS (As := [.int x2, .int (-99), .int 99]) (rest := []) ⟨hx, hb, hml, hown, hts⟩ (k_X5_within l x2 (-99) 99) (va_cwS 3 hts gX5_set_X5_within rfl rfl rfl (by decide +kernel) ⟨Nat.le_of_ble_eq_true rfl, Nat.le_of_ble_eq_true rfl⟩) ⟨PcP_fb, fun U _ _ => ⟨rfl, trivial⟩⟩ rfl rfl hl.1 rfl (lv_room (Nat.le_of_ble_eq_true rfl)) dX5_set_38 ⟨Nat.zero_le _, Nat.zero_le _⟩) ?_
          refine lv_if_ne (tgt := 65) hx hb dX5_set_41 (by decide) (fun c_14 => ?_) (fun c_14 => ?_)
          · skip
            have c_14b := bI_n c_14
            refine lv_iload_n hx hb dX5_set_65 rfl (lv_at hl 2 rfl) ?_
            refine lv_iconst (v := 2) hx hb dX5_set_66 (by decide) ?_
            refine lv_icmp_ne (tgt := 80) hx hb dX5_set_67 (by decide) (fun c_15 => ?_) (fun c_15 => ?_)
            · skip
              exact absurd c_8 c_15
            · skip
              refine lv_aload_n hx hb dX5_set_70 rfl (lv_at hl 0 rfl) ?_
              refine va_get (ci := 3) (v := .ref (b 1 0)) (C := RX5) (T := TX5) (N := 7) hx hb hts inX5 hown hK hP 0 rfl rfl 0 (by decide) f10 (fun _ h9 => h9) rfl dX5_set_71 ?_
              refine va_get (ci := 1) (v := .ref (b 1 7)) (C := RX3) (T := TX3) (N := 13) hx hb hts inX3 hown hK hP 1 rfl rfl 8 (by decide) f107 (fun _ h9 => h9) rfl dX5_set_74 ?_
              refine lv_goto (tgt := 102) hx hb dX5_set_77 (by decide) ?_
              refine lv_astore (lv' := [(4, .ref (b 1 7)), (0, .ref (b 0 0)), (1, .int x0), (2, .int x1), (3, .int x2)]) hx hb dX5_set_102 hl (by decide) rfl (fun ls hl => ?_)
              refine lv_aload hx hb dX5_set_104 (lv_at hl 0 rfl) ?_
              refine lv_iload_n hx hb dX5_set_106 rfl (lv_at hl 2 rfl) ?_
              refine va_iald hx hb hK hP 8 0 rfl rfl (by assumption) dX5_set_107 ?_
              refine lv_istore (lv' := [(5, .int ((sEa s1) (ix x0))), (4, .ref (b 1 7)), (0, .ref (b 0 0)), (1, .int x0), (2, .int x1), (3, .int x2)]) hx hb dX5_set_108 hl (by decide) rfl (fun ls hl => ?_)
              refine lv_aload hx hb dX5_set_110 (lv_at hl 1 rfl) ?_
              refine lv_iload_n hx hb dX5_set_112 rfl (lv_at hl 3 rfl) ?_
              refine lv_iload_n hx hb dX5_set_113 rfl (lv_at hl 5 rfl) ?_
              refine va_iast hx hb hK hP (hD _ rfl) hS 8 0 rfl rfl (by assumption) dX5_set_114 (fun H locs hP _ hS => ?_)
              have hP : va_P D vwCl (kcw cI cL cS b (uEa s1 (upd (sEa s1) (ix x0) x2)) w1 m1 n1 s2 w2 m2 n2 s3 w3 m3 n3 ik bt ln tk sb en nm bits size num fnd) H := hP
              refine lv_iload hx hb dX5_set_115 (lv_at hl 0 rfl) ?_
              exact W.iret hx hb hr (fun t ht hW => ⟨⟨_, ((uEa s1 (upd (sEa s1) (ix x0) x2)), fnd), rfl, (by exact ⟨by unfold sSetv; rw [iF_t ⟨c_1b, Or.inl ⟨c_8, c_14b⟩⟩]; simp [c_8, c_15], ok_ea o1 (set_r99 c_14b)⟩), by dsimp only; rw [ht]; exact hP⟩, hS.F ht⟩) hS.2.2 dX5_set_117
          · skip
            have c_14b := bI_0 c_14
            refine lv_goto (tgt := 58) hx hb dX5_set_44 (by decide) ?_
            refine lv_aload_n hx hb dX5_set_58 rfl (lv_at hl 0 rfl) ?_
            refine lv_ldc hx hb hown k52 dX5_set_59 ?_
            refine callMi (va_runV (As := [.int (-1000000001)]) (rest := []) ⟨hx, hb, hml, hown, hts⟩ (k_X5_found l D cI cL cS b s1 w1 m1 n1 s2 w2 m2 n2 s3 w3 m3 n3 ik bt ln tk sb en nm bits size num fnd (-1000000001) (va_DT (hD _ rfl) rfl) (vp_in_iff.mpr (by decide))) (cwV 1 hts gX5_set_X5_found rfl rfl rfl (by decide +kernel) ⟨Nat.le_of_ble_eq_true rfl, Nat.le_of_ble_eq_true rfl⟩) ⟨PcR_fb, va_recv hK hP (ci := 3) (q0 := 0) rfl rfl, PcR_pre hP hK⟩ rfl rfl hl.1 rfl (lv_room (Nat.le_of_ble_eq_true rfl)) dX5_set_61 ⟨Nat.zero_le _, Nat.zero_le _⟩) hP (hD _ rfl) hS 0 49 rfl (fun r_17 u_16 H locs hu_16 hP hS => ?_)
            obtain ⟨hu_16r, -⟩ := hu_16
            subst hu_16r
            have hP : va_P D vwCl (kcw cI cL cS b s1 w1 m1 n1 s2 w2 m2 n2 s3 w3 m3 n3 ik bt ln tk sb en nm bits size num (bump fnd (-1000000001))) H := hP
            exact W.iret hx hb hr (fun t ht hW => ⟨⟨_, (s1, bump fnd (-1000000001)), rfl, (by exact ⟨by exact (iF_f (fun h => by rcases h.2 with q | q <;> first | exact absurd q.2 c_14b | exact absurd q.2.2 c_14b | exact absurd q.1 c_8 | exact absurd c_8 q.1)).symm, o1⟩), by dsimp only; rw [ht]; exact hP⟩, hS.F ht⟩) hS.2.2 dX5_set_64
      · skip
        refine lv_aload_n hx hb dX5_set_21 rfl (lv_at hl 0 rfl) ?_
        refine lv_ldc hx hb hown k52 dX5_set_22 ?_
        refine callMi (va_runV (As := [.int (-1000000001)]) (rest := []) ⟨hx, hb, hml, hown, hts⟩ (k_X5_found l D cI cL cS b s1 w1 m1 n1 s2 w2 m2 n2 s3 w3 m3 n3 ik bt ln tk sb en nm bits size num fnd (-1000000001) (va_DT (hD _ rfl) rfl) (vp_in_iff.mpr (by decide))) (cwV 1 hts gX5_set_X5_found rfl rfl rfl (by decide +kernel) ⟨Nat.le_of_ble_eq_true rfl, Nat.le_of_ble_eq_true rfl⟩) ⟨PcR_fb, va_recv hK hP (ci := 3) (q0 := 0) rfl rfl, PcR_pre hP hK⟩ rfl rfl hl.1 rfl (lv_room (Nat.le_of_ble_eq_true rfl)) dX5_set_24 ⟨Nat.zero_le _, Nat.zero_le _⟩) hP (hD _ rfl) hS 0 49 rfl (fun r_19 u_18 H locs hu_18 hP hS => ?_)
        obtain ⟨hu_18r, -⟩ := hu_18
        subst hu_18r
        have hP : va_P D vwCl (kcw cI cL cS b s1 w1 m1 n1 s2 w2 m2 n2 s3 w3 m3 n3 ik bt ln tk sb en nm bits size num (bump fnd (-1000000001))) H := hP
        exact W.iret hx hb hr (fun t ht hW => ⟨⟨_, (s1, bump fnd (-1000000001)), rfl, (by exact ⟨by exact (iF_f (fun h => by rcases h.2 with q | q <;> first | exact absurd h.1 c_7 | exact absurd q.1 c_7 | exact set_no1 q.1 (by first | exact Or.inl c_7 | exact Or.inr c_7) | exact set_no2 q.2.1 (by first | exact Or.inl c_7 | exact Or.inr c_7))).symm, o1⟩), by dsimp only; rw [ht]; exact hP⟩, hS.F ht⟩) hS.2.2 dX5_set_27

set_option maxRecDepth 100000 in
set_option maxHeartbeats 4000000 in
theorem k_X5_seat (l : Launch) (D : va_G) (cI cL cS : ClassId) (b : Nat → Nat → Nat) (s1 : Sg) (w1 m1 n1 : FI) (s2 : Sg) (w2 m2 n2 : FI) (s3 : Sg) (w3 m3 n3 : FI) (ik : Int32) (bt : FI) (ln tk sb en nm : Int32) (bits size : FI) (num : Nat → FJ) (fnd : FI) (x0 : Int32) (x1 : Int32) (dj : va_D (fun _ => True) (djk b)) (o1 : okS s1 w1) : Met l yX5_seat wsX5_seat { frames := 1, cells := 0, slots := 0, locals := 22 } (PcR D vwCl (tyG cI cL cS) [.ref (b 0 0), .int x0, .int x1] (kcw cI cL cS b s1 w1 m1 n1 s2 w2 m2 n2 s3 w3 m3 n3 ik bt ln tk sb en nm bits size num fnd)) (va_Qi (fun (r : Int32) (u : Sg × FI × FI) => (r, u.1, u.2.2) = sSeat s1 fnd x0 x1 ∧ okS u.1 u.2.1) (fun u t => va_P D vwCl (kcw cI cL cS b u.1 u.2.1 m1 n1 s2 w2 m2 n2 s3 w3 m3 n3 ik bt ln tk sb en nm bits size num u.2.2) t.heap) (Aof (kcw cI cL cS b s1 w1 m1 n1 s2 w2 m2 n2 s3 w3 m3 n3 ik bt ln tk sb en nm bits size num fnd))) 0 0 (Aof (kcw cI cL cS b s1 w1 m1 n1 s2 w2 m2 n2 s3 w3 m3 n3 ik bt ln tk sb en nm bits size num fnd)) := by
  refine Met.ofW (cc := cX5_seat) (maxL := 4) (ret := (some .int)) (by decide) rfl ?_
  intro p e s m args below meth c s₁ B hml hv
  obtain ⟨rfl, hP, hK⟩ := hv
  have hx := B.exec
  have hb := B.bytes
  have hr := B.returns
  have hts := atoms_spec (ws := wsX5_seat) B.pre
  have hown : s.vm.findClass RX5 = some m.cls := findClass_of_methodNamed B.named
  have hlocks := B.notSynchronized
  obtain ⟨A, hAe⟩ : ∃ A, A = Aof (kcw cI cL cS b s1 w1 m1 n1 s2 w2 m2 n2 s3 w3 m3 n3 ik bt ln tk sb en nm bits size num fnd) := ⟨_, rfl⟩
  rw [← hAe]
  have hD : ∀ ws' : va_W, ws'.map Prod.fst = (kcw cI cL cS b s1 w1 m1 n1 s2 w2 m2 n2 s3 w3 m3 n3 ik bt ln tk sb en nm bits size num fnd).map Prod.fst → va_D A ws' := fun ws' e => by rw [hAe]; exact va_D_adr (va_D_self (va_D_adr dj rfl)) e
  have hS : va_S A s.heap s.heap [] := va_S.rf
  have hP : va_P D vwCl (kcw cI cL cS b s1 w1 m1 n1 s2 w2 m2 n2 s3 w3 m3 n3 ik bt ln tk sb en nm bits size num fnd) s.heap := hP
  have hl := lv_entry ([.ref (b 0 0), .int x0, .int x1]) (n := 4) (Nat.le_of_ble_eq_true rfl)
  rw [lg_entry_eq]
  generalize (lg_sl ([.ref (b 0 0), .int x0, .int x1]) ++ List.replicate (4 - (lg_sl ([.ref (b 0 0), .int x0, .int x1])).length) Slot.unset).toArray = ls at hl ⊢
  have hl : lv_has ls 4 [(0, .ref (b 0 0)), (1, .int x0), (2, .int x1)] := hl
  have f10 := hts (.fieldLink RX5 10 "KnivesLaid" "table" "LKnivesLaid$Table;") (List.mem_of_getElem? (i := 1) rfl)
  have inX5 : ∀ w ∈ u_ws RX5 TX5 7, w ∈ wsX5_seat := in_at 30 _ _ rfl
  have k52 := hts (.constant RX5 52 (-1000000001)) (List.mem_of_getElem? (i := 2) rfl)
  have f104 := hts (.fieldLink RX5 104 "KnivesLaid$Table" "at" "[I") (List.mem_of_getElem? (i := 4) rfl)
  have inX3 : ∀ w ∈ u_ws RX3 TX3 13, w ∈ wsX5_seat := in_at 37 _ _ rfl
  have k93 := hts (.constant RX5 93 (-1000000005)) (List.mem_of_getElem? (i := 3) rfl)
  skip
  refine lv_aload_n hx hb dX5_seat_0 rfl (lv_at hl 0 rfl) ?_
  refine va_get (ci := 3) (v := .ref (b 1 0)) (C := RX5) (T := TX5) (N := 7) hx hb hts inX5 hown hK hP 0 rfl rfl 0 (by decide) f10 (fun _ h9 => h9) rfl dX5_seat_1 ?_
  refine lv_iload_n hx hb dX5_seat_4 rfl (lv_at hl 1 rfl) ?_
  refine callE (W.runV (As := [.int x0]) (rest := []) ⟨hx, hb, hml, hown, hts⟩ (k_X3_has l D cI cL cS (b 1) (sCo s1) (sGu s1) (sKn s1) (sFo s1) (sSp s1) w1 (sKi s1) (sPl s1) (sEa s1) (sTo s1) (sQu s1) m1 n1 x0 o1.1.gu) (cwV 1 hts gX5_seat_X3_has rfl rfl rfl (by decide +kernel) ⟨Nat.le_of_ble_eq_true rfl, Nat.le_of_ble_eq_true rfl⟩) ⟨PcR_fb, va_recv hK hP (ci := 1) (q0 := 1) rfl rfl, PcR_pre (va_seg hP 1 12 rfl) hK⟩ rfl rfl hl.1 rfl (lv_room (Nat.le_of_ble_eq_true rfl)) dX5_seat_5 ⟨Nat.zero_le _, Nat.zero_le _⟩) ?_
  refine lv_if_eq (tgt := 18) hx hb dX5_seat_8 (by decide) (fun c_1 => ?_) (fun c_1 => ?_)
  · skip
    have c_1b := bI_0 c_1
    refine lv_aload_n hx hb dX5_seat_18 rfl (lv_at hl 0 rfl) ?_
    refine lv_ldc hx hb hown k52 dX5_seat_19 ?_
    refine callMi (va_runV (As := [.int (-1000000001)]) (rest := []) ⟨hx, hb, hml, hown, hts⟩ (k_X5_found l D cI cL cS b s1 w1 m1 n1 s2 w2 m2 n2 s3 w3 m3 n3 ik bt ln tk sb en nm bits size num fnd (-1000000001) (va_DT (hD _ rfl) rfl) (vp_in_iff.mpr (by decide))) (cwV 1 hts gX5_seat_X5_found rfl rfl rfl (by decide +kernel) ⟨Nat.le_of_ble_eq_true rfl, Nat.le_of_ble_eq_true rfl⟩) ⟨PcR_fb, va_recv hK hP (ci := 3) (q0 := 0) rfl rfl, PcR_pre hP hK⟩ rfl rfl hl.1 rfl (lv_room (Nat.le_of_ble_eq_true rfl)) dX5_seat_21 ⟨Nat.zero_le _, Nat.zero_le _⟩) hP (hD _ rfl) hS 0 49 rfl (fun r_3 u_2 H locs hu_2 hP hS => ?_)
    obtain ⟨hu_2r, -⟩ := hu_2
    subst hu_2r
    have hP : va_P D vwCl (kcw cI cL cS b s1 w1 m1 n1 s2 w2 m2 n2 s3 w3 m3 n3 ik bt ln tk sb en nm bits size num (bump fnd (-1000000001))) H := hP
    exact W.iret hx hb hr (fun t ht hW => ⟨⟨_, (s1, w1, bump fnd (-1000000001)), rfl, (by exact ⟨by exact (iF_f (fun h => by first | exact absurd h.1 c_1b | exact absurd c_1b h.1 | exact absurd h.2 c_1b | exact absurd c_1b h.2)).symm, o1⟩), by dsimp only; rw [ht]; exact hP⟩, hS.F ht⟩) hS.2.2 dX5_seat_24
  · skip
    have c_1b := bI_n c_1
    have h8 : vp_in x0 8 := in_8 o1.1.gu c_1b
    refine lv_iload_n hx hb dX5_seat_11 rfl (lv_at hl 2 rfl) ?_
    refine callE (W.runS (As := [.int x1]) (rest := []) ⟨hx, hb, hml, hown, hts⟩ (k_X5_isPlace l x1) (va_cwS 1 hts gX5_seat_X5_isPlace rfl rfl rfl (by decide +kernel) ⟨Nat.le_of_ble_eq_true rfl, Nat.le_of_ble_eq_true rfl⟩) ⟨PcP_fb, fun U _ _ => ⟨rfl, trivial⟩⟩ rfl rfl hl.1 rfl (lv_room (Nat.le_of_ble_eq_true rfl)) dX5_seat_12 ⟨Nat.zero_le _, Nat.zero_le _⟩) ?_
    refine lv_if_ne (tgt := 25) hx hb dX5_seat_15 (by decide) (fun c_4 => ?_) (fun c_4 => ?_)
    · skip
      have c_4b := bI_n c_4
      have hp : vp_in x1 10 := c_4b
      refine lv_aload_n hx hb dX5_seat_25 rfl (lv_at hl 0 rfl) ?_
      refine va_get (ci := 3) (v := .ref (b 1 0)) (C := RX5) (T := TX5) (N := 7) hx hb hts inX5 hown hK hP 0 rfl rfl 0 (by decide) f10 (fun _ h9 => h9) rfl dX5_seat_26 ?_
      refine lv_iload_n hx hb dX5_seat_29 rfl (lv_at hl 1 rfl) ?_
      refine lv_iload_n hx hb dX5_seat_30 rfl (lv_at hl 2 rfl) ?_
      refine callE (W.runV (As := [.int x0, .int x1]) (rest := []) ⟨hx, hb, hml, hown, hts⟩ (k_X3_freeFor l D cI cL cS (b 1) (sCo s1) (sGu s1) (sKn s1) (sFo s1) (sSp s1) w1 (sKi s1) (sPl s1) (sEa s1) (sTo s1) (sQu s1) m1 n1 x0 x1 hp) (cwV 2 hts gX5_seat_X3_freeFor rfl rfl rfl (by decide +kernel) ⟨Nat.le_of_ble_eq_true rfl, Nat.le_of_ble_eq_true rfl⟩) ⟨PcR_fb, va_recv hK hP (ci := 1) (q0 := 1) rfl rfl, PcR_pre (va_seg hP 1 12 rfl) hK⟩ rfl rfl hl.1 rfl (lv_room (Nat.le_of_ble_eq_true rfl)) dX5_seat_31 ⟨Nat.zero_le _, Nat.zero_le _⟩) ?_
      refine lv_if_ne (tgt := 44) hx hb dX5_seat_34 (by decide) (fun c_5 => ?_) (fun c_5 => ?_)
      · skip
        have c_5b := bI_n c_5
        refine lv_aload_n hx hb dX5_seat_44 rfl (lv_at hl 0 rfl) ?_
        refine va_get (ci := 3) (v := .ref (b 1 0)) (C := RX5) (T := TX5) (N := 7) hx hb hts inX5 hown hK hP 0 rfl rfl 0 (by decide) f10 (fun _ h9 => h9) rfl dX5_seat_45 ?_
        refine va_get (ci := 1) (v := .ref (b 1 6)) (C := RX3) (T := TX3) (N := 13) hx hb hts inX3 hown hK hP 1 rfl rfl 7 (by decide) f104 (fun _ h9 => h9) rfl dX5_seat_48 ?_
        refine lv_iload_n hx hb dX5_seat_51 rfl (lv_at hl 1 rfl) ?_
        refine va_iald hx hb hK hP 7 0 rfl rfl (by assumption) dX5_seat_52 ?_
        refine lv_istore_n (lv' := [(3, .int ((sPl s1) (ix x0))), (0, .ref (b 0 0)), (1, .int x0), (2, .int x1)]) hx hb dX5_seat_53 rfl hl (by decide) rfl (fun ls hl => ?_)
        refine lv_aload_n hx hb dX5_seat_54 rfl (lv_at hl 1 rfl) ?_
        refine va_get (ci := 3) (v := .ref (b 1 0)) (C := RX5) (T := TX5) (N := 7) hx hb hts inX5 hown hK hP 0 rfl rfl 0 (by decide) f10 (fun _ h9 => h9) rfl dX5_seat_55 ?_
        refine lv_iload_n hx hb dX5_seat_58 rfl (lv_at hl 2 rfl) ?_
        refine lv_iload_n hx hb dX5_seat_59 rfl (lv_at hl 3 rfl) ?_
        refine callMv (va_runV (As := [.int x0, .int x1]) (rest := []) ⟨hx, hb, hml, hown, hts⟩ (k_X3_move l D cI cL cS (b 1) (sCo s1) (sGu s1) (sKn s1) (sFo s1) (sSp s1) w1 (sKi s1) (sPl s1) (sEa s1) (sTo s1) (sQu s1) m1 n1 x0 x1 (va_DT (va_segD (hD _ rfl) 1 12 rfl) rfl) h8 hp (o1.1.pl h8)) (cwV 2 hts gX5_seat_X3_move rfl rfl rfl (by decide +kernel) ⟨Nat.le_of_ble_eq_true rfl, Nat.le_of_ble_eq_true rfl⟩) ⟨PcR_fb, va_recv hK hP (ci := 1) (q0 := 1) rfl rfl, PcR_pre (va_seg hP 1 12 rfl) hK⟩ rfl rfl hl.1 rfl (lv_room (Nat.le_of_ble_eq_true rfl)) dX5_seat_60 ⟨Nat.zero_le _, Nat.zero_le _⟩) hP (hD _ rfl) hS 1 12 rfl (fun u_6 H locs hu_6 hP hS => ?_)
        have hP : va_P D vwCl (kcw cI cL cS b (uPl s1 (upd (sPl s1) (ix x0) x1)) (upd (upd w1 (ix ((sPl s1) (ix x0))) (-1)) (ix x1) x0) m1 n1 s2 w2 m2 n2 s3 w3 m3 n3 ik bt ln tk sb en nm bits size num fnd) H := hP
        refine lv_iload_n hx hb dX5_seat_63 rfl (lv_at hl 0 rfl) ?_
        exact W.iret hx hb hr (fun t ht hW => ⟨⟨_, ((uPl s1 (upd (sPl s1) (ix x0) x1)), upd (upd w1 (ix ((sPl s1) (ix x0))) (-1)) (ix x1) x0, fnd), rfl, (by exact ⟨by unfold sSeat; rw [iF_t ⟨c_1b, c_4b⟩, iF_t (by rw [o1.1.wh hp] at c_5b; exact c_5b)], ok_move o1 c_1b hp (by have q := c_5b; rw [o1.1.wh hp] at q; exact q)⟩), by dsimp only; rw [ht]; exact hP⟩, hS.F ht⟩) hS.2.2 dX5_seat_64
      · skip
        have c_5b := bI_0 c_5
        refine lv_aload_n hx hb dX5_seat_37 rfl (lv_at hl 0 rfl) ?_
        refine lv_ldc hx hb hown k93 dX5_seat_38 ?_
        refine callMi (va_runV (As := [.int (-1000000005)]) (rest := []) ⟨hx, hb, hml, hown, hts⟩ (k_X5_found l D cI cL cS b s1 w1 m1 n1 s2 w2 m2 n2 s3 w3 m3 n3 ik bt ln tk sb en nm bits size num fnd (-1000000005) (va_DT (hD _ rfl) rfl) (vp_in_iff.mpr (by decide))) (cwV 1 hts gX5_seat_X5_found rfl rfl rfl (by decide +kernel) ⟨Nat.le_of_ble_eq_true rfl, Nat.le_of_ble_eq_true rfl⟩) ⟨PcR_fb, va_recv hK hP (ci := 3) (q0 := 0) rfl rfl, PcR_pre hP hK⟩ rfl rfl hl.1 rfl (lv_room (Nat.le_of_ble_eq_true rfl)) dX5_seat_40 ⟨Nat.zero_le _, Nat.zero_le _⟩) hP (hD _ rfl) hS 0 49 rfl (fun r_9 u_8 H locs hu_8 hP hS => ?_)
        obtain ⟨hu_8r, -⟩ := hu_8
        subst hu_8r
        have hP : va_P D vwCl (kcw cI cL cS b s1 w1 m1 n1 s2 w2 m2 n2 s3 w3 m3 n3 ik bt ln tk sb en nm bits size num (bump fnd (-1000000005))) H := hP
        exact W.iret hx hb hr (fun t ht hW => ⟨⟨_, (s1, w1, bump fnd (-1000000005)), rfl, (by exact ⟨by unfold sSeat; rw [iF_t ⟨c_1b, c_4b⟩, iF_f (by rw [o1.1.wh hp] at c_5b; exact c_5b)], o1⟩), by dsimp only; rw [ht]; exact hP⟩, hS.F ht⟩) hS.2.2 dX5_seat_43
    · skip
      have c_4b := bI_0 c_4
      refine lv_aload_n hx hb dX5_seat_18 rfl (lv_at hl 0 rfl) ?_
      refine lv_ldc hx hb hown k52 dX5_seat_19 ?_
      refine callMi (va_runV (As := [.int (-1000000001)]) (rest := []) ⟨hx, hb, hml, hown, hts⟩ (k_X5_found l D cI cL cS b s1 w1 m1 n1 s2 w2 m2 n2 s3 w3 m3 n3 ik bt ln tk sb en nm bits size num fnd (-1000000001) (va_DT (hD _ rfl) rfl) (vp_in_iff.mpr (by decide))) (cwV 1 hts gX5_seat_X5_found rfl rfl rfl (by decide +kernel) ⟨Nat.le_of_ble_eq_true rfl, Nat.le_of_ble_eq_true rfl⟩) ⟨PcR_fb, va_recv hK hP (ci := 3) (q0 := 0) rfl rfl, PcR_pre hP hK⟩ rfl rfl hl.1 rfl (lv_room (Nat.le_of_ble_eq_true rfl)) dX5_seat_21 ⟨Nat.zero_le _, Nat.zero_le _⟩) hP (hD _ rfl) hS 0 49 rfl (fun r_11 u_10 H locs hu_10 hP hS => ?_)
      obtain ⟨hu_10r, -⟩ := hu_10
      subst hu_10r
      have hP : va_P D vwCl (kcw cI cL cS b s1 w1 m1 n1 s2 w2 m2 n2 s3 w3 m3 n3 ik bt ln tk sb en nm bits size num (bump fnd (-1000000001))) H := hP
      exact W.iret hx hb hr (fun t ht hW => ⟨⟨_, (s1, w1, bump fnd (-1000000001)), rfl, (by exact ⟨by exact (iF_f (fun h => by first | exact absurd h.1 c_4b | exact absurd c_4b h.1 | exact absurd h.2 c_4b | exact absurd c_4b h.2)).symm, o1⟩), by dsimp only; rw [ht]; exact hP⟩, hS.F ht⟩) hS.2.2 dX5_seat_24

set_option maxRecDepth 100000 in
set_option maxHeartbeats 4000000 in
theorem k_X5_swap (l : Launch) (D : va_G) (cI cL cS : ClassId) (b : Nat → Nat → Nat) (s1 : Sg) (w1 m1 n1 : FI) (s2 : Sg) (w2 m2 n2 : FI) (s3 : Sg) (w3 m3 n3 : FI) (ik : Int32) (bt : FI) (ln tk sb en nm : Int32) (bits size : FI) (num : Nat → FJ) (fnd : FI) (x0 : Int32) (x1 : Int32) (dj : va_D (fun _ => True) (djk b)) (o1 : okS s1 w1) : Met l yX5_swap wsX5_swap { frames := 1, cells := 0, slots := 0, locals := 23 } (PcR D vwCl (tyG cI cL cS) [.ref (b 0 0), .int x0, .int x1] (kcw cI cL cS b s1 w1 m1 n1 s2 w2 m2 n2 s3 w3 m3 n3 ik bt ln tk sb en nm bits size num fnd)) (va_Qi (fun (r : Int32) (u : Sg × FI × FI) => (r, u.1, u.2.2) = sSwap s1 fnd x0 x1 ∧ okS u.1 u.2.1) (fun u t => va_P D vwCl (kcw cI cL cS b u.1 u.2.1 m1 n1 s2 w2 m2 n2 s3 w3 m3 n3 ik bt ln tk sb en nm bits size num u.2.2) t.heap) (Aof (kcw cI cL cS b s1 w1 m1 n1 s2 w2 m2 n2 s3 w3 m3 n3 ik bt ln tk sb en nm bits size num fnd))) 0 0 (Aof (kcw cI cL cS b s1 w1 m1 n1 s2 w2 m2 n2 s3 w3 m3 n3 ik bt ln tk sb en nm bits size num fnd)) := by
  refine Met.ofW (cc := cX5_swap) (maxL := 3) (ret := (some .int)) (by decide) rfl ?_
  intro p e s m args below meth c s₁ B hml hv
  obtain ⟨rfl, hP, hK⟩ := hv
  have hx := B.exec
  have hb := B.bytes
  have hr := B.returns
  have hts := atoms_spec (ws := wsX5_swap) B.pre
  have hown : s.vm.findClass RX5 = some m.cls := findClass_of_methodNamed B.named
  have hlocks := B.notSynchronized
  obtain ⟨A, hAe⟩ : ∃ A, A = Aof (kcw cI cL cS b s1 w1 m1 n1 s2 w2 m2 n2 s3 w3 m3 n3 ik bt ln tk sb en nm bits size num fnd) := ⟨_, rfl⟩
  rw [← hAe]
  have hD : ∀ ws' : va_W, ws'.map Prod.fst = (kcw cI cL cS b s1 w1 m1 n1 s2 w2 m2 n2 s3 w3 m3 n3 ik bt ln tk sb en nm bits size num fnd).map Prod.fst → va_D A ws' := fun ws' e => by rw [hAe]; exact va_D_adr (va_D_self (va_D_adr dj rfl)) e
  have hS : va_S A s.heap s.heap [] := va_S.rf
  have hP : va_P D vwCl (kcw cI cL cS b s1 w1 m1 n1 s2 w2 m2 n2 s3 w3 m3 n3 ik bt ln tk sb en nm bits size num fnd) s.heap := hP
  have hl := lv_entry ([.ref (b 0 0), .int x0, .int x1]) (n := 3) (Nat.le_of_ble_eq_true rfl)
  rw [lg_entry_eq]
  generalize (lg_sl ([.ref (b 0 0), .int x0, .int x1]) ++ List.replicate (3 - (lg_sl ([.ref (b 0 0), .int x0, .int x1])).length) Slot.unset).toArray = ls at hl ⊢
  have hl : lv_has ls 3 [(0, .ref (b 0 0)), (1, .int x0), (2, .int x1)] := hl
  have f10 := hts (.fieldLink RX5 10 "KnivesLaid" "table" "LKnivesLaid$Table;") (List.mem_of_getElem? (i := 1) rfl)
  have inX5 : ∀ w ∈ u_ws RX5 TX5 7, w ∈ wsX5_swap := in_at 21 _ _ rfl
  have k52 := hts (.constant RX5 52 (-1000000001)) (List.mem_of_getElem? (i := 2) rfl)
  skip
  refine lv_aload_n hx hb dX5_swap_0 rfl (lv_at hl 0 rfl) ?_
  refine va_get (ci := 3) (v := .ref (b 1 0)) (C := RX5) (T := TX5) (N := 7) hx hb hts inX5 hown hK hP 0 rfl rfl 0 (by decide) f10 (fun _ h9 => h9) rfl dX5_swap_1 ?_
  refine lv_iload_n hx hb dX5_swap_4 rfl (lv_at hl 1 rfl) ?_
  refine callE (W.runV (As := [.int x0]) (rest := []) ⟨hx, hb, hml, hown, hts⟩ (k_X3_has l D cI cL cS (b 1) (sCo s1) (sGu s1) (sKn s1) (sFo s1) (sSp s1) w1 (sKi s1) (sPl s1) (sEa s1) (sTo s1) (sQu s1) m1 n1 x0 o1.1.gu) (cwV 1 hts gX5_swap_X3_has rfl rfl rfl (by decide +kernel) ⟨Nat.le_of_ble_eq_true rfl, Nat.le_of_ble_eq_true rfl⟩) ⟨PcR_fb, va_recv hK hP (ci := 1) (q0 := 1) rfl rfl, PcR_pre (va_seg hP 1 12 rfl) hK⟩ rfl rfl hl.1 rfl (lv_room (Nat.le_of_ble_eq_true rfl)) dX5_swap_5 ⟨Nat.zero_le _, Nat.zero_le _⟩) ?_
  refine lv_if_eq (tgt := 27) hx hb dX5_swap_8 (by decide) (fun c_1 => ?_) (fun c_1 => ?_)
  · skip
    have c_1b := bI_0 c_1
    refine lv_aload_n hx hb dX5_swap_27 rfl (lv_at hl 0 rfl) ?_
    refine lv_ldc hx hb hown k52 dX5_swap_28 ?_
    refine callMi (va_runV (As := [.int (-1000000001)]) (rest := []) ⟨hx, hb, hml, hown, hts⟩ (k_X5_found l D cI cL cS b s1 w1 m1 n1 s2 w2 m2 n2 s3 w3 m3 n3 ik bt ln tk sb en nm bits size num fnd (-1000000001) (va_DT (hD _ rfl) rfl) (vp_in_iff.mpr (by decide))) (cwV 1 hts gX5_swap_X5_found rfl rfl rfl (by decide +kernel) ⟨Nat.le_of_ble_eq_true rfl, Nat.le_of_ble_eq_true rfl⟩) ⟨PcR_fb, va_recv hK hP (ci := 3) (q0 := 0) rfl rfl, PcR_pre hP hK⟩ rfl rfl hl.1 rfl (lv_room (Nat.le_of_ble_eq_true rfl)) dX5_swap_30 ⟨Nat.zero_le _, Nat.zero_le _⟩) hP (hD _ rfl) hS 0 49 rfl (fun r_3 u_2 H locs hu_2 hP hS => ?_)
    obtain ⟨hu_2r, -⟩ := hu_2
    subst hu_2r
    have hP : va_P D vwCl (kcw cI cL cS b s1 w1 m1 n1 s2 w2 m2 n2 s3 w3 m3 n3 ik bt ln tk sb en nm bits size num (bump fnd (-1000000001))) H := hP
    exact W.iret hx hb hr (fun t ht hW => ⟨⟨_, (s1, w1, bump fnd (-1000000001)), rfl, (by exact ⟨by exact (iF_f (fun h => by first | exact absurd h.1 c_1b | exact absurd c_1b h.1 | exact absurd h.2.1 c_1b | exact absurd c_1b h.2.1 | exact absurd h.2.2 c_1b | exact absurd c_1b h.2.2)).symm, o1⟩), by dsimp only; rw [ht]; exact hP⟩, hS.F ht⟩) hS.2.2 dX5_swap_33
  · skip
    have c_1b := bI_n c_1
    have h8 : vp_in x0 8 := in_8 o1.1.gu c_1b
    refine lv_aload_n hx hb dX5_swap_11 rfl (lv_at hl 0 rfl) ?_
    refine va_get (ci := 3) (v := .ref (b 1 0)) (C := RX5) (T := TX5) (N := 7) hx hb hts inX5 hown hK hP 0 rfl rfl 0 (by decide) f10 (fun _ h9 => h9) rfl dX5_swap_12 ?_
    refine lv_iload_n hx hb dX5_swap_15 rfl (lv_at hl 2 rfl) ?_
    refine callE (W.runV (As := [.int x1]) (rest := []) ⟨hx, hb, hml, hown, hts⟩ (k_X3_has l D cI cL cS (b 1) (sCo s1) (sGu s1) (sKn s1) (sFo s1) (sSp s1) w1 (sKi s1) (sPl s1) (sEa s1) (sTo s1) (sQu s1) m1 n1 x1 o1.1.gu) (cwV 1 hts gX5_swap_X3_has rfl rfl rfl (by decide +kernel) ⟨Nat.le_of_ble_eq_true rfl, Nat.le_of_ble_eq_true rfl⟩) ⟨PcR_fb, va_recv hK hP (ci := 1) (q0 := 1) rfl rfl, PcR_pre (va_seg hP 1 12 rfl) hK⟩ rfl rfl hl.1 rfl (lv_room (Nat.le_of_ble_eq_true rfl)) dX5_swap_16 ⟨Nat.zero_le _, Nat.zero_le _⟩) ?_
    refine lv_if_eq (tgt := 27) hx hb dX5_swap_19 (by decide) (fun c_4 => ?_) (fun c_4 => ?_)
    · skip
      have c_4b := bI_0 c_4
      refine lv_aload_n hx hb dX5_swap_27 rfl (lv_at hl 0 rfl) ?_
      refine lv_ldc hx hb hown k52 dX5_swap_28 ?_
      refine callMi (va_runV (As := [.int (-1000000001)]) (rest := []) ⟨hx, hb, hml, hown, hts⟩ (k_X5_found l D cI cL cS b s1 w1 m1 n1 s2 w2 m2 n2 s3 w3 m3 n3 ik bt ln tk sb en nm bits size num fnd (-1000000001) (va_DT (hD _ rfl) rfl) (vp_in_iff.mpr (by decide))) (cwV 1 hts gX5_swap_X5_found rfl rfl rfl (by decide +kernel) ⟨Nat.le_of_ble_eq_true rfl, Nat.le_of_ble_eq_true rfl⟩) ⟨PcR_fb, va_recv hK hP (ci := 3) (q0 := 0) rfl rfl, PcR_pre hP hK⟩ rfl rfl hl.1 rfl (lv_room (Nat.le_of_ble_eq_true rfl)) dX5_swap_30 ⟨Nat.zero_le _, Nat.zero_le _⟩) hP (hD _ rfl) hS 0 49 rfl (fun r_6 u_5 H locs hu_5 hP hS => ?_)
      obtain ⟨hu_5r, -⟩ := hu_5
      subst hu_5r
      have hP : va_P D vwCl (kcw cI cL cS b s1 w1 m1 n1 s2 w2 m2 n2 s3 w3 m3 n3 ik bt ln tk sb en nm bits size num (bump fnd (-1000000001))) H := hP
      exact W.iret hx hb hr (fun t ht hW => ⟨⟨_, (s1, w1, bump fnd (-1000000001)), rfl, (by exact ⟨by exact (iF_f (fun h => by first | exact absurd h.1 c_4b | exact absurd c_4b h.1 | exact absurd h.2.1 c_4b | exact absurd c_4b h.2.1 | exact absurd h.2.2 c_4b | exact absurd c_4b h.2.2)).symm, o1⟩), by dsimp only; rw [ht]; exact hP⟩, hS.F ht⟩) hS.2.2 dX5_swap_33
    · skip
      have c_4b := bI_n c_4
      have h9 : vp_in x1 8 := in_8 o1.1.gu c_4b
      refine lv_iload_n hx hb dX5_swap_22 rfl (lv_at hl 1 rfl) ?_
      refine lv_iload_n hx hb dX5_swap_23 rfl (lv_at hl 2 rfl) ?_
      refine lv_icmp_ne (tgt := 34) hx hb dX5_swap_24 (by decide) (fun c_7 => ?_) (fun c_7 => ?_)
      · skip
        refine lv_aload_n hx hb dX5_swap_34 rfl (lv_at hl 0 rfl) ?_
        refine va_get (ci := 3) (v := .ref (b 1 0)) (C := RX5) (T := TX5) (N := 7) hx hb hts inX5 hown hK hP 0 rfl rfl 0 (by decide) f10 (fun _ h9 => h9) rfl dX5_swap_35 ?_
        refine lv_iload_n hx hb dX5_swap_38 rfl (lv_at hl 1 rfl) ?_
        refine lv_iload_n hx hb dX5_swap_39 rfl (lv_at hl 2 rfl) ?_
        refine callMv (va_runV (As := [.int x0, .int x1]) (rest := []) ⟨hx, hb, hml, hown, hts⟩ (k_X3_exchange l D cI cL cS (b 1) (sCo s1) (sGu s1) (sKn s1) (sFo s1) (sSp s1) w1 (sKi s1) (sPl s1) (sEa s1) (sTo s1) (sQu s1) m1 n1 x0 x1 (va_DT (va_segD (hD _ rfl) 1 12 rfl) rfl) h8 h9 (exch_in o1.1.2.1 h8 h9 _ (ix_lt (by decide) h8)) (exch_in o1.1.2.1 h8 h9 _ (ix_lt (by decide) h9))) (cwV 2 hts gX5_swap_X3_exchange rfl rfl rfl (by decide +kernel) ⟨Nat.le_of_ble_eq_true rfl, Nat.le_of_ble_eq_true rfl⟩) ⟨PcR_fb, va_recv hK hP (ci := 1) (q0 := 1) rfl rfl, PcR_pre (va_seg hP 1 12 rfl) hK⟩ rfl rfl hl.1 rfl (lv_room (Nat.le_of_ble_eq_true rfl)) dX5_swap_40 ⟨Nat.zero_le _, Nat.zero_le _⟩) hP (hD _ rfl) hS 1 12 rfl (fun u_8 H locs hu_8 hP hS => ?_)
        have hP : va_P D vwCl (kcw cI cL cS b (uPl s1 (upd (upd (sPl s1) (ix x0) ((sPl s1) (ix x1))) (ix x1) ((sPl s1) (ix x0)))) (upd (upd w1 (ix ((upd (upd (sPl s1) (ix x0) ((sPl s1) (ix x1))) (ix x1) ((sPl s1) (ix x0))) (ix x0))) x0) (ix ((upd (upd (sPl s1) (ix x0) ((sPl s1) (ix x1))) (ix x1) ((sPl s1) (ix x0))) (ix x1))) x1) m1 n1 s2 w2 m2 n2 s3 w3 m3 n3 ik bt ln tk sb en nm bits size num fnd) H := hP
        refine lv_iconst (v := 1) hx hb dX5_swap_43 (by decide) ?_
        exact W.iret hx hb hr (fun t ht hW => ⟨⟨_, ((uPl s1 (upd (upd (sPl s1) (ix x0) ((sPl s1) (ix x1))) (ix x1) ((sPl s1) (ix x0)))), upd (upd w1 (ix ((upd (upd (sPl s1) (ix x0) ((sPl s1) (ix x1))) (ix x1) ((sPl s1) (ix x0))) (ix x0))) x0) (ix ((upd (upd (sPl s1) (ix x0) ((sPl s1) (ix x1))) (ix x1) ((sPl s1) (ix x0))) (ix x1))) x1, fnd), rfl, (by exact ⟨by exact (iF_t ⟨c_1b, c_4b, c_7⟩).symm, ok_exch o1 c_1b c_4b c_7⟩), by dsimp only; rw [ht]; exact hP⟩, hS.F ht⟩) hS.2.2 dX5_swap_44
      · skip
        refine lv_aload_n hx hb dX5_swap_27 rfl (lv_at hl 0 rfl) ?_
        refine lv_ldc hx hb hown k52 dX5_swap_28 ?_
        refine callMi (va_runV (As := [.int (-1000000001)]) (rest := []) ⟨hx, hb, hml, hown, hts⟩ (k_X5_found l D cI cL cS b s1 w1 m1 n1 s2 w2 m2 n2 s3 w3 m3 n3 ik bt ln tk sb en nm bits size num fnd (-1000000001) (va_DT (hD _ rfl) rfl) (vp_in_iff.mpr (by decide))) (cwV 1 hts gX5_swap_X5_found rfl rfl rfl (by decide +kernel) ⟨Nat.le_of_ble_eq_true rfl, Nat.le_of_ble_eq_true rfl⟩) ⟨PcR_fb, va_recv hK hP (ci := 3) (q0 := 0) rfl rfl, PcR_pre hP hK⟩ rfl rfl hl.1 rfl (lv_room (Nat.le_of_ble_eq_true rfl)) dX5_swap_30 ⟨Nat.zero_le _, Nat.zero_le _⟩) hP (hD _ rfl) hS 0 49 rfl (fun r_11 u_10 H locs hu_10 hP hS => ?_)
        obtain ⟨hu_10r, -⟩ := hu_10
        subst hu_10r
        have hP : va_P D vwCl (kcw cI cL cS b s1 w1 m1 n1 s2 w2 m2 n2 s3 w3 m3 n3 ik bt ln tk sb en nm bits size num (bump fnd (-1000000001))) H := hP
        exact W.iret hx hb hr (fun t ht hW => ⟨⟨_, (s1, w1, bump fnd (-1000000001)), rfl, (by exact ⟨by exact (iF_f (fun h => by first | exact absurd h.1 c_7 | exact absurd c_7 h.1 | exact absurd h.2.1 c_7 | exact absurd c_7 h.2.1 | exact absurd h.2.2 c_7 | exact absurd c_7 h.2.2)).symm, o1⟩), by dsimp only; rw [ht]; exact hP⟩, hS.F ht⟩) hS.2.2 dX5_swap_33

set_option maxRecDepth 100000 in
set_option maxHeartbeats 4000000 in
theorem k_X5_turn (l : Launch) (D : va_G) (cI cL cS : ClassId) (b : Nat → Nat → Nat) (s1 : Sg) (w1 m1 n1 : FI) (s2 : Sg) (w2 m2 n2 : FI) (s3 : Sg) (w3 m3 n3 : FI) (ik : Int32) (bt : FI) (ln tk sb en nm : Int32) (bits size : FI) (num : Nat → FJ) (fnd : FI) (x0 : Int32) (x1 : Int32) (dj : va_D (fun _ => True) (djk b)) (o1 : okS s1 w1) : Met l yX5_turn wsX5_turn { frames := 1, cells := 0, slots := 0, locals := 22 } (PcR D vwCl (tyG cI cL cS) [.ref (b 0 0), .int x0, .int x1] (kcw cI cL cS b s1 w1 m1 n1 s2 w2 m2 n2 s3 w3 m3 n3 ik bt ln tk sb en nm bits size num fnd)) (va_Qi (fun (r : Int32) (u : Sg × FI) => (r, u.1, u.2) = sTurn s1 fnd x0 x1 ∧ okS u.1 w1) (fun u t => va_P D vwCl (kcw cI cL cS b u.1 w1 m1 n1 s2 w2 m2 n2 s3 w3 m3 n3 ik bt ln tk sb en nm bits size num u.2) t.heap) (Aof (kcw cI cL cS b s1 w1 m1 n1 s2 w2 m2 n2 s3 w3 m3 n3 ik bt ln tk sb en nm bits size num fnd))) 0 0 (Aof (kcw cI cL cS b s1 w1 m1 n1 s2 w2 m2 n2 s3 w3 m3 n3 ik bt ln tk sb en nm bits size num fnd)) := by
  refine Met.ofW (cc := cX5_turn) (maxL := 4) (ret := (some .int)) (by decide) rfl ?_
  intro p e s m args below meth c s₁ B hml hv
  obtain ⟨rfl, hP, hK⟩ := hv
  have hx := B.exec
  have hb := B.bytes
  have hr := B.returns
  have hts := atoms_spec (ws := wsX5_turn) B.pre
  have hown : s.vm.findClass RX5 = some m.cls := findClass_of_methodNamed B.named
  have hlocks := B.notSynchronized
  obtain ⟨A, hAe⟩ : ∃ A, A = Aof (kcw cI cL cS b s1 w1 m1 n1 s2 w2 m2 n2 s3 w3 m3 n3 ik bt ln tk sb en nm bits size num fnd) := ⟨_, rfl⟩
  rw [← hAe]
  have hD : ∀ ws' : va_W, ws'.map Prod.fst = (kcw cI cL cS b s1 w1 m1 n1 s2 w2 m2 n2 s3 w3 m3 n3 ik bt ln tk sb en nm bits size num fnd).map Prod.fst → va_D A ws' := fun ws' e => by rw [hAe]; exact va_D_adr (va_D_self (va_D_adr dj rfl)) e
  have hS : va_S A s.heap s.heap [] := va_S.rf
  have hP : va_P D vwCl (kcw cI cL cS b s1 w1 m1 n1 s2 w2 m2 n2 s3 w3 m3 n3 ik bt ln tk sb en nm bits size num fnd) s.heap := hP
  have hl := lv_entry ([.ref (b 0 0), .int x0, .int x1]) (n := 4) (Nat.le_of_ble_eq_true rfl)
  rw [lg_entry_eq]
  generalize (lg_sl ([.ref (b 0 0), .int x0, .int x1]) ++ List.replicate (4 - (lg_sl ([.ref (b 0 0), .int x0, .int x1])).length) Slot.unset).toArray = ls at hl ⊢
  have hl : lv_has ls 4 [(0, .ref (b 0 0)), (1, .int x0), (2, .int x1)] := hl
  have f10 := hts (.fieldLink RX5 10 "KnivesLaid" "table" "LKnivesLaid$Table;") (List.mem_of_getElem? (i := 1) rfl)
  have inX5 : ∀ w ∈ u_ws RX5 TX5 7, w ∈ wsX5_turn := in_at 19 _ _ rfl
  have k52 := hts (.constant RX5 52 (-1000000001)) (List.mem_of_getElem? (i := 2) rfl)
  have f101 := hts (.fieldLink RX5 101 "KnivesLaid$Table" "kinds" "[I") (List.mem_of_getElem? (i := 3) rfl)
  have inX3 : ∀ w ∈ u_ws RX3 TX3 13, w ∈ wsX5_turn := in_at 26 _ _ rfl
  skip
  refine lv_aload_n hx hb dX5_turn_0 rfl (lv_at hl 0 rfl) ?_
  refine va_get (ci := 3) (v := .ref (b 1 0)) (C := RX5) (T := TX5) (N := 7) hx hb hts inX5 hown hK hP 0 rfl rfl 0 (by decide) f10 (fun _ h9 => h9) rfl dX5_turn_1 ?_
  refine lv_iload_n hx hb dX5_turn_4 rfl (lv_at hl 1 rfl) ?_
  refine callE (W.runV (As := [.int x0]) (rest := []) ⟨hx, hb, hml, hown, hts⟩ (k_X3_has l D cI cL cS (b 1) (sCo s1) (sGu s1) (sKn s1) (sFo s1) (sSp s1) w1 (sKi s1) (sPl s1) (sEa s1) (sTo s1) (sQu s1) m1 n1 x0 o1.1.gu) (cwV 1 hts gX5_turn_X3_has rfl rfl rfl (by decide +kernel) ⟨Nat.le_of_ble_eq_true rfl, Nat.le_of_ble_eq_true rfl⟩) ⟨PcR_fb, va_recv hK hP (ci := 1) (q0 := 1) rfl rfl, PcR_pre (va_seg hP 1 12 rfl) hK⟩ rfl rfl hl.1 rfl (lv_room (Nat.le_of_ble_eq_true rfl)) dX5_turn_5 ⟨Nat.zero_le _, Nat.zero_le _⟩) ?_
  refine lv_if_eq (tgt := 18) hx hb dX5_turn_8 (by decide) (fun c_1 => ?_) (fun c_1 => ?_)
  · skip
    have c_1b := bI_0 c_1
    refine lv_aload_n hx hb dX5_turn_18 rfl (lv_at hl 0 rfl) ?_
    refine lv_ldc hx hb hown k52 dX5_turn_19 ?_
    refine callMi (va_runV (As := [.int (-1000000001)]) (rest := []) ⟨hx, hb, hml, hown, hts⟩ (k_X5_found l D cI cL cS b s1 w1 m1 n1 s2 w2 m2 n2 s3 w3 m3 n3 ik bt ln tk sb en nm bits size num fnd (-1000000001) (va_DT (hD _ rfl) rfl) (vp_in_iff.mpr (by decide))) (cwV 1 hts gX5_turn_X5_found rfl rfl rfl (by decide +kernel) ⟨Nat.le_of_ble_eq_true rfl, Nat.le_of_ble_eq_true rfl⟩) ⟨PcR_fb, va_recv hK hP (ci := 3) (q0 := 0) rfl rfl, PcR_pre hP hK⟩ rfl rfl hl.1 rfl (lv_room (Nat.le_of_ble_eq_true rfl)) dX5_turn_21 ⟨Nat.zero_le _, Nat.zero_le _⟩) hP (hD _ rfl) hS 0 49 rfl (fun r_3 u_2 H locs hu_2 hP hS => ?_)
    obtain ⟨hu_2r, -⟩ := hu_2
    subst hu_2r
    have hP : va_P D vwCl (kcw cI cL cS b s1 w1 m1 n1 s2 w2 m2 n2 s3 w3 m3 n3 ik bt ln tk sb en nm bits size num (bump fnd (-1000000001))) H := hP
    exact W.iret hx hb hr (fun t ht hW => ⟨⟨_, (s1, bump fnd (-1000000001)), rfl, (by exact ⟨by exact (iF_f (fun h => by first | exact absurd h.1 c_1b | exact absurd c_1b h.1 | exact absurd h.2 c_1b | exact absurd c_1b h.2)).symm, o1⟩), by dsimp only; rw [ht]; exact hP⟩, hS.F ht⟩) hS.2.2 dX5_turn_24
  · skip
    have c_1b := bI_n c_1
    have h8 : vp_in x0 8 := in_8 o1.1.gu c_1b
    refine lv_iload_n hx hb dX5_turn_11 rfl (lv_at hl 2 rfl) ?_
    refine callE (W.runS (As := [.int x1]) (rest := []) ⟨hx, hb, hml, hown, hts⟩ (k_X5_isKind l x1) (va_cwS 1 hts gX5_turn_X5_isKind rfl rfl rfl (by decide +kernel) ⟨Nat.le_of_ble_eq_true rfl, Nat.le_of_ble_eq_true rfl⟩) ⟨PcP_fb, fun U _ _ => ⟨rfl, trivial⟩⟩ rfl rfl hl.1 rfl (lv_room (Nat.le_of_ble_eq_true rfl)) dX5_turn_12 ⟨Nat.zero_le _, Nat.zero_le _⟩) ?_
    refine lv_if_ne (tgt := 25) hx hb dX5_turn_15 (by decide) (fun c_4 => ?_) (fun c_4 => ?_)
    · skip
      have c_4b := bI_n c_4
      refine lv_aload_n hx hb dX5_turn_25 rfl (lv_at hl 0 rfl) ?_
      refine va_get (ci := 3) (v := .ref (b 1 0)) (C := RX5) (T := TX5) (N := 7) hx hb hts inX5 hown hK hP 0 rfl rfl 0 (by decide) f10 (fun _ h9 => h9) rfl dX5_turn_26 ?_
      refine va_get (ci := 1) (v := .ref (b 1 5)) (C := RX3) (T := TX3) (N := 13) hx hb hts inX3 hown hK hP 1 rfl rfl 6 (by decide) f101 (fun _ h9 => h9) rfl dX5_turn_29 ?_
      refine lv_iload_n hx hb dX5_turn_32 rfl (lv_at hl 1 rfl) ?_
      refine va_iald hx hb hK hP 6 0 rfl rfl (by assumption) dX5_turn_33 ?_
      refine lv_istore_n (lv' := [(3, .int ((sKi s1) (ix x0))), (0, .ref (b 0 0)), (1, .int x0), (2, .int x1)]) hx hb dX5_turn_34 rfl hl (by decide) rfl (fun ls hl => ?_)
      refine lv_aload_n hx hb dX5_turn_35 rfl (lv_at hl 1 rfl) ?_
      refine va_get (ci := 3) (v := .ref (b 1 0)) (C := RX5) (T := TX5) (N := 7) hx hb hts inX5 hown hK hP 0 rfl rfl 0 (by decide) f10 (fun _ h9 => h9) rfl dX5_turn_36 ?_
      refine va_get (ci := 1) (v := .ref (b 1 5)) (C := RX3) (T := TX3) (N := 13) hx hb hts inX3 hown hK hP 1 rfl rfl 6 (by decide) f101 (fun _ h9 => h9) rfl dX5_turn_39 ?_
      refine lv_iload_n hx hb dX5_turn_42 rfl (lv_at hl 2 rfl) ?_
      refine lv_iload_n hx hb dX5_turn_43 rfl (lv_at hl 3 rfl) ?_
      refine va_iast hx hb hK hP (hD _ rfl) hS 6 0 rfl rfl (by assumption) dX5_turn_44 (fun H locs hP _ hS => ?_)
      have hP : va_P D vwCl (kcw cI cL cS b (uKi s1 (upd (sKi s1) (ix x0) x1)) w1 m1 n1 s2 w2 m2 n2 s3 w3 m3 n3 ik bt ln tk sb en nm bits size num fnd) H := hP
      refine lv_iload_n hx hb dX5_turn_45 rfl (lv_at hl 0 rfl) ?_
      exact W.iret hx hb hr (fun t ht hW => ⟨⟨_, ((uKi s1 (upd (sKi s1) (ix x0) x1)), fnd), rfl, (by exact ⟨by exact (iF_t ⟨c_1b, c_4b⟩).symm, ok_ki o1 c_4b⟩), by dsimp only; rw [ht]; exact hP⟩, hS.F ht⟩) hS.2.2 dX5_turn_46
    · skip
      have c_4b := bI_0 c_4
      refine lv_aload_n hx hb dX5_turn_18 rfl (lv_at hl 0 rfl) ?_
      refine lv_ldc hx hb hown k52 dX5_turn_19 ?_
      refine callMi (va_runV (As := [.int (-1000000001)]) (rest := []) ⟨hx, hb, hml, hown, hts⟩ (k_X5_found l D cI cL cS b s1 w1 m1 n1 s2 w2 m2 n2 s3 w3 m3 n3 ik bt ln tk sb en nm bits size num fnd (-1000000001) (va_DT (hD _ rfl) rfl) (vp_in_iff.mpr (by decide))) (cwV 1 hts gX5_turn_X5_found rfl rfl rfl (by decide +kernel) ⟨Nat.le_of_ble_eq_true rfl, Nat.le_of_ble_eq_true rfl⟩) ⟨PcR_fb, va_recv hK hP (ci := 3) (q0 := 0) rfl rfl, PcR_pre hP hK⟩ rfl rfl hl.1 rfl (lv_room (Nat.le_of_ble_eq_true rfl)) dX5_turn_21 ⟨Nat.zero_le _, Nat.zero_le _⟩) hP (hD _ rfl) hS 0 49 rfl (fun r_6 u_5 H locs hu_5 hP hS => ?_)
      obtain ⟨hu_5r, -⟩ := hu_5
      subst hu_5r
      have hP : va_P D vwCl (kcw cI cL cS b s1 w1 m1 n1 s2 w2 m2 n2 s3 w3 m3 n3 ik bt ln tk sb en nm bits size num (bump fnd (-1000000001))) H := hP
      exact W.iret hx hb hr (fun t ht hW => ⟨⟨_, (s1, bump fnd (-1000000001)), rfl, (by exact ⟨by exact (iF_f (fun h => by first | exact absurd h.1 c_4b | exact absurd c_4b h.1 | exact absurd h.2 c_4b | exact absurd c_4b h.2)).symm, o1⟩), by dsimp only; rw [ht]; exact hP⟩, hS.F ht⟩) hS.2.2 dX5_turn_24

set_option maxRecDepth 100000 in
set_option maxHeartbeats 4000000 in
theorem k_X5_as (l : Launch) (D : va_G) (cI cL cS : ClassId) (b : Nat → Nat → Nat) (s1 : Sg) (w1 m1 n1 : FI) (s2 : Sg) (w2 m2 n2 : FI) (s3 : Sg) (w3 m3 n3 : FI) (ik : Int32) (bt : FI) (ln tk sb en nm : Int32) (bits size : FI) (num : Nat → FJ) (fnd : FI) (x0 : Int32) (x1 : Int32) (dj : va_D (fun _ => True) (djk b)) (o1 : okS s1 w1) : Met l yX5_as wsX5_as { frames := 2, cells := 0, slots := 0, locals := 43 } (PcR D vwCl (tyG cI cL cS) [.ref (b 0 0), .int x0, .int x1] (kcw cI cL cS b s1 w1 m1 n1 s2 w2 m2 n2 s3 w3 m3 n3 ik bt ln tk sb en nm bits size num fnd)) (va_Qi (fun (r : Int32) (u : FI) => (r, u) = sAs s1 fnd x0 x1) (fun u t => va_P D vwCl (kcw cI cL cS b s1 w1 m1 n1 s2 w2 m2 n2 s3 w3 m3 n3 ik bt ln tk sb en nm bits size num u) t.heap) (Aof (kcw cI cL cS b s1 w1 m1 n1 s2 w2 m2 n2 s3 w3 m3 n3 ik bt ln tk sb en nm bits size num fnd))) 0 0 (Aof (kcw cI cL cS b s1 w1 m1 n1 s2 w2 m2 n2 s3 w3 m3 n3 ik bt ln tk sb en nm bits size num fnd)) := by
  refine Met.ofW (cc := cX5_as) (maxL := 3) (ret := (some .int)) (by decide) rfl ?_
  intro p e s m args below meth c s₁ B hml hv
  obtain ⟨rfl, hP, hK⟩ := hv
  have hx := B.exec
  have hb := B.bytes
  have hr := B.returns
  have hts := atoms_spec (ws := wsX5_as) B.pre
  have hown : s.vm.findClass RX5 = some m.cls := findClass_of_methodNamed B.named
  have hlocks := B.notSynchronized
  obtain ⟨A, hAe⟩ : ∃ A, A = Aof (kcw cI cL cS b s1 w1 m1 n1 s2 w2 m2 n2 s3 w3 m3 n3 ik bt ln tk sb en nm bits size num fnd) := ⟨_, rfl⟩
  rw [← hAe]
  have hD : ∀ ws' : va_W, ws'.map Prod.fst = (kcw cI cL cS b s1 w1 m1 n1 s2 w2 m2 n2 s3 w3 m3 n3 ik bt ln tk sb en nm bits size num fnd).map Prod.fst → va_D A ws' := fun ws' e => by rw [hAe]; exact va_D_adr (va_D_self (va_D_adr dj rfl)) e
  have hS : va_S A s.heap s.heap [] := va_S.rf
  have hP : va_P D vwCl (kcw cI cL cS b s1 w1 m1 n1 s2 w2 m2 n2 s3 w3 m3 n3 ik bt ln tk sb en nm bits size num fnd) s.heap := hP
  have hl := lv_entry ([.ref (b 0 0), .int x0, .int x1]) (n := 3) (Nat.le_of_ble_eq_true rfl)
  rw [lg_entry_eq]
  generalize (lg_sl ([.ref (b 0 0), .int x0, .int x1]) ++ List.replicate (3 - (lg_sl ([.ref (b 0 0), .int x0, .int x1])).length) Slot.unset).toArray = ls at hl ⊢
  have hl : lv_has ls 3 [(0, .ref (b 0 0)), (1, .int x0), (2, .int x1)] := hl
  have f10 := hts (.fieldLink RX5 10 "KnivesLaid" "table" "LKnivesLaid$Table;") (List.mem_of_getElem? (i := 1) rfl)
  have inX5 : ∀ w ∈ u_ws RX5 TX5 7, w ∈ wsX5_as := in_at 28 _ _ rfl
  have k52 := hts (.constant RX5 52 (-1000000001)) (List.mem_of_getElem? (i := 2) rfl)
  have f101 := hts (.fieldLink RX5 101 "KnivesLaid$Table" "kinds" "[I") (List.mem_of_getElem? (i := 3) rfl)
  have inX3 : ∀ w ∈ u_ws RX3 TX3 13, w ∈ wsX5_as := in_at 35 _ _ rfl
  have f107 := hts (.fieldLink RX5 107 "KnivesLaid$Table" "ease" "[I") (List.mem_of_getElem? (i := 5) rfl)
  have k144 := hts (.constant RX5 144 (-1000000003)) (List.mem_of_getElem? (i := 4) rfl)
  skip
  refine lv_aload_n hx hb dX5_as_0 rfl (lv_at hl 0 rfl) ?_
  refine va_get (ci := 3) (v := .ref (b 1 0)) (C := RX5) (T := TX5) (N := 7) hx hb hts inX5 hown hK hP 0 rfl rfl 0 (by decide) f10 (fun _ h9 => h9) rfl dX5_as_1 ?_
  refine lv_iload_n hx hb dX5_as_4 rfl (lv_at hl 1 rfl) ?_
  refine callE (W.runV (As := [.int x0]) (rest := []) ⟨hx, hb, hml, hown, hts⟩ (k_X3_has l D cI cL cS (b 1) (sCo s1) (sGu s1) (sKn s1) (sFo s1) (sSp s1) w1 (sKi s1) (sPl s1) (sEa s1) (sTo s1) (sQu s1) m1 n1 x0 o1.1.gu) (cwV 1 hts gX5_as_X3_has rfl rfl rfl (by decide +kernel) ⟨Nat.le_of_ble_eq_true rfl, Nat.le_of_ble_eq_true rfl⟩) ⟨PcR_fb, va_recv hK hP (ci := 1) (q0 := 1) rfl rfl, PcR_pre (va_seg hP 1 12 rfl) hK⟩ rfl rfl hl.1 rfl (lv_room (Nat.le_of_ble_eq_true rfl)) dX5_as_5 ⟨Nat.zero_le _, Nat.zero_le _⟩) ?_
  refine lv_if_eq (tgt := 18) hx hb dX5_as_8 (by decide) (fun c_1 => ?_) (fun c_1 => ?_)
  · skip
    have c_1b := bI_0 c_1
    refine lv_aload_n hx hb dX5_as_18 rfl (lv_at hl 0 rfl) ?_
    refine lv_ldc hx hb hown k52 dX5_as_19 ?_
    refine callMi (va_runV (As := [.int (-1000000001)]) (rest := []) ⟨hx, hb, hml, hown, hts⟩ (k_X5_found l D cI cL cS b s1 w1 m1 n1 s2 w2 m2 n2 s3 w3 m3 n3 ik bt ln tk sb en nm bits size num fnd (-1000000001) (va_DT (hD _ rfl) rfl) (vp_in_iff.mpr (by decide))) (cwV 1 hts gX5_as_X5_found rfl rfl rfl (by decide +kernel) ⟨Nat.le_of_ble_eq_true rfl, Nat.le_of_ble_eq_true rfl⟩) ⟨PcR_fb, va_recv hK hP (ci := 3) (q0 := 0) rfl rfl, PcR_pre hP hK⟩ rfl rfl hl.1 rfl (lv_room (Nat.le_of_ble_eq_true rfl)) dX5_as_21 ⟨Nat.zero_le _, Nat.zero_le _⟩) hP (hD _ rfl) hS 0 49 rfl (fun r_3 u_2 H locs hu_2 hP hS => ?_)
    obtain ⟨hu_2r, -⟩ := hu_2
    subst hu_2r
    have hP : va_P D vwCl (kcw cI cL cS b s1 w1 m1 n1 s2 w2 m2 n2 s3 w3 m3 n3 ik bt ln tk sb en nm bits size num (bump fnd (-1000000001))) H := hP
    exact W.iret hx hb hr (fun t ht hW => ⟨⟨_, (bump fnd (-1000000001)), rfl, (by exact (iF_f (fun h => by first | exact absurd h.1 c_1b | exact absurd c_1b h.1 | exact absurd h.2 c_1b | exact absurd c_1b h.2)).symm), by dsimp only; rw [ht]; exact hP⟩, hS.F ht⟩) hS.2.2 dX5_as_24
  · skip
    have c_1b := bI_n c_1
    have h8 : vp_in x0 8 := in_8 o1.1.gu c_1b
    refine lv_iload_n hx hb dX5_as_11 rfl (lv_at hl 2 rfl) ?_
    refine callE (W.runS (As := [.int x1]) (rest := []) ⟨hx, hb, hml, hown, hts⟩ (k_X5_isKind l x1) (va_cwS 1 hts gX5_as_X5_isKind rfl rfl rfl (by decide +kernel) ⟨Nat.le_of_ble_eq_true rfl, Nat.le_of_ble_eq_true rfl⟩) ⟨PcP_fb, fun U _ _ => ⟨rfl, trivial⟩⟩ rfl rfl hl.1 rfl (lv_room (Nat.le_of_ble_eq_true rfl)) dX5_as_12 ⟨Nat.zero_le _, Nat.zero_le _⟩) ?_
    refine lv_if_ne (tgt := 25) hx hb dX5_as_15 (by decide) (fun c_4 => ?_) (fun c_4 => ?_)
    · skip
      have c_4b := bI_n c_4
      refine lv_aload_n hx hb dX5_as_25 rfl (lv_at hl 0 rfl) ?_
      refine va_get (ci := 3) (v := .ref (b 1 0)) (C := RX5) (T := TX5) (N := 7) hx hb hts inX5 hown hK hP 0 rfl rfl 0 (by decide) f10 (fun _ h9 => h9) rfl dX5_as_26 ?_
      refine va_get (ci := 1) (v := .ref (b 1 5)) (C := RX3) (T := TX3) (N := 13) hx hb hts inX3 hown hK hP 1 rfl rfl 6 (by decide) f101 (fun _ h9 => h9) rfl dX5_as_29 ?_
      refine lv_iload_n hx hb dX5_as_32 rfl (lv_at hl 1 rfl) ?_
      refine va_iald hx hb hK hP 6 0 rfl rfl (by assumption) dX5_as_33 ?_
      refine lv_iload_n hx hb dX5_as_34 rfl (lv_at hl 2 rfl) ?_
      refine callE (W.runS (As := [.int ((sKi s1) (ix x0)), .int x1]) (rest := []) ⟨hx, hb, hml, hown, hts⟩ (k_X1_isUnder l ((sKi s1) (ix x0)) x1) (va_cwS 2 hts gX5_as_X1_isUnder rfl rfl rfl (by decide +kernel) ⟨Nat.le_of_ble_eq_true rfl, Nat.le_of_ble_eq_true rfl⟩) ⟨PcP_fb, fun U _ _ => ⟨rfl, trivial⟩⟩ rfl rfl hl.1 rfl (lv_room (Nat.le_of_ble_eq_true rfl)) dX5_as_35 ⟨Nat.zero_le _, Nat.zero_le _⟩) ?_
      refine lv_if_ne (tgt := 48) hx hb dX5_as_38 (by decide) (fun c_5 => ?_) (fun c_5 => ?_)
      · skip
        have c_5b := bI_n c_5
        refine lv_bipush (v := 100) hx hb dX5_as_48 (by decide) ?_
        refine lv_aload_n hx hb dX5_as_50 rfl (lv_at hl 0 rfl) ?_
        refine va_get (ci := 3) (v := .ref (b 1 0)) (C := RX5) (T := TX5) (N := 7) hx hb hts inX5 hown hK hP 0 rfl rfl 0 (by decide) f10 (fun _ h9 => h9) rfl dX5_as_51 ?_
        refine va_get (ci := 1) (v := .ref (b 1 7)) (C := RX3) (T := TX3) (N := 13) hx hb hts inX3 hown hK hP 1 rfl rfl 8 (by decide) f107 (fun _ h9 => h9) rfl dX5_as_54 ?_
        refine lv_iload_n hx hb dX5_as_57 rfl (lv_at hl 1 rfl) ?_
        refine va_iald hx hb hK hP 8 0 rfl rfl (by assumption) dX5_as_58 ?_
        refine lv_iadd hx hb dX5_as_59 ?_
        exact W.iret hx hb hr (fun t ht hW => ⟨⟨_, (fnd), rfl, (by unfold sAs; rw [iF_t ⟨c_1b, c_4b⟩, iF_t c_5b]), by dsimp only; rw [ht]; exact hP⟩, hS.F ht⟩) hS.2.2 dX5_as_60
      · skip
        have c_5b := bI_0 c_5
        refine lv_aload_n hx hb dX5_as_41 rfl (lv_at hl 0 rfl) ?_
        refine lv_ldc hx hb hown k144 dX5_as_42 ?_
        refine callMi (va_runV (As := [.int (-1000000003)]) (rest := []) ⟨hx, hb, hml, hown, hts⟩ (k_X5_found l D cI cL cS b s1 w1 m1 n1 s2 w2 m2 n2 s3 w3 m3 n3 ik bt ln tk sb en nm bits size num fnd (-1000000003) (va_DT (hD _ rfl) rfl) (vp_in_iff.mpr (by decide))) (cwV 1 hts gX5_as_X5_found rfl rfl rfl (by decide +kernel) ⟨Nat.le_of_ble_eq_true rfl, Nat.le_of_ble_eq_true rfl⟩) ⟨PcR_fb, va_recv hK hP (ci := 3) (q0 := 0) rfl rfl, PcR_pre hP hK⟩ rfl rfl hl.1 rfl (lv_room (Nat.le_of_ble_eq_true rfl)) dX5_as_44 ⟨Nat.zero_le _, Nat.zero_le _⟩) hP (hD _ rfl) hS 0 49 rfl (fun r_7 u_6 H locs hu_6 hP hS => ?_)
        obtain ⟨hu_6r, -⟩ := hu_6
        subst hu_6r
        have hP : va_P D vwCl (kcw cI cL cS b s1 w1 m1 n1 s2 w2 m2 n2 s3 w3 m3 n3 ik bt ln tk sb en nm bits size num (bump fnd (-1000000003))) H := hP
        exact W.iret hx hb hr (fun t ht hW => ⟨⟨_, (bump fnd (-1000000003)), rfl, (by unfold sAs; rw [iF_t ⟨c_1b, c_4b⟩, iF_f c_5b]), by dsimp only; rw [ht]; exact hP⟩, hS.F ht⟩) hS.2.2 dX5_as_47
    · skip
      have c_4b := bI_0 c_4
      refine lv_aload_n hx hb dX5_as_18 rfl (lv_at hl 0 rfl) ?_
      refine lv_ldc hx hb hown k52 dX5_as_19 ?_
      refine callMi (va_runV (As := [.int (-1000000001)]) (rest := []) ⟨hx, hb, hml, hown, hts⟩ (k_X5_found l D cI cL cS b s1 w1 m1 n1 s2 w2 m2 n2 s3 w3 m3 n3 ik bt ln tk sb en nm bits size num fnd (-1000000001) (va_DT (hD _ rfl) rfl) (vp_in_iff.mpr (by decide))) (cwV 1 hts gX5_as_X5_found rfl rfl rfl (by decide +kernel) ⟨Nat.le_of_ble_eq_true rfl, Nat.le_of_ble_eq_true rfl⟩) ⟨PcR_fb, va_recv hK hP (ci := 3) (q0 := 0) rfl rfl, PcR_pre hP hK⟩ rfl rfl hl.1 rfl (lv_room (Nat.le_of_ble_eq_true rfl)) dX5_as_21 ⟨Nat.zero_le _, Nat.zero_le _⟩) hP (hD _ rfl) hS 0 49 rfl (fun r_9 u_8 H locs hu_8 hP hS => ?_)
      obtain ⟨hu_8r, -⟩ := hu_8
      subst hu_8r
      have hP : va_P D vwCl (kcw cI cL cS b s1 w1 m1 n1 s2 w2 m2 n2 s3 w3 m3 n3 ik bt ln tk sb en nm bits size num (bump fnd (-1000000001))) H := hP
      exact W.iret hx hb hr (fun t ht hW => ⟨⟨_, (bump fnd (-1000000001)), rfl, (by exact (iF_f (fun h => by first | exact absurd h.1 c_4b | exact absurd c_4b h.1 | exact absurd h.2 c_4b | exact absurd c_4b h.2)).symm), by dsimp only; rw [ht]; exact hP⟩, hS.F ht⟩) hS.2.2 dX5_as_24

set_option maxRecDepth 100000 in
set_option maxHeartbeats 4000000 in
theorem k_X5_courses (l : Launch) (D : va_G) (cI cL cS : ClassId) (b : Nat → Nat → Nat) (s1 : Sg) (w1 m1 n1 : FI) (s2 : Sg) (w2 m2 n2 : FI) (s3 : Sg) (w3 m3 n3 : FI) (ik : Int32) (bt : FI) (ln tk sb en nm : Int32) (bits size : FI) (num : Nat → FJ) (fnd : FI) (x0 : Int32) (dj : va_D (fun _ => True) (djk b)) (o1 : okS s1 w1) : Met l yX5_courses wsX5_courses { frames := 5, cells := 0, slots := 0, locals := 111 } (PcR D vwCl (tyG cI cL cS) [.ref (b 0 0), .int x0] (kcw cI cL cS b s1 w1 m1 n1 s2 w2 m2 n2 s3 w3 m3 n3 ik bt ln tk sb en nm bits size num fnd)) (va_Qi (fun (r : Int32) (u : Sg × FI × FI × FI) => (r, u.1, u.2.2.2) = sCourses s1 fnd x0 ∧ okS u.1 w1) (fun u t => va_P D vwCl (kcw cI cL cS b u.1 w1 u.2.1 u.2.2.1 s2 w2 m2 n2 s3 w3 m3 n3 ik bt ln tk sb en nm bits size num u.2.2.2) t.heap) (Aof (kcw cI cL cS b s1 w1 m1 n1 s2 w2 m2 n2 s3 w3 m3 n3 ik bt ln tk sb en nm bits size num fnd))) 0 0 (Aof (kcw cI cL cS b s1 w1 m1 n1 s2 w2 m2 n2 s3 w3 m3 n3 ik bt ln tk sb en nm bits size num fnd)) := by
  refine Met.ofW (cc := cX5_courses) (maxL := 2) (ret := (some .int)) (by decide) rfl ?_
  intro p e s m args below meth c s₁ B hml hv
  obtain ⟨rfl, hP, hK⟩ := hv
  have hx := B.exec
  have hb := B.bytes
  have hr := B.returns
  have hts := atoms_spec (ws := wsX5_courses) B.pre
  have hown : s.vm.findClass RX5 = some m.cls := findClass_of_methodNamed B.named
  have hlocks := B.notSynchronized
  obtain ⟨A, hAe⟩ : ∃ A, A = Aof (kcw cI cL cS b s1 w1 m1 n1 s2 w2 m2 n2 s3 w3 m3 n3 ik bt ln tk sb en nm bits size num fnd) := ⟨_, rfl⟩
  rw [← hAe]
  have hD : ∀ ws' : va_W, ws'.map Prod.fst = (kcw cI cL cS b s1 w1 m1 n1 s2 w2 m2 n2 s3 w3 m3 n3 ik bt ln tk sb en nm bits size num fnd).map Prod.fst → va_D A ws' := fun ws' e => by rw [hAe]; exact va_D_adr (va_D_self (va_D_adr dj rfl)) e
  have hS : va_S A s.heap s.heap [] := va_S.rf
  have hP : va_P D vwCl (kcw cI cL cS b s1 w1 m1 n1 s2 w2 m2 n2 s3 w3 m3 n3 ik bt ln tk sb en nm bits size num fnd) s.heap := hP
  have hl := lv_entry ([.ref (b 0 0), .int x0]) (n := 2) (Nat.le_of_ble_eq_true rfl)
  rw [lg_entry_eq]
  generalize (lg_sl ([.ref (b 0 0), .int x0]) ++ List.replicate (2 - (lg_sl ([.ref (b 0 0), .int x0])).length) Slot.unset).toArray = ls at hl ⊢
  have hl : lv_has ls 2 [(0, .ref (b 0 0)), (1, .int x0)] := hl
  have f10 := hts (.fieldLink RX5 10 "KnivesLaid" "table" "LKnivesLaid$Table;") (List.mem_of_getElem? (i := 2) rfl)
  have inX5 : ∀ w ∈ u_ws RX5 TX5 7, w ∈ wsX5_courses := in_at 106 _ _ rfl
  have f69 := hts (.fieldLink RX5 69 "KnivesLaid$Table" "course" "I") (List.mem_of_getElem? (i := 3) rfl)
  have inX3 : ∀ w ∈ u_ws RX3 TX3 13, w ∈ wsX5_courses := in_at 113 _ _ rfl
  have k145 := hts (.constant RX5 145 (99999)) (List.mem_of_getElem? (i := 4) rfl)
  have k93 := hts (.constant RX5 93 (-1000000005)) (List.mem_of_getElem? (i := 5) rfl)
  have k52 := hts (.constant RX5 52 (-1000000001)) (List.mem_of_getElem? (i := 1) rfl)
  skip
  refine lv_iload_n hx hb dX5_courses_0 rfl (lv_at hl 1 rfl) ?_
  refine lv_iconst (v := 1) hx hb dX5_courses_1 (by decide) ?_
  refine lv_bipush (v := 60) hx hb dX5_courses_2 (by decide) ?_
  refine callE (W.runS (As := [.int x0, .int 1, .int 60]) (rest := []) ⟨hx, hb, hml, hown, hts⟩ (k_X5_within l x0 1 60) (va_cwS 3 hts gX5_courses_X5_within rfl rfl rfl (by decide +kernel) ⟨Nat.le_of_ble_eq_true rfl, Nat.le_of_ble_eq_true rfl⟩) ⟨PcP_fb, fun U _ _ => ⟨rfl, trivial⟩⟩ rfl rfl hl.1 rfl (lv_room (Nat.le_of_ble_eq_true rfl)) dX5_courses_4 ⟨Nat.zero_le _, Nat.zero_le _⟩) ?_
  refine lv_if_ne (tgt := 17) hx hb dX5_courses_7 (by decide) (fun c_1 => ?_) (fun c_1 => ?_)
  · skip
    have c_1b := bI_n c_1
    refine lv_aload_n hx hb dX5_courses_17 rfl (lv_at hl 0 rfl) ?_
    refine va_get (ci := 3) (v := .ref (b 1 0)) (C := RX5) (T := TX5) (N := 7) hx hb hts inX5 hown hK hP 0 rfl rfl 0 (by decide) f10 (fun _ h9 => h9) rfl dX5_courses_18 ?_
    refine va_get (ci := 1) (v := .int (sCo s1)) (C := RX3) (T := TX3) (N := 13) hx hb hts inX3 hown hK hP 1 rfl rfl 0 (by decide) f69 (fun _ h9 => h9) rfl dX5_courses_21 ?_
    refine lv_iload_n hx hb dX5_courses_24 rfl (lv_at hl 1 rfl) ?_
    refine lv_iadd hx hb dX5_courses_25 ?_
    refine lv_ldc hx hb hown k145 dX5_courses_26 ?_
    refine lv_icmp_le (tgt := 38) hx hb dX5_courses_28 (by decide) (fun c_2 => ?_) (fun c_2 => ?_)
    · skip
      refine lv_aload_n hx hb dX5_courses_38 rfl (lv_at hl 0 rfl) ?_
      refine va_get (ci := 3) (v := .ref (b 1 0)) (C := RX5) (T := TX5) (N := 7) hx hb hts inX5 hown hK hP 0 rfl rfl 0 (by decide) f10 (fun _ h9 => h9) rfl dX5_courses_39 ?_
      refine lv_iload_n hx hb dX5_courses_42 rfl (lv_at hl 1 rfl) ?_
      refine callMv (va_runV (As := [.int x0]) (rest := []) ⟨hx, hb, hml, hown, hts⟩ (k_X3_serve l D cI cL cS (b 1) (sCo s1) (sGu s1) (sKn s1) (sFo s1) (sSp s1) w1 (sKi s1) (sPl s1) (sEa s1) (sTo s1) (sQu s1) m1 n1 x0 (va_DT (va_segD (hD _ rfl) 1 12 rfl) rfl) o1.1 o1.2 (wi_in c_1b (by decide) (by decide))) (cwV 1 hts gX5_courses_X3_serve rfl rfl rfl (by decide +kernel) ⟨Nat.le_of_ble_eq_true rfl, Nat.le_of_ble_eq_true rfl⟩) ⟨PcR_fb, va_recv hK hP (ci := 1) (q0 := 1) rfl rfl, PcR_pre (va_seg hP 1 12 rfl) hK⟩ rfl rfl hl.1 rfl (lv_room (Nat.le_of_ble_eq_true rfl)) dX5_courses_43 ⟨Nat.zero_le _, Nat.zero_le _⟩) hP (hD _ rfl) hS 1 12 rfl (fun u_3 H locs hu_3 hP hS => ?_)
      obtain ⟨mo_5, ne_6⟩ := u_3
      have hP : va_P D vwCl (kcw cI cL cS b (sPass (ix x0) s1) w1 mo_5 ne_6 s2 w2 m2 n2 s3 w3 m3 n3 ik bt ln tk sb en nm bits size num fnd) H := hP
      refine lv_aload_n hx hb dX5_courses_46 rfl (lv_at hl 0 rfl) ?_
      refine va_get (ci := 3) (v := .ref (b 1 0)) (C := RX5) (T := TX5) (N := 7) hx hb hts inX5 hown hK hP 0 rfl rfl 0 (by decide) f10 (fun _ h9 => h9) rfl dX5_courses_47 ?_
      refine callE (W.runV (As := []) (rest := []) ⟨hx, hb, hml, hown, hts⟩ (k_X3_soreSet l D cI cL cS (b 1) (sCo (sPass (ix x0) s1)) (sGu (sPass (ix x0) s1)) (sKn (sPass (ix x0) s1)) (sFo (sPass (ix x0) s1)) (sSp (sPass (ix x0) s1)) w1 (sKi (sPass (ix x0) s1)) (sPl (sPass (ix x0) s1)) (sEa (sPass (ix x0) s1)) (sTo (sPass (ix x0) s1)) (sQu (sPass (ix x0) s1)) mo_5 ne_6 ((okS_pass o1 (ix x0)).1.gu)) (cwV 0 hts gX5_courses_X3_soreSet rfl rfl rfl (by decide +kernel) ⟨Nat.le_of_ble_eq_true rfl, Nat.le_of_ble_eq_true rfl⟩) ⟨PcR_fb, va_recv hK hP (ci := 1) (q0 := 1) rfl rfl, PcR_pre (va_seg hP 1 12 rfl) hK⟩ rfl rfl hl.1 rfl (lv_room (Nat.le_of_ble_eq_true rfl)) dX5_courses_50 ⟨Nat.zero_le _, Nat.zero_le _⟩) ?_
      exact W.iret hx hb hr (fun t ht hW => ⟨⟨_, (sPass (ix x0) s1, mo_5, ne_6, fnd), rfl, (by exact ⟨by unfold sCourses; rw [iF_t c_1b, iF_f (Int32.not_lt.mpr c_2)], okS_pass o1 (ix x0)⟩), by dsimp only; rw [ht]; exact hP⟩, hS.F ht⟩) hS.2.2 dX5_courses_53
    · skip
      refine lv_aload_n hx hb dX5_courses_31 rfl (lv_at hl 0 rfl) ?_
      refine lv_ldc hx hb hown k93 dX5_courses_32 ?_
      refine callMi (va_runV (As := [.int (-1000000005)]) (rest := []) ⟨hx, hb, hml, hown, hts⟩ (k_X5_found l D cI cL cS b s1 w1 m1 n1 s2 w2 m2 n2 s3 w3 m3 n3 ik bt ln tk sb en nm bits size num fnd (-1000000005) (va_DT (hD _ rfl) rfl) (vp_in_iff.mpr (by decide))) (cwV 1 hts gX5_courses_X5_found rfl rfl rfl (by decide +kernel) ⟨Nat.le_of_ble_eq_true rfl, Nat.le_of_ble_eq_true rfl⟩) ⟨PcR_fb, va_recv hK hP (ci := 3) (q0 := 0) rfl rfl, PcR_pre hP hK⟩ rfl rfl hl.1 rfl (lv_room (Nat.le_of_ble_eq_true rfl)) dX5_courses_34 ⟨Nat.zero_le _, Nat.zero_le _⟩) hP (hD _ rfl) hS 0 49 rfl (fun r_8 u_7 H locs hu_7 hP hS => ?_)
      obtain ⟨hu_7r, -⟩ := hu_7
      subst hu_7r
      have hP : va_P D vwCl (kcw cI cL cS b s1 w1 m1 n1 s2 w2 m2 n2 s3 w3 m3 n3 ik bt ln tk sb en nm bits size num (bump fnd (-1000000005))) H := hP
      exact W.iret hx hb hr (fun t ht hW => ⟨⟨_, (s1, m1, n1, bump fnd (-1000000005)), rfl, (by exact ⟨by unfold sCourses; rw [iF_t c_1b, iF_t (Int32.not_le.mp c_2)], o1⟩), by dsimp only; rw [ht]; exact hP⟩, hS.F ht⟩) hS.2.2 dX5_courses_37
  · skip
    have c_1b := bI_0 c_1
    refine lv_aload_n hx hb dX5_courses_10 rfl (lv_at hl 0 rfl) ?_
    refine lv_ldc hx hb hown k52 dX5_courses_11 ?_
    refine callMi (va_runV (As := [.int (-1000000001)]) (rest := []) ⟨hx, hb, hml, hown, hts⟩ (k_X5_found l D cI cL cS b s1 w1 m1 n1 s2 w2 m2 n2 s3 w3 m3 n3 ik bt ln tk sb en nm bits size num fnd (-1000000001) (va_DT (hD _ rfl) rfl) (vp_in_iff.mpr (by decide))) (cwV 1 hts gX5_courses_X5_found rfl rfl rfl (by decide +kernel) ⟨Nat.le_of_ble_eq_true rfl, Nat.le_of_ble_eq_true rfl⟩) ⟨PcR_fb, va_recv hK hP (ci := 3) (q0 := 0) rfl rfl, PcR_pre hP hK⟩ rfl rfl hl.1 rfl (lv_room (Nat.le_of_ble_eq_true rfl)) dX5_courses_13 ⟨Nat.zero_le _, Nat.zero_le _⟩) hP (hD _ rfl) hS 0 49 rfl (fun r_10 u_9 H locs hu_9 hP hS => ?_)
    obtain ⟨hu_9r, -⟩ := hu_9
    subst hu_9r
    have hP : va_P D vwCl (kcw cI cL cS b s1 w1 m1 n1 s2 w2 m2 n2 s3 w3 m3 n3 ik bt ln tk sb en nm bits size num (bump fnd (-1000000001))) H := hP
    exact W.iret hx hb hr (fun t ht hW => ⟨⟨_, (s1, m1, n1, bump fnd (-1000000001)), rfl, (by exact ⟨by exact (iF_f c_1b).symm, o1⟩), by dsimp only; rw [ht]; exact hP⟩, hS.F ht⟩) hS.2.2 dX5_courses_16

set_option maxRecDepth 100000 in
set_option maxHeartbeats 4000000 in
theorem k_X5_on (l : Launch) (D : va_G) (cI cL cS : ClassId) (b : Nat → Nat → Nat) (s1 : Sg) (w1 m1 n1 : FI) (s2 : Sg) (w2 m2 n2 : FI) (s3 : Sg) (w3 m3 n3 : FI) (ik : Int32) (bt : FI) (ln tk sb en nm : Int32) (bits size : FI) (num : Nat → FJ) (fnd : FI) (x0 : Int32) (x1 : Int32) (x2 : Int32) (dj : va_D (fun _ => True) (djk b)) (o1 : okS s1 w1) : Met l yX5_on wsX5_on { frames := 5, cells := 0, slots := 0, locals := 111 } (PcR D vwCl (tyG cI cL cS) [.ref (b 0 0), .int x0, .int x1, .int x2] (kcw cI cL cS b s1 w1 m1 n1 s2 w2 m2 n2 s3 w3 m3 n3 ik bt ln tk sb en nm bits size num fnd)) (va_Qi (fun (r : Int32) (u : Sg × FI × FI × FI × FI) => (r, u.2.2.2.2) = sOn s1 fnd x0 x1 x2) (fun u t => va_P D vwCl (kcw cI cL cS b s1 w1 m1 n1 u.1 u.2.1 u.2.2.1 u.2.2.2.1 s3 w3 m3 n3 ik bt ln tk sb en nm bits size num u.2.2.2.2) t.heap) (Aof (kcw cI cL cS b s1 w1 m1 n1 s2 w2 m2 n2 s3 w3 m3 n3 ik bt ln tk sb en nm bits size num fnd))) 0 0 (Aof (kcw cI cL cS b s1 w1 m1 n1 s2 w2 m2 n2 s3 w3 m3 n3 ik bt ln tk sb en nm bits size num fnd)) := by
  refine Met.ofW (cc := cX5_on) (maxL := 4) (ret := (some .int)) (by decide) rfl ?_
  intro p e s m args below meth c s₁ B hml hv
  obtain ⟨rfl, hP, hK⟩ := hv
  have hx := B.exec
  have hb := B.bytes
  have hr := B.returns
  have hts := atoms_spec (ws := wsX5_on) B.pre
  have hown : s.vm.findClass RX5 = some m.cls := findClass_of_methodNamed B.named
  have hlocks := B.notSynchronized
  obtain ⟨A, hAe⟩ : ∃ A, A = Aof (kcw cI cL cS b s1 w1 m1 n1 s2 w2 m2 n2 s3 w3 m3 n3 ik bt ln tk sb en nm bits size num fnd) := ⟨_, rfl⟩
  rw [← hAe]
  have hD : ∀ ws' : va_W, ws'.map Prod.fst = (kcw cI cL cS b s1 w1 m1 n1 s2 w2 m2 n2 s3 w3 m3 n3 ik bt ln tk sb en nm bits size num fnd).map Prod.fst → va_D A ws' := fun ws' e => by rw [hAe]; exact va_D_adr (va_D_self (va_D_adr dj rfl)) e
  have hS : va_S A s.heap s.heap [] := va_S.rf
  have hP : va_P D vwCl (kcw cI cL cS b s1 w1 m1 n1 s2 w2 m2 n2 s3 w3 m3 n3 ik bt ln tk sb en nm bits size num fnd) s.heap := hP
  have hl := lv_entry ([.ref (b 0 0), .int x0, .int x1, .int x2]) (n := 4) (Nat.le_of_ble_eq_true rfl)
  rw [lg_entry_eq]
  generalize (lg_sl ([.ref (b 0 0), .int x0, .int x1, .int x2]) ++ List.replicate (4 - (lg_sl ([.ref (b 0 0), .int x0, .int x1, .int x2])).length) Slot.unset).toArray = ls at hl ⊢
  have hl : lv_has ls 4 [(0, .ref (b 0 0)), (1, .int x0), (2, .int x1), (3, .int x2)] := hl
  have f10 := hts (.fieldLink RX5 10 "KnivesLaid" "table" "LKnivesLaid$Table;") (List.mem_of_getElem? (i := 1) rfl)
  have inX5 : ∀ w ∈ u_ws RX5 TX5 7, w ∈ wsX5_on := in_at 118 _ _ rfl
  have k52 := hts (.constant RX5 52 (-1000000001)) (List.mem_of_getElem? (i := 2) rfl)
  have f16 := hts (.fieldLink RX5 16 "KnivesLaid" "trial" "LKnivesLaid$Table;") (List.mem_of_getElem? (i := 3) rfl)
  have f113 := hts (.fieldLink RX5 113 "KnivesLaid$Table" "quarrelled" "[I") (List.mem_of_getElem? (i := 6) rfl)
  have inX3 : ∀ w ∈ u_ws RX3 TX3 13, w ∈ wsX5_on := in_at 125 _ _ rfl
  have f110 := hts (.fieldLink RX5 110 "KnivesLaid$Table" "told" "[I") (List.mem_of_getElem? (i := 5) rfl)
  have f107 := hts (.fieldLink RX5 107 "KnivesLaid$Table" "ease" "[I") (List.mem_of_getElem? (i := 4) rfl)
  skip
  refine lv_aload_n hx hb dX5_on_0 rfl (lv_at hl 0 rfl) ?_
  refine va_get (ci := 3) (v := .ref (b 1 0)) (C := RX5) (T := TX5) (N := 7) hx hb hts inX5 hown hK hP 0 rfl rfl 0 (by decide) f10 (fun _ h9 => h9) rfl dX5_on_1 ?_
  refine lv_iload_n hx hb dX5_on_4 rfl (lv_at hl 1 rfl) ?_
  refine callE (W.runV (As := [.int x0]) (rest := []) ⟨hx, hb, hml, hown, hts⟩ (k_X3_has l D cI cL cS (b 1) (sCo s1) (sGu s1) (sKn s1) (sFo s1) (sSp s1) w1 (sKi s1) (sPl s1) (sEa s1) (sTo s1) (sQu s1) m1 n1 x0 o1.1.gu) (cwV 1 hts gX5_on_X3_has rfl rfl rfl (by decide +kernel) ⟨Nat.le_of_ble_eq_true rfl, Nat.le_of_ble_eq_true rfl⟩) ⟨PcR_fb, va_recv hK hP (ci := 1) (q0 := 1) rfl rfl, PcR_pre (va_seg hP 1 12 rfl) hK⟩ rfl rfl hl.1 rfl (lv_room (Nat.le_of_ble_eq_true rfl)) dX5_on_5 ⟨Nat.zero_le _, Nat.zero_le _⟩) ?_
  refine lv_if_eq (tgt := 30) hx hb dX5_on_8 (by decide) (fun c_1 => ?_) (fun c_1 => ?_)
  · skip
    have c_1b := bI_0 c_1
    refine lv_aload_n hx hb dX5_on_30 rfl (lv_at hl 0 rfl) ?_
    refine lv_ldc hx hb hown k52 dX5_on_31 ?_
    refine callMi (va_runV (As := [.int (-1000000001)]) (rest := []) ⟨hx, hb, hml, hown, hts⟩ (k_X5_found l D cI cL cS b s1 w1 m1 n1 s2 w2 m2 n2 s3 w3 m3 n3 ik bt ln tk sb en nm bits size num fnd (-1000000001) (va_DT (hD _ rfl) rfl) (vp_in_iff.mpr (by decide))) (cwV 1 hts gX5_on_X5_found rfl rfl rfl (by decide +kernel) ⟨Nat.le_of_ble_eq_true rfl, Nat.le_of_ble_eq_true rfl⟩) ⟨PcR_fb, va_recv hK hP (ci := 3) (q0 := 0) rfl rfl, PcR_pre hP hK⟩ rfl rfl hl.1 rfl (lv_room (Nat.le_of_ble_eq_true rfl)) dX5_on_33 ⟨Nat.zero_le _, Nat.zero_le _⟩) hP (hD _ rfl) hS 0 49 rfl (fun r_3 u_2 H locs hu_2 hP hS => ?_)
    obtain ⟨hu_2r, -⟩ := hu_2
    subst hu_2r
    have hP : va_P D vwCl (kcw cI cL cS b s1 w1 m1 n1 s2 w2 m2 n2 s3 w3 m3 n3 ik bt ln tk sb en nm bits size num (bump fnd (-1000000001))) H := hP
    exact W.iret hx hb hr (fun t ht hW => ⟨⟨_, (s2, w2, m2, n2, bump fnd (-1000000001)), rfl, (by exact (iF_f (fun h => by first | exact absurd h.1 c_1b | exact absurd c_1b h.1 | exact absurd h.2.1 c_1b | exact absurd c_1b h.2.1 | exact absurd h.2.2.1 c_1b | exact absurd c_1b h.2.2.1 | exact absurd h.2.2.2 c_1b | exact absurd c_1b h.2.2.2)).symm), by dsimp only; rw [ht]; exact hP⟩, hS.F ht⟩) hS.2.2 dX5_on_36
  · skip
    have c_1b := bI_n c_1
    have h8 : vp_in x0 8 := in_8 o1.1.gu c_1b
    refine lv_iload_n hx hb dX5_on_11 rfl (lv_at hl 2 rfl) ?_
    refine lv_iconst (v := 0) hx hb dX5_on_12 (by decide) ?_
    refine lv_bipush (v := 100) hx hb dX5_on_13 (by decide) ?_
    refine callE (W.runS (As := [.int x1, .int 0, .int 100]) (rest := []) ⟨hx, hb, hml, hown, hts⟩ (k_X5_within l x1 0 100) (va_cwS 3 hts gX5_on_X5_within rfl rfl rfl (by decide +kernel) ⟨Nat.le_of_ble_eq_true rfl, Nat.le_of_ble_eq_true rfl⟩) ⟨PcP_fb, fun U _ _ => ⟨rfl, trivial⟩⟩ rfl rfl hl.1 rfl (lv_room (Nat.le_of_ble_eq_true rfl)) dX5_on_15 ⟨Nat.zero_le _, Nat.zero_le _⟩) ?_
    refine lv_if_eq (tgt := 30) hx hb dX5_on_18 (by decide) (fun c_4 => ?_) (fun c_4 => ?_)
    · skip
      have c_4b := bI_0 c_4
      refine lv_aload_n hx hb dX5_on_30 rfl (lv_at hl 0 rfl) ?_
      refine lv_ldc hx hb hown k52 dX5_on_31 ?_
      refine callMi (va_runV (As := [.int (-1000000001)]) (rest := []) ⟨hx, hb, hml, hown, hts⟩ (k_X5_found l D cI cL cS b s1 w1 m1 n1 s2 w2 m2 n2 s3 w3 m3 n3 ik bt ln tk sb en nm bits size num fnd (-1000000001) (va_DT (hD _ rfl) rfl) (vp_in_iff.mpr (by decide))) (cwV 1 hts gX5_on_X5_found rfl rfl rfl (by decide +kernel) ⟨Nat.le_of_ble_eq_true rfl, Nat.le_of_ble_eq_true rfl⟩) ⟨PcR_fb, va_recv hK hP (ci := 3) (q0 := 0) rfl rfl, PcR_pre hP hK⟩ rfl rfl hl.1 rfl (lv_room (Nat.le_of_ble_eq_true rfl)) dX5_on_33 ⟨Nat.zero_le _, Nat.zero_le _⟩) hP (hD _ rfl) hS 0 49 rfl (fun r_6 u_5 H locs hu_5 hP hS => ?_)
      obtain ⟨hu_5r, -⟩ := hu_5
      subst hu_5r
      have hP : va_P D vwCl (kcw cI cL cS b s1 w1 m1 n1 s2 w2 m2 n2 s3 w3 m3 n3 ik bt ln tk sb en nm bits size num (bump fnd (-1000000001))) H := hP
      exact W.iret hx hb hr (fun t ht hW => ⟨⟨_, (s2, w2, m2, n2, bump fnd (-1000000001)), rfl, (by exact (iF_f (fun h => by first | exact absurd h.1 c_4b | exact absurd c_4b h.1 | exact absurd h.2.1 c_4b | exact absurd c_4b h.2.1 | exact absurd h.2.2.1 c_4b | exact absurd c_4b h.2.2.1 | exact absurd h.2.2.2 c_4b | exact absurd c_4b h.2.2.2)).symm), by dsimp only; rw [ht]; exact hP⟩, hS.F ht⟩) hS.2.2 dX5_on_36
    · skip
      have c_4b := bI_n c_4
      have hn := c_4b
      refine lv_iload_n hx hb dX5_on_21 rfl (lv_at hl 3 rfl) ?_
      refine lv_if_lt (tgt := 30) hx hb dX5_on_22 (by decide) (fun c_7 => ?_) (fun c_7 => ?_)
      · skip
        refine lv_aload_n hx hb dX5_on_30 rfl (lv_at hl 0 rfl) ?_
        refine lv_ldc hx hb hown k52 dX5_on_31 ?_
        refine callMi (va_runV (As := [.int (-1000000001)]) (rest := []) ⟨hx, hb, hml, hown, hts⟩ (k_X5_found l D cI cL cS b s1 w1 m1 n1 s2 w2 m2 n2 s3 w3 m3 n3 ik bt ln tk sb en nm bits size num fnd (-1000000001) (va_DT (hD _ rfl) rfl) (vp_in_iff.mpr (by decide))) (cwV 1 hts gX5_on_X5_found rfl rfl rfl (by decide +kernel) ⟨Nat.le_of_ble_eq_true rfl, Nat.le_of_ble_eq_true rfl⟩) ⟨PcR_fb, va_recv hK hP (ci := 3) (q0 := 0) rfl rfl, PcR_pre hP hK⟩ rfl rfl hl.1 rfl (lv_room (Nat.le_of_ble_eq_true rfl)) dX5_on_33 ⟨Nat.zero_le _, Nat.zero_le _⟩) hP (hD _ rfl) hS 0 49 rfl (fun r_9 u_8 H locs hu_8 hP hS => ?_)
        obtain ⟨hu_8r, -⟩ := hu_8
        subst hu_8r
        have hP : va_P D vwCl (kcw cI cL cS b s1 w1 m1 n1 s2 w2 m2 n2 s3 w3 m3 n3 ik bt ln tk sb en nm bits size num (bump fnd (-1000000001))) H := hP
        exact W.iret hx hb hr (fun t ht hW => ⟨⟨_, (s2, w2, m2, n2, bump fnd (-1000000001)), rfl, (by exact (iF_f (fun h => by first | exact absurd h.1 c_7 | exact absurd c_7 h.1 | exact absurd h.2.1 c_7 | exact absurd c_7 h.2.1 | exact absurd h.2.2.1 c_7 | exact absurd c_7 h.2.2.1 | exact absurd h.2.2.2 c_7 | exact absurd c_7 h.2.2.2)).symm), by dsimp only; rw [ht]; exact hP⟩, hS.F ht⟩) hS.2.2 dX5_on_36
      · skip
        refine lv_iload_n hx hb dX5_on_25 rfl (lv_at hl 3 rfl) ?_
        refine lv_iconst (v := 2) hx hb dX5_on_26 (by decide) ?_
        refine lv_icmp_le (tgt := 37) hx hb dX5_on_27 (by decide) (fun c_10 => ?_) (fun c_10 => ?_)
        · skip
          refine lv_aload_n hx hb dX5_on_37 rfl (lv_at hl 0 rfl) ?_
          refine va_get (ci := 3) (v := .ref (b 2 0)) (C := RX5) (T := TX5) (N := 7) hx hb hts inX5 hown hK hP 0 rfl rfl 1 (by decide) f16 (fun _ h9 => h9) rfl dX5_on_38 ?_
          refine lv_aload_n hx hb dX5_on_41 rfl (lv_at hl 0 rfl) ?_
          refine va_get (ci := 3) (v := .ref (b 1 0)) (C := RX5) (T := TX5) (N := 7) hx hb hts inX5 hown hK hP 0 rfl rfl 0 (by decide) f10 (fun _ h9 => h9) rfl dX5_on_42 ?_
          refine callBec (wt := tbw cI (b 2) (sCo s2) (sGu s2) (sKn s2) (sFo s2) (sSp s2) w2 (sKi s2) (sPl s2) (sEa s2) (sTo s2) (sQu s2) m2 n2) (wo := tbw cI (b 1) (sCo s1) (sGu s1) (sKn s1) (sFo s1) (sSp s1) w1 (sKi s1) (sPl s1) (sEa s1) (sTo s1) (sQu s1) m1 n1) (w1 := tbw cI (b 2) (sCo s1) (sGu s1) (sKn s1) (sFo s1) (sSp s1) w1 (sKi s1) (sPl s1) (sEa s1) (sTo s1) (sQu s1) m2 n2) (va_runV (As := [.ref (b 1 0)]) (rest := []) ⟨hx, hb, hml, hown, hts⟩ (k_X3_become l D cI cL cS (b 2) (sCo s2) (sGu s2) (sKn s2) (sFo s2) (sSp s2) w2 (sKi s2) (sPl s2) (sEa s2) (sTo s2) (sQu s2) m2 n2 (b 1) (sCo s1) (sGu s1) (sKn s1) (sFo s1) (sSp s1) w1 (sKi s1) (sPl s1) (sEa s1) (sTo s1) (sQu s1) m1 n1 (va_DT (va_D.sub (ws' := tbw2 cI (b 2) (b 1) (sCo s2) (sGu s2) (sKn s2) (sFo s2) (sSp s2) w2 (sKi s2) (sPl s2) (sEa s2) (sTo s2) (sQu s2) m2 n2 (sCo s1) (sGu s1) (sKn s1) (sFo s1) (sSp s1) w1 (sKi s1) (sPl s1) (sEa s1) (sTo s1) (sQu s1) m1 n1) (hD (kcw cI cL cS b s1 w1 m1 n1 s2 w2 m2 n2 s3 w3 m3 n3 ik bt ln tk sb en nm bits size num fnd) rfl) [13, 14, 15, 16, 17, 18, 19, 20, 21, 22, 23, 24, 1, 2, 3, 4, 5, 6, 7, 8, 9, 10, 11, 12] (by decide) rfl) rfl)) (cwV 1 hts gX5_on_X3_become rfl rfl rfl (by decide +kernel) ⟨Nat.le_of_ble_eq_true rfl, Nat.le_of_ble_eq_true rfl⟩) ⟨PcR_fb, va_recv hK hP (ci := 1) (q0 := 13) rfl rfl, PcR_pre (va_P.sub hP [13, 14, 15, 16, 17, 18, 19, 20, 21, 22, 23, 24, 1, 2, 3, 4, 5, 6, 7, 8, 9, 10, 11, 12] rfl) hK⟩ rfl rfl hl.1 rfl (lv_room (Nat.le_of_ble_eq_true rfl)) dX5_on_45 ⟨Nat.zero_le _, Nat.zero_le _⟩) hP (hD _ rfl) hS 13 12 1 12 rfl rfl rfl (fun H locs hP hS => ?_)
          have hP : va_P D vwCl (kcw cI cL cS b s1 w1 m1 n1 s1 w1 m2 n2 s3 w3 m3 n3 ik bt ln tk sb en nm bits size num fnd) H := hP
          refine lv_aload_n hx hb dX5_on_48 rfl (lv_at hl 0 rfl) ?_
          refine va_get (ci := 3) (v := .ref (b 2 0)) (C := RX5) (T := TX5) (N := 7) hx hb hts inX5 hown hK hP 0 rfl rfl 1 (by decide) f16 (fun _ h9 => h9) rfl dX5_on_49 ?_
          refine lv_iload_n hx hb dX5_on_52 rfl (lv_at hl 2 rfl) ?_
          refine callMv (va_runV (As := [.int x1]) (rest := []) ⟨hx, hb, hml, hown, hts⟩ (k_X3_serve l D cI cL cS (b 2) (sCo s1) (sGu s1) (sKn s1) (sFo s1) (sSp s1) w1 (sKi s1) (sPl s1) (sEa s1) (sTo s1) (sQu s1) m2 n2 x1 (va_DT (va_segD (hD _ rfl) 13 12 rfl) rfl) o1.1 o1.2 (wi_in hn (by decide) (by decide))) (cwV 1 hts gX5_on_X3_serve rfl rfl rfl (by decide +kernel) ⟨Nat.le_of_ble_eq_true rfl, Nat.le_of_ble_eq_true rfl⟩) ⟨PcR_fb, va_recv hK hP (ci := 1) (q0 := 13) rfl rfl, PcR_pre (va_seg hP 13 12 rfl) hK⟩ rfl rfl hl.1 rfl (lv_room (Nat.le_of_ble_eq_true rfl)) dX5_on_53 ⟨Nat.zero_le _, Nat.zero_le _⟩) hP (hD _ rfl) hS 13 12 rfl (fun u_11 H locs hu_11 hP hS => ?_)
          obtain ⟨mo_13, ne_14⟩ := u_11
          have hP : va_P D vwCl (kcw cI cL cS b s1 w1 m1 n1 (sPass (ix x1) s1) w1 mo_13 ne_14 s3 w3 m3 n3 ik bt ln tk sb en nm bits size num fnd) H := hP
          refine lv_iload_n hx hb dX5_on_56 rfl (lv_at hl 3 rfl) ?_
          refine lv_if_ne (tgt := 72) hx hb dX5_on_57 (by decide) (fun c_15 => ?_) (fun c_15 => ?_)
          · skip
            refine lv_iload_n hx hb dX5_on_72 rfl (lv_at hl 3 rfl) ?_
            refine lv_iconst (v := 1) hx hb dX5_on_73 (by decide) ?_
            refine lv_icmp_ne (tgt := 89) hx hb dX5_on_74 (by decide) (fun c_16 => ?_) (fun c_16 => ?_)
            · skip
              refine lv_aload_n hx hb dX5_on_89 rfl (lv_at hl 0 rfl) ?_
              refine va_get (ci := 3) (v := .ref (b 2 0)) (C := RX5) (T := TX5) (N := 7) hx hb hts inX5 hown hK hP 0 rfl rfl 1 (by decide) f16 (fun _ h9 => h9) rfl dX5_on_90 ?_
              refine va_get (ci := 1) (v := .ref (b 2 9)) (C := RX3) (T := TX3) (N := 13) hx hb hts inX3 hown hK hP 13 rfl rfl 10 (by decide) f113 (fun _ h9 => h9) rfl dX5_on_93 ?_
              refine lv_iload_n hx hb dX5_on_96 rfl (lv_at hl 1 rfl) ?_
              refine va_iald hx hb hK hP 22 0 rfl rfl (by assumption) dX5_on_97 ?_
              exact W.iret hx hb hr (fun t ht hW => ⟨⟨_, (sPass (ix x1) s1, w1, mo_13, ne_14, fnd), rfl, (by unfold sOn; rw [iF_t ⟨c_1b, c_4b, c_7, Int32.not_lt.mpr c_10⟩]; simp [c_15, c_16]), by dsimp only; rw [ht]; exact hP⟩, hS.F ht⟩) hS.2.2 dX5_on_98
            · skip
              refine lv_aload_n hx hb dX5_on_77 rfl (lv_at hl 0 rfl) ?_
              refine va_get (ci := 3) (v := .ref (b 2 0)) (C := RX5) (T := TX5) (N := 7) hx hb hts inX5 hown hK hP 0 rfl rfl 1 (by decide) f16 (fun _ h9 => h9) rfl dX5_on_78 ?_
              refine va_get (ci := 1) (v := .ref (b 2 8)) (C := RX3) (T := TX3) (N := 13) hx hb hts inX3 hown hK hP 13 rfl rfl 9 (by decide) f110 (fun _ h9 => h9) rfl dX5_on_81 ?_
              refine lv_iload_n hx hb dX5_on_84 rfl (lv_at hl 1 rfl) ?_
              refine va_iald hx hb hK hP 21 0 rfl rfl (by assumption) dX5_on_85 ?_
              refine lv_goto (tgt := 98) hx hb dX5_on_86 (by decide) ?_
              exact W.iret hx hb hr (fun t ht hW => ⟨⟨_, (sPass (ix x1) s1, w1, mo_13, ne_14, fnd), rfl, (by unfold sOn; rw [iF_t ⟨c_1b, c_4b, c_7, Int32.not_lt.mpr c_10⟩]; simp [c_15, c_16]), by dsimp only; rw [ht]; exact hP⟩, hS.F ht⟩) hS.2.2 dX5_on_98
          · skip
            refine lv_aload_n hx hb dX5_on_60 rfl (lv_at hl 0 rfl) ?_
            refine va_get (ci := 3) (v := .ref (b 2 0)) (C := RX5) (T := TX5) (N := 7) hx hb hts inX5 hown hK hP 0 rfl rfl 1 (by decide) f16 (fun _ h9 => h9) rfl dX5_on_61 ?_
            refine va_get (ci := 1) (v := .ref (b 2 7)) (C := RX3) (T := TX3) (N := 13) hx hb hts inX3 hown hK hP 13 rfl rfl 8 (by decide) f107 (fun _ h9 => h9) rfl dX5_on_64 ?_
            refine lv_iload_n hx hb dX5_on_67 rfl (lv_at hl 1 rfl) ?_
            refine va_iald hx hb hK hP 20 0 rfl rfl (by assumption) dX5_on_68 ?_
            refine lv_goto (tgt := 98) hx hb dX5_on_69 (by decide) ?_
            exact W.iret hx hb hr (fun t ht hW => ⟨⟨_, (sPass (ix x1) s1, w1, mo_13, ne_14, fnd), rfl, (by unfold sOn; rw [iF_t ⟨c_1b, c_4b, c_7, Int32.not_lt.mpr c_10⟩]; simp [c_15]), by dsimp only; rw [ht]; exact hP⟩, hS.F ht⟩) hS.2.2 dX5_on_98
        · skip
          refine lv_aload_n hx hb dX5_on_30 rfl (lv_at hl 0 rfl) ?_
          refine lv_ldc hx hb hown k52 dX5_on_31 ?_
          refine callMi (va_runV (As := [.int (-1000000001)]) (rest := []) ⟨hx, hb, hml, hown, hts⟩ (k_X5_found l D cI cL cS b s1 w1 m1 n1 s2 w2 m2 n2 s3 w3 m3 n3 ik bt ln tk sb en nm bits size num fnd (-1000000001) (va_DT (hD _ rfl) rfl) (vp_in_iff.mpr (by decide))) (cwV 1 hts gX5_on_X5_found rfl rfl rfl (by decide +kernel) ⟨Nat.le_of_ble_eq_true rfl, Nat.le_of_ble_eq_true rfl⟩) ⟨PcR_fb, va_recv hK hP (ci := 3) (q0 := 0) rfl rfl, PcR_pre hP hK⟩ rfl rfl hl.1 rfl (lv_room (Nat.le_of_ble_eq_true rfl)) dX5_on_33 ⟨Nat.zero_le _, Nat.zero_le _⟩) hP (hD _ rfl) hS 0 49 rfl (fun r_18 u_17 H locs hu_17 hP hS => ?_)
          obtain ⟨hu_17r, -⟩ := hu_17
          subst hu_17r
          have hP : va_P D vwCl (kcw cI cL cS b s1 w1 m1 n1 s2 w2 m2 n2 s3 w3 m3 n3 ik bt ln tk sb en nm bits size num (bump fnd (-1000000001))) H := hP
          exact W.iret hx hb hr (fun t ht hW => ⟨⟨_, (s2, w2, m2, n2, bump fnd (-1000000001)), rfl, (by exact (iF_f (fun h => h.2.2.2 (Int32.not_le.mp c_10))).symm), by dsimp only; rw [ht]; exact hP⟩, hS.F ht⟩) hS.2.2 dX5_on_36

set_option maxRecDepth 100000 in
set_option maxHeartbeats 4000000 in
theorem k_X5_mood (l : Launch) (D : va_G) (cI cL cS : ClassId) (b : Nat → Nat → Nat) (s1 : Sg) (w1 m1 n1 : FI) (s2 : Sg) (w2 m2 n2 : FI) (s3 : Sg) (w3 m3 n3 : FI) (ik : Int32) (bt : FI) (ln tk sb en nm : Int32) (bits size : FI) (num : Nat → FJ) (fnd : FI) (x0 : Int32) (dj : va_D (fun _ => True) (djk b)) (o1 : okS s1 w1) : Met l yX5_mood wsX5_mood { frames := 5, cells := 0, slots := 0, locals := 111 } (PcR D vwCl (tyG cI cL cS) [.ref (b 0 0), .int x0] (kcw cI cL cS b s1 w1 m1 n1 s2 w2 m2 n2 s3 w3 m3 n3 ik bt ln tk sb en nm bits size num fnd)) (va_Qi (fun (r : Int32) (u : Sg × FI × FI × FI × FI) => (r, u.2.2.2.2) = sMood s1 fnd x0) (fun u t => va_P D vwCl (kcw cI cL cS b s1 w1 m1 n1 u.1 u.2.1 u.2.2.1 u.2.2.2.1 s3 w3 m3 n3 ik bt ln tk sb en nm bits size num u.2.2.2.2) t.heap) (Aof (kcw cI cL cS b s1 w1 m1 n1 s2 w2 m2 n2 s3 w3 m3 n3 ik bt ln tk sb en nm bits size num fnd))) 0 0 (Aof (kcw cI cL cS b s1 w1 m1 n1 s2 w2 m2 n2 s3 w3 m3 n3 ik bt ln tk sb en nm bits size num fnd)) := by
  refine Met.ofW (cc := cX5_mood) (maxL := 2) (ret := (some .int)) (by decide) rfl ?_
  intro p e s m args below meth c s₁ B hml hv
  obtain ⟨rfl, hP, hK⟩ := hv
  have hx := B.exec
  have hb := B.bytes
  have hr := B.returns
  have hts := atoms_spec (ws := wsX5_mood) B.pre
  have hown : s.vm.findClass RX5 = some m.cls := findClass_of_methodNamed B.named
  have hlocks := B.notSynchronized
  obtain ⟨A, hAe⟩ : ∃ A, A = Aof (kcw cI cL cS b s1 w1 m1 n1 s2 w2 m2 n2 s3 w3 m3 n3 ik bt ln tk sb en nm bits size num fnd) := ⟨_, rfl⟩
  rw [← hAe]
  have hD : ∀ ws' : va_W, ws'.map Prod.fst = (kcw cI cL cS b s1 w1 m1 n1 s2 w2 m2 n2 s3 w3 m3 n3 ik bt ln tk sb en nm bits size num fnd).map Prod.fst → va_D A ws' := fun ws' e => by rw [hAe]; exact va_D_adr (va_D_self (va_D_adr dj rfl)) e
  have hS : va_S A s.heap s.heap [] := va_S.rf
  have hP : va_P D vwCl (kcw cI cL cS b s1 w1 m1 n1 s2 w2 m2 n2 s3 w3 m3 n3 ik bt ln tk sb en nm bits size num fnd) s.heap := hP
  have hl := lv_entry ([.ref (b 0 0), .int x0]) (n := 2) (Nat.le_of_ble_eq_true rfl)
  rw [lg_entry_eq]
  generalize (lg_sl ([.ref (b 0 0), .int x0]) ++ List.replicate (2 - (lg_sl ([.ref (b 0 0), .int x0])).length) Slot.unset).toArray = ls at hl ⊢
  have hl : lv_has ls 2 [(0, .ref (b 0 0)), (1, .int x0)] := hl
  have f16 := hts (.fieldLink RX5 16 "KnivesLaid" "trial" "LKnivesLaid$Table;") (List.mem_of_getElem? (i := 2) rfl)
  have inX5 : ∀ w ∈ u_ws RX5 TX5 7, w ∈ wsX5_mood := in_at 118 _ _ rfl
  have f10 := hts (.fieldLink RX5 10 "KnivesLaid" "table" "LKnivesLaid$Table;") (List.mem_of_getElem? (i := 3) rfl)
  have k52 := hts (.constant RX5 52 (-1000000001)) (List.mem_of_getElem? (i := 1) rfl)
  skip
  refine lv_iload_n hx hb dX5_mood_0 rfl (lv_at hl 1 rfl) ?_
  refine lv_iconst (v := 0) hx hb dX5_mood_1 (by decide) ?_
  refine lv_bipush (v := 100) hx hb dX5_mood_2 (by decide) ?_
  refine callE (W.runS (As := [.int x0, .int 0, .int 100]) (rest := []) ⟨hx, hb, hml, hown, hts⟩ (k_X5_within l x0 0 100) (va_cwS 3 hts gX5_mood_X5_within rfl rfl rfl (by decide +kernel) ⟨Nat.le_of_ble_eq_true rfl, Nat.le_of_ble_eq_true rfl⟩) ⟨PcP_fb, fun U _ _ => ⟨rfl, trivial⟩⟩ rfl rfl hl.1 rfl (lv_room (Nat.le_of_ble_eq_true rfl)) dX5_mood_4 ⟨Nat.zero_le _, Nat.zero_le _⟩) ?_
  refine lv_if_ne (tgt := 17) hx hb dX5_mood_7 (by decide) (fun c_1 => ?_) (fun c_1 => ?_)
  · skip
    have c_1b := bI_n c_1
    refine lv_aload_n hx hb dX5_mood_17 rfl (lv_at hl 0 rfl) ?_
    refine va_get (ci := 3) (v := .ref (b 2 0)) (C := RX5) (T := TX5) (N := 7) hx hb hts inX5 hown hK hP 0 rfl rfl 1 (by decide) f16 (fun _ h9 => h9) rfl dX5_mood_18 ?_
    refine lv_aload_n hx hb dX5_mood_21 rfl (lv_at hl 0 rfl) ?_
    refine va_get (ci := 3) (v := .ref (b 1 0)) (C := RX5) (T := TX5) (N := 7) hx hb hts inX5 hown hK hP 0 rfl rfl 0 (by decide) f10 (fun _ h9 => h9) rfl dX5_mood_22 ?_
    refine callBec (wt := tbw cI (b 2) (sCo s2) (sGu s2) (sKn s2) (sFo s2) (sSp s2) w2 (sKi s2) (sPl s2) (sEa s2) (sTo s2) (sQu s2) m2 n2) (wo := tbw cI (b 1) (sCo s1) (sGu s1) (sKn s1) (sFo s1) (sSp s1) w1 (sKi s1) (sPl s1) (sEa s1) (sTo s1) (sQu s1) m1 n1) (w1 := tbw cI (b 2) (sCo s1) (sGu s1) (sKn s1) (sFo s1) (sSp s1) w1 (sKi s1) (sPl s1) (sEa s1) (sTo s1) (sQu s1) m2 n2) (va_runV (As := [.ref (b 1 0)]) (rest := []) ⟨hx, hb, hml, hown, hts⟩ (k_X3_become l D cI cL cS (b 2) (sCo s2) (sGu s2) (sKn s2) (sFo s2) (sSp s2) w2 (sKi s2) (sPl s2) (sEa s2) (sTo s2) (sQu s2) m2 n2 (b 1) (sCo s1) (sGu s1) (sKn s1) (sFo s1) (sSp s1) w1 (sKi s1) (sPl s1) (sEa s1) (sTo s1) (sQu s1) m1 n1 (va_DT (va_D.sub (ws' := tbw2 cI (b 2) (b 1) (sCo s2) (sGu s2) (sKn s2) (sFo s2) (sSp s2) w2 (sKi s2) (sPl s2) (sEa s2) (sTo s2) (sQu s2) m2 n2 (sCo s1) (sGu s1) (sKn s1) (sFo s1) (sSp s1) w1 (sKi s1) (sPl s1) (sEa s1) (sTo s1) (sQu s1) m1 n1) (hD (kcw cI cL cS b s1 w1 m1 n1 s2 w2 m2 n2 s3 w3 m3 n3 ik bt ln tk sb en nm bits size num fnd) rfl) [13, 14, 15, 16, 17, 18, 19, 20, 21, 22, 23, 24, 1, 2, 3, 4, 5, 6, 7, 8, 9, 10, 11, 12] (by decide) rfl) rfl)) (cwV 1 hts gX5_mood_X3_become rfl rfl rfl (by decide +kernel) ⟨Nat.le_of_ble_eq_true rfl, Nat.le_of_ble_eq_true rfl⟩) ⟨PcR_fb, va_recv hK hP (ci := 1) (q0 := 13) rfl rfl, PcR_pre (va_P.sub hP [13, 14, 15, 16, 17, 18, 19, 20, 21, 22, 23, 24, 1, 2, 3, 4, 5, 6, 7, 8, 9, 10, 11, 12] rfl) hK⟩ rfl rfl hl.1 rfl (lv_room (Nat.le_of_ble_eq_true rfl)) dX5_mood_25 ⟨Nat.zero_le _, Nat.zero_le _⟩) hP (hD _ rfl) hS 13 12 1 12 rfl rfl rfl (fun H locs hP hS => ?_)
    have hP : va_P D vwCl (kcw cI cL cS b s1 w1 m1 n1 s1 w1 m2 n2 s3 w3 m3 n3 ik bt ln tk sb en nm bits size num fnd) H := hP
    refine lv_aload_n hx hb dX5_mood_28 rfl (lv_at hl 0 rfl) ?_
    refine va_get (ci := 3) (v := .ref (b 2 0)) (C := RX5) (T := TX5) (N := 7) hx hb hts inX5 hown hK hP 0 rfl rfl 1 (by decide) f16 (fun _ h9 => h9) rfl dX5_mood_29 ?_
    refine lv_iload_n hx hb dX5_mood_32 rfl (lv_at hl 1 rfl) ?_
    refine callMv (va_runV (As := [.int x0]) (rest := []) ⟨hx, hb, hml, hown, hts⟩ (k_X3_serve l D cI cL cS (b 2) (sCo s1) (sGu s1) (sKn s1) (sFo s1) (sSp s1) w1 (sKi s1) (sPl s1) (sEa s1) (sTo s1) (sQu s1) m2 n2 x0 (va_DT (va_segD (hD _ rfl) 13 12 rfl) rfl) o1.1 o1.2 (wi_in c_1b (by decide) (by decide))) (cwV 1 hts gX5_mood_X3_serve rfl rfl rfl (by decide +kernel) ⟨Nat.le_of_ble_eq_true rfl, Nat.le_of_ble_eq_true rfl⟩) ⟨PcR_fb, va_recv hK hP (ci := 1) (q0 := 13) rfl rfl, PcR_pre (va_seg hP 13 12 rfl) hK⟩ rfl rfl hl.1 rfl (lv_room (Nat.le_of_ble_eq_true rfl)) dX5_mood_33 ⟨Nat.zero_le _, Nat.zero_le _⟩) hP (hD _ rfl) hS 13 12 rfl (fun u_2 H locs hu_2 hP hS => ?_)
    obtain ⟨mo_4, ne_5⟩ := u_2
    have hP : va_P D vwCl (kcw cI cL cS b s1 w1 m1 n1 (sPass (ix x0) s1) w1 mo_4 ne_5 s3 w3 m3 n3 ik bt ln tk sb en nm bits size num fnd) H := hP
    refine lv_aload_n hx hb dX5_mood_36 rfl (lv_at hl 0 rfl) ?_
    refine va_get (ci := 3) (v := .ref (b 2 0)) (C := RX5) (T := TX5) (N := 7) hx hb hts inX5 hown hK hP 0 rfl rfl 1 (by decide) f16 (fun _ h9 => h9) rfl dX5_mood_37 ?_
    refine callE (W.runV (As := []) (rest := []) ⟨hx, hb, hml, hown, hts⟩ (k_X3_easeOfAll l D cI cL cS (b 2) (sCo (sPass (ix x0) s1)) (sGu (sPass (ix x0) s1)) (sKn (sPass (ix x0) s1)) (sFo (sPass (ix x0) s1)) (sSp (sPass (ix x0) s1)) w1 (sKi (sPass (ix x0) s1)) (sPl (sPass (ix x0) s1)) (sEa (sPass (ix x0) s1)) (sTo (sPass (ix x0) s1)) (sQu (sPass (ix x0) s1)) mo_4 ne_5 ((okS_pass o1 (ix x0)).1.gu)) (cwV 0 hts gX5_mood_X3_easeOfAll rfl rfl rfl (by decide +kernel) ⟨Nat.le_of_ble_eq_true rfl, Nat.le_of_ble_eq_true rfl⟩) ⟨PcR_fb, va_recv hK hP (ci := 1) (q0 := 13) rfl rfl, PcR_pre (va_seg hP 13 12 rfl) hK⟩ rfl rfl hl.1 rfl (lv_room (Nat.le_of_ble_eq_true rfl)) dX5_mood_40 ⟨Nat.zero_le _, Nat.zero_le _⟩) ?_
    exact W.iret hx hb hr (fun t ht hW => ⟨⟨_, (sPass (ix x0) s1, w1, mo_4, ne_5, fnd), rfl, (by unfold sMood; rw [iF_t c_1b, (pass_st s1 (ix x0)).1]), by dsimp only; rw [ht]; exact hP⟩, hS.F ht⟩) hS.2.2 dX5_mood_43
  · skip
    have c_1b := bI_0 c_1
    refine lv_aload_n hx hb dX5_mood_10 rfl (lv_at hl 0 rfl) ?_
    refine lv_ldc hx hb hown k52 dX5_mood_11 ?_
    refine callMi (va_runV (As := [.int (-1000000001)]) (rest := []) ⟨hx, hb, hml, hown, hts⟩ (k_X5_found l D cI cL cS b s1 w1 m1 n1 s2 w2 m2 n2 s3 w3 m3 n3 ik bt ln tk sb en nm bits size num fnd (-1000000001) (va_DT (hD _ rfl) rfl) (vp_in_iff.mpr (by decide))) (cwV 1 hts gX5_mood_X5_found rfl rfl rfl (by decide +kernel) ⟨Nat.le_of_ble_eq_true rfl, Nat.le_of_ble_eq_true rfl⟩) ⟨PcR_fb, va_recv hK hP (ci := 3) (q0 := 0) rfl rfl, PcR_pre hP hK⟩ rfl rfl hl.1 rfl (lv_room (Nat.le_of_ble_eq_true rfl)) dX5_mood_13 ⟨Nat.zero_le _, Nat.zero_le _⟩) hP (hD _ rfl) hS 0 49 rfl (fun r_7 u_6 H locs hu_6 hP hS => ?_)
    obtain ⟨hu_6r, -⟩ := hu_6
    subst hu_6r
    have hP : va_P D vwCl (kcw cI cL cS b s1 w1 m1 n1 s2 w2 m2 n2 s3 w3 m3 n3 ik bt ln tk sb en nm bits size num (bump fnd (-1000000001))) H := hP
    exact W.iret hx hb hr (fun t ht hW => ⟨⟨_, (s2, w2, m2, n2, bump fnd (-1000000001)), rfl, (by exact (iF_f c_1b).symm), by dsimp only; rw [ht]; exact hP⟩, hS.F ht⟩) hS.2.2 dX5_mood_16

set_option maxRecDepth 100000 in
set_option maxHeartbeats 4000000 in
theorem k_X5_count (l : Launch) (D : va_G) (cI cL cS : ClassId) (b : Nat → Nat → Nat) (s1 : Sg) (w1 m1 n1 : FI) (s2 : Sg) (w2 m2 n2 : FI) (s3 : Sg) (w3 m3 n3 : FI) (ik : Int32) (bt : FI) (ln tk sb en nm : Int32) (bits size : FI) (num : Nat → FJ) (fnd : FI) (x0 : Int32) (dj : va_D (fun _ => True) (djk b)) (o1 : okS s1 w1) : Met l yX5_count wsX5_count { frames := 2, cells := 0, slots := 0, locals := 43 } (PcR D vwCl (tyG cI cL cS) [.ref (b 0 0), .int x0] (kcw cI cL cS b s1 w1 m1 n1 s2 w2 m2 n2 s3 w3 m3 n3 ik bt ln tk sb en nm bits size num fnd)) (va_Qi (fun (r : Int32) (u : FI) => (r, u) = sCount s1 ln fnd x0) (fun u t => va_P D vwCl (kcw cI cL cS b s1 w1 m1 n1 s2 w2 m2 n2 s3 w3 m3 n3 ik bt ln tk sb en nm bits size num u) t.heap) (Aof (kcw cI cL cS b s1 w1 m1 n1 s2 w2 m2 n2 s3 w3 m3 n3 ik bt ln tk sb en nm bits size num fnd))) 0 0 (Aof (kcw cI cL cS b s1 w1 m1 n1 s2 w2 m2 n2 s3 w3 m3 n3 ik bt ln tk sb en nm bits size num fnd)) := by
  refine Met.ofW (cc := cX5_count) (maxL := 2) (ret := (some .int)) (by decide) rfl ?_
  intro p e s m args below meth c s₁ B hml hv
  obtain ⟨rfl, hP, hK⟩ := hv
  have hx := B.exec
  have hb := B.bytes
  have hr := B.returns
  have hts := atoms_spec (ws := wsX5_count) B.pre
  have hown : s.vm.findClass RX5 = some m.cls := findClass_of_methodNamed B.named
  have hlocks := B.notSynchronized
  obtain ⟨A, hAe⟩ : ∃ A, A = Aof (kcw cI cL cS b s1 w1 m1 n1 s2 w2 m2 n2 s3 w3 m3 n3 ik bt ln tk sb en nm bits size num fnd) := ⟨_, rfl⟩
  rw [← hAe]
  have hD : ∀ ws' : va_W, ws'.map Prod.fst = (kcw cI cL cS b s1 w1 m1 n1 s2 w2 m2 n2 s3 w3 m3 n3 ik bt ln tk sb en nm bits size num fnd).map Prod.fst → va_D A ws' := fun ws' e => by rw [hAe]; exact va_D_adr (va_D_self (va_D_adr dj rfl)) e
  have hS : va_S A s.heap s.heap [] := va_S.rf
  have hP : va_P D vwCl (kcw cI cL cS b s1 w1 m1 n1 s2 w2 m2 n2 s3 w3 m3 n3 ik bt ln tk sb en nm bits size num fnd) s.heap := hP
  have hl := lv_entry ([.ref (b 0 0), .int x0]) (n := 2) (Nat.le_of_ble_eq_true rfl)
  rw [lg_entry_eq]
  generalize (lg_sl ([.ref (b 0 0), .int x0]) ++ List.replicate (2 - (lg_sl ([.ref (b 0 0), .int x0])).length) Slot.unset).toArray = ls at hl ⊢
  have hl : lv_has ls 2 [(0, .ref (b 0 0)), (1, .int x0)] := hl
  have f10 := hts (.fieldLink RX5 10 "KnivesLaid" "table" "LKnivesLaid$Table;") (List.mem_of_getElem? (i := 1) rfl)
  have inX5 : ∀ w ∈ u_ws RX5 TX5 7, w ∈ wsX5_count := in_at 27 _ _ rfl
  have f89 := hts (.fieldLink RX5 89 "KnivesLaid$Table" "guests" "I") (List.mem_of_getElem? (i := 2) rfl)
  have inX3 : ∀ w ∈ u_ws RX3 TX3 13, w ∈ wsX5_count := in_at 34 _ _ rfl
  have f29 := hts (.fieldLink RX5 29 "KnivesLaid" "tape" "LKnivesLaid$Tape;") (List.mem_of_getElem? (i := 3) rfl)
  have f167 := hts (.fieldLink RX5 167 "KnivesLaid$Tape" "length" "I") (List.mem_of_getElem? (i := 4) rfl)
  have inX4 : ∀ w ∈ u_ws RX4 TX4 6, w ∈ wsX5_count := in_at 47 _ _ rfl
  have k52 := hts (.constant RX5 52 (-1000000001)) (List.mem_of_getElem? (i := 5) rfl)
  skip
  refine lv_iload_n hx hb dX5_count_0 rfl (lv_at hl 1 rfl) ?_
  by_cases c_1 : x0 = 0
  · refine lv_tableIn (tgt := 32) hx hb dX5_count_1 (by rw [c_1]; decide) (by rw [c_1]; decide) (by rw [c_1]; rfl) (by decide) ?_
    refine lv_aload_n hx hb dX5_count_32 rfl (lv_at hl 0 rfl) ?_
    refine va_get (ci := 3) (v := .ref (b 1 0)) (C := RX5) (T := TX5) (N := 7) hx hb hts inX5 hown hK hP 0 rfl rfl 0 (by decide) f10 (fun _ h9 => h9) rfl dX5_count_33 ?_
    refine va_get (ci := 1) (v := .int (sGu s1)) (C := RX3) (T := TX3) (N := 13) hx hb hts inX3 hown hK hP 1 rfl rfl 5 (by decide) f89 (fun _ h9 => h9) rfl dX5_count_36 ?_
    exact W.iret hx hb hr (fun t ht hW => ⟨⟨_, (fnd), rfl, (by unfold sCount; simp [c_1]), by dsimp only; rw [ht]; exact hP⟩, hS.F ht⟩) hS.2.2 dX5_count_39
  by_cases c_2 : x0 = 1
  · refine lv_tableIn (tgt := 40) hx hb dX5_count_1 (by rw [c_2]; decide) (by rw [c_2]; decide) (by rw [c_2]; rfl) (by decide) ?_
    refine lv_aload_n hx hb dX5_count_40 rfl (lv_at hl 0 rfl) ?_
    refine va_get (ci := 3) (v := .ref (b 4 0)) (C := RX5) (T := TX5) (N := 7) hx hb hts inX5 hown hK hP 0 rfl rfl 4 (by decide) f29 (fun _ h9 => h9) rfl dX5_count_41 ?_
    refine va_get (ci := 2) (v := .int ln) (C := RX4) (T := TX4) (N := 6) hx hb hts inX4 hown hK hP 37 rfl rfl 1 (by decide) f167 (fun _ h9 => h9) rfl dX5_count_44 ?_
    exact W.iret hx hb hr (fun t ht hW => ⟨⟨_, (fnd), rfl, (by unfold sCount; simp [c_2]), by dsimp only; rw [ht]; exact hP⟩, hS.F ht⟩) hS.2.2 dX5_count_47
  by_cases c_3 : x0 = 2
  · refine lv_tableIn (tgt := 48) hx hb dX5_count_1 (by rw [c_3]; decide) (by rw [c_3]; decide) (by rw [c_3]; rfl) (by decide) ?_
    refine lv_aload_n hx hb dX5_count_48 rfl (lv_at hl 0 rfl) ?_
    refine va_get (ci := 3) (v := .ref (b 1 0)) (C := RX5) (T := TX5) (N := 7) hx hb hts inX5 hown hK hP 0 rfl rfl 0 (by decide) f10 (fun _ h9 => h9) rfl dX5_count_49 ?_
    refine callE (W.runV (As := []) (rest := []) ⟨hx, hb, hml, hown, hts⟩ (k_X3_quarrelsOfAll l D cI cL cS (b 1) (sCo s1) (sGu s1) (sKn s1) (sFo s1) (sSp s1) w1 (sKi s1) (sPl s1) (sEa s1) (sTo s1) (sQu s1) m1 n1 o1.1.gu) (cwV 0 hts gX5_count_X3_quarrelsOfAll rfl rfl rfl (by decide +kernel) ⟨Nat.le_of_ble_eq_true rfl, Nat.le_of_ble_eq_true rfl⟩) ⟨PcR_fb, va_recv hK hP (ci := 1) (q0 := 1) rfl rfl, PcR_pre (va_seg hP 1 12 rfl) hK⟩ rfl rfl hl.1 rfl (lv_room (Nat.le_of_ble_eq_true rfl)) dX5_count_52 ⟨Nat.zero_le _, Nat.zero_le _⟩) ?_
    exact W.iret hx hb hr (fun t ht hW => ⟨⟨_, (fnd), rfl, (by unfold sCount; simp [c_3]), by dsimp only; rw [ht]; exact hP⟩, hS.F ht⟩) hS.2.2 dX5_count_55
  by_cases c_4 : x0 = 3
  · refine lv_tableIn (tgt := 56) hx hb dX5_count_1 (by rw [c_4]; decide) (by rw [c_4]; decide) (by rw [c_4]; rfl) (by decide) ?_
    refine lv_aload_n hx hb dX5_count_56 rfl (lv_at hl 0 rfl) ?_
    refine va_get (ci := 3) (v := .ref (b 1 0)) (C := RX5) (T := TX5) (N := 7) hx hb hts inX5 hown hK hP 0 rfl rfl 0 (by decide) f10 (fun _ h9 => h9) rfl dX5_count_57 ?_
    refine callE (W.runV (As := []) (rest := []) ⟨hx, hb, hml, hown, hts⟩ (k_X3_hairsOfAll l D cI cL cS (b 1) (sCo s1) (sGu s1) (sKn s1) (sFo s1) (sSp s1) w1 (sKi s1) (sPl s1) (sEa s1) (sTo s1) (sQu s1) m1 n1) (cwV 0 hts gX5_count_X3_hairsOfAll rfl rfl rfl (by decide +kernel) ⟨Nat.le_of_ble_eq_true rfl, Nat.le_of_ble_eq_true rfl⟩) ⟨PcR_fb, va_recv hK hP (ci := 1) (q0 := 1) rfl rfl, PcR_pre (va_seg hP 1 12 rfl) hK⟩ rfl rfl hl.1 rfl (lv_room (Nat.le_of_ble_eq_true rfl)) dX5_count_60 ⟨Nat.zero_le _, Nat.zero_le _⟩) ?_
    exact W.iret hx hb hr (fun t ht hW => ⟨⟨_, (fnd), rfl, (by unfold sCount; simp [c_4]), by dsimp only; rw [ht]; exact hP⟩, hS.F ht⟩) hS.2.2 dX5_count_63
  refine lv_tableOut (tgt := 64) hx hb dX5_count_1 (by have := lv_neT c_1 (a := 0) rfl; have := lv_neT c_2 (a := 1) rfl; have := lv_neT c_3 (a := 2) rfl; have := lv_neT c_4 (a := 3) rfl; omega) (by decide) ?_
  refine lv_aload_n hx hb dX5_count_64 rfl (lv_at hl 0 rfl) ?_
  refine lv_ldc hx hb hown k52 dX5_count_65 ?_
  refine callMi (va_runV (As := [.int (-1000000001)]) (rest := []) ⟨hx, hb, hml, hown, hts⟩ (k_X5_found l D cI cL cS b s1 w1 m1 n1 s2 w2 m2 n2 s3 w3 m3 n3 ik bt ln tk sb en nm bits size num fnd (-1000000001) (va_DT (hD _ rfl) rfl) (vp_in_iff.mpr (by decide))) (cwV 1 hts gX5_count_X5_found rfl rfl rfl (by decide +kernel) ⟨Nat.le_of_ble_eq_true rfl, Nat.le_of_ble_eq_true rfl⟩) ⟨PcR_fb, va_recv hK hP (ci := 3) (q0 := 0) rfl rfl, PcR_pre hP hK⟩ rfl rfl hl.1 rfl (lv_room (Nat.le_of_ble_eq_true rfl)) dX5_count_67 ⟨Nat.zero_le _, Nat.zero_le _⟩) hP (hD _ rfl) hS 0 49 rfl (fun r_6 u_5 H locs hu_5 hP hS => ?_)
  obtain ⟨hu_5r, -⟩ := hu_5
  subst hu_5r
  have hP : va_P D vwCl (kcw cI cL cS b s1 w1 m1 n1 s2 w2 m2 n2 s3 w3 m3 n3 ik bt ln tk sb en nm bits size num (bump fnd (-1000000001))) H := hP
  exact W.iret hx hb hr (fun t ht hW => ⟨⟨_, (bump fnd (-1000000001)), rfl, (by unfold sCount; simp [c_1, c_2, c_3, c_4]), by dsimp only; rw [ht]; exact hP⟩, hS.F ht⟩) hS.2.2 dX5_count_70

set_option maxRecDepth 100000 in
set_option maxHeartbeats 4000000 in
theorem k_X5_status (l : Launch) (D : va_G) (cI cL cS : ClassId) (b : Nat → Nat → Nat) (s1 : Sg) (w1 m1 n1 : FI) (s2 : Sg) (w2 m2 n2 : FI) (s3 : Sg) (w3 m3 n3 : FI) (ik : Int32) (bt : FI) (ln tk sb en nm : Int32) (bits size : FI) (num : Nat → FJ) (fnd : FI) (x0 : Int32) (dj : va_D (fun _ => True) (djk b))  : Met l yX5_status wsX5_status { frames := 1, cells := 0, slots := 0, locals := 22 } (PcR D vwCl (tyG cI cL cS) [.ref (b 0 0), .int x0] (kcw cI cL cS b s1 w1 m1 n1 s2 w2 m2 n2 s3 w3 m3 n3 ik bt ln tk sb en nm bits size num fnd)) (va_Qi (fun (r : Int32) (u : FI) => (r, u) = sStatus fnd x0) (fun u t => va_P D vwCl (kcw cI cL cS b s1 w1 m1 n1 s2 w2 m2 n2 s3 w3 m3 n3 ik bt ln tk sb en nm bits size num u) t.heap) (Aof (kcw cI cL cS b s1 w1 m1 n1 s2 w2 m2 n2 s3 w3 m3 n3 ik bt ln tk sb en nm bits size num fnd))) 0 0 (Aof (kcw cI cL cS b s1 w1 m1 n1 s2 w2 m2 n2 s3 w3 m3 n3 ik bt ln tk sb en nm bits size num fnd)) := by
  refine Met.ofW (cc := cX5_status) (maxL := 4) (ret := (some .int)) (by decide) rfl ?_
  intro p e s m args below meth c s₁ B hml hv
  obtain ⟨rfl, hP, hK⟩ := hv
  have hx := B.exec
  have hb := B.bytes
  have hr := B.returns
  have hts := atoms_spec (ws := wsX5_status) B.pre
  have hown : s.vm.findClass RX5 = some m.cls := findClass_of_methodNamed B.named
  have hlocks := B.notSynchronized
  obtain ⟨A, hAe⟩ : ∃ A, A = Aof (kcw cI cL cS b s1 w1 m1 n1 s2 w2 m2 n2 s3 w3 m3 n3 ik bt ln tk sb en nm bits size num fnd) := ⟨_, rfl⟩
  rw [← hAe]
  have hD : ∀ ws' : va_W, ws'.map Prod.fst = (kcw cI cL cS b s1 w1 m1 n1 s2 w2 m2 n2 s3 w3 m3 n3 ik bt ln tk sb en nm bits size num fnd).map Prod.fst → va_D A ws' := fun ws' e => by rw [hAe]; exact va_D_adr (va_D_self (va_D_adr dj rfl)) e
  have hS : va_S A s.heap s.heap [] := va_S.rf
  have hP : va_P D vwCl (kcw cI cL cS b s1 w1 m1 n1 s2 w2 m2 n2 s3 w3 m3 n3 ik bt ln tk sb en nm bits size num fnd) s.heap := hP
  have hl := lv_entry ([.ref (b 0 0), .int x0]) (n := 4) (Nat.le_of_ble_eq_true rfl)
  rw [lg_entry_eq]
  generalize (lg_sl ([.ref (b 0 0), .int x0]) ++ List.replicate (4 - (lg_sl ([.ref (b 0 0), .int x0])).length) Slot.unset).toArray = ls at hl ⊢
  have hl : lv_has ls 4 [(0, .ref (b 0 0)), (1, .int x0)] := hl
  have f40 := hts (.fieldLink RX5 40 "KnivesLaid" "findings" "[I") (List.mem_of_getElem? (i := 2) rfl)
  have inX5 : ∀ w ∈ u_ws RX5 TX5 7, w ∈ wsX5_status := in_at 11 _ _ rfl
  have k52 := hts (.constant RX5 52 (-1000000001)) (List.mem_of_getElem? (i := 1) rfl)
  skip
  refine lv_iload_n hx hb dX5_status_0 rfl (lv_at hl 1 rfl) ?_
  refine lv_iconst (v := (-1)) hx hb dX5_status_1 (by decide) ?_
  refine lv_bipush (v := 6) hx hb dX5_status_2 (by decide) ?_
  refine callE (W.runS (As := [.int x0, .int (-1), .int 6]) (rest := []) ⟨hx, hb, hml, hown, hts⟩ (k_X5_within l x0 (-1) 6) (va_cwS 3 hts gX5_status_X5_within rfl rfl rfl (by decide +kernel) ⟨Nat.le_of_ble_eq_true rfl, Nat.le_of_ble_eq_true rfl⟩) ⟨PcP_fb, fun U _ _ => ⟨rfl, trivial⟩⟩ rfl rfl hl.1 rfl (lv_room (Nat.le_of_ble_eq_true rfl)) dX5_status_4 ⟨Nat.zero_le _, Nat.zero_le _⟩) ?_
  refine lv_if_ne (tgt := 17) hx hb dX5_status_7 (by decide) (fun c_1 => ?_) (fun c_1 => ?_)
  · skip
    have c_1b := bI_n c_1
    refine lv_iload_n hx hb dX5_status_17 rfl (lv_at hl 1 rfl) ?_
    refine lv_if_lt (tgt := 28) hx hb dX5_status_18 (by decide) (fun c_2 => ?_) (fun c_2 => ?_)
    · skip
      refine lv_iconst (v := 0) hx hb dX5_status_28 (by decide) ?_
      refine lv_istore_n (lv' := [(2, .int 0), (0, .ref (b 0 0)), (1, .int x0)]) hx hb dX5_status_29 rfl hl (by decide) rfl (fun ls hl => ?_)
      refine lv_iconst (v := 0) hx hb dX5_status_30 (by decide) ?_
      refine lv_istore_n (lv' := [(3, .int 0), (2, .int 0), (0, .ref (b 0 0)), (1, .int x0)]) hx hb dX5_status_31 rfl hl (by decide) rfl (fun ls hl => ?_)
      refine lpR (fun n (u : Nat × Int32) ls => (u.1 + n = 7) ∧ (u.2 = sSum fnd u.1) ∧ lv_has ls 4 [(0, .ref (b 0 0)), (1, .int x0), (2, .int u.2), (3, .int (nI u.1))]) (7) ((0, 0)) ⟨by omega, rfl, lv_sub hl [2, 3, 1, 0] rfl⟩ (fun n ih u ls hI => ?_)
      obtain ⟨i, z⟩ := u
      obtain ⟨hi0, hi1, hl⟩ := hI
      have hi0 : i + n = 7 := hi0
      have hi1 : z = sSum fnd i := hi1
      have hl : lv_has ls 4 [(0, .ref (b 0 0)), (1, .int x0), (2, .int z), (3, .int (nI i))] := hl
      have hix : ix (nI i) = i := ix_nI (by omega)
      refine lv_iload_n hx hb dX5_status_32 rfl (lv_at hl 3 rfl) ?_
      refine lv_bipush (v := 7) hx hb dX5_status_33 (by decide) ?_
      refine lv_icmp_ge (tgt := 53) hx hb dX5_status_35 (by decide) (fun c_3 => ?_) (fun c_3 => ?_)
      · skip
        have c_3n := (cmp_le (a := 7) (b := i) rfl rfl (by omega) (by omega)).mp c_3
        refine lv_iload_n hx hb dX5_status_53 rfl (lv_at hl 2 rfl) ?_
        exact W.iret hx hb hr (fun t ht hW => ⟨⟨_, (fnd), rfl, (by unfold sStatus; rw [iF_t c_1b, if_pos c_2, hi1, show i = 7 by omega]), by dsimp only; rw [ht]; exact hP⟩, hS.F ht⟩) hS.2.2 dX5_status_54
      · skip
        have c_3n := mt (cmp_le (a := 7) (b := i) rfl rfl (by omega) (by omega)).mpr c_3
        refine lv_iload_n hx hb dX5_status_38 rfl (lv_at hl 2 rfl) ?_
        refine lv_aload_n hx hb dX5_status_39 rfl (lv_at hl 0 rfl) ?_
        refine va_get (ci := 3) (v := .ref (b 9 0)) (C := RX5) (T := TX5) (N := 7) hx hb hts inX5 hown hK hP 0 rfl rfl 6 (by decide) f40 (fun _ h9 => h9) rfl dX5_status_40 ?_
        refine lv_iload_n hx hb dX5_status_43 rfl (lv_at hl 3 rfl) ?_
        refine va_iald hx hb hK hP 48 0 rfl rfl (vp_in_nI (by omega) (by omega)) dX5_status_44 ?_
        refine lv_iadd hx hb dX5_status_45 ?_
        refine lv_istore_n (lv' := [(2, .int (z + (fnd (ix (nI i))))), (0, .ref (b 0 0)), (1, .int x0), (3, .int (nI i))]) hx hb dX5_status_46 rfl hl (by decide) rfl (fun ls hl => ?_)
        refine lv_iinc (v := nI (i + 1)) (lv' := [(3, .int (nI (i + 1))), (2, .int (z + (fnd (ix (nI i))))), (0, .ref (b 0 0)), (1, .int x0)]) hx hb dX5_status_47 hl (k := 3) rfl (nI_1 _) (by decide) rfl (fun ls hl => ?_)
        refine lv_goto (tgt := 32) hx hb dX5_status_50 (by decide) ?_
        exact ih (n - 1) (by omega) ((i + 1, (z + (fnd (ix (nI i)))))) ls ⟨by omega, by rw [hi1, hix]; rfl, lv_sub hl [2, 3, 1, 0] rfl⟩
    · skip
      refine lv_aload_n hx hb dX5_status_21 rfl (lv_at hl 0 rfl) ?_
      refine va_get (ci := 3) (v := .ref (b 9 0)) (C := RX5) (T := TX5) (N := 7) hx hb hts inX5 hown hK hP 0 rfl rfl 6 (by decide) f40 (fun _ h9 => h9) rfl dX5_status_22 ?_
      refine lv_iload_n hx hb dX5_status_25 rfl (lv_at hl 1 rfl) ?_
      refine va_iald hx hb hK hP 48 0 rfl rfl (st_in c_1b c_2) dX5_status_26 ?_
      exact W.iret hx hb hr (fun t ht hW => ⟨⟨_, (fnd), rfl, (by unfold sStatus; rw [iF_t c_1b, if_neg c_2]), by dsimp only; rw [ht]; exact hP⟩, hS.F ht⟩) hS.2.2 dX5_status_27
  · skip
    have c_1b := bI_0 c_1
    refine lv_aload_n hx hb dX5_status_10 rfl (lv_at hl 0 rfl) ?_
    refine lv_ldc hx hb hown k52 dX5_status_11 ?_
    refine callMi (va_runV (As := [.int (-1000000001)]) (rest := []) ⟨hx, hb, hml, hown, hts⟩ (k_X5_found l D cI cL cS b s1 w1 m1 n1 s2 w2 m2 n2 s3 w3 m3 n3 ik bt ln tk sb en nm bits size num fnd (-1000000001) (va_DT (hD _ rfl) rfl) (vp_in_iff.mpr (by decide))) (cwV 1 hts gX5_status_X5_found rfl rfl rfl (by decide +kernel) ⟨Nat.le_of_ble_eq_true rfl, Nat.le_of_ble_eq_true rfl⟩) ⟨PcR_fb, va_recv hK hP (ci := 3) (q0 := 0) rfl rfl, PcR_pre hP hK⟩ rfl rfl hl.1 rfl (lv_room (Nat.le_of_ble_eq_true rfl)) dX5_status_13 ⟨Nat.zero_le _, Nat.zero_le _⟩) hP (hD _ rfl) hS 0 49 rfl (fun r_5 u_4 H locs hu_4 hP hS => ?_)
    obtain ⟨hu_4r, -⟩ := hu_4
    subst hu_4r
    have hP : va_P D vwCl (kcw cI cL cS b s1 w1 m1 n1 s2 w2 m2 n2 s3 w3 m3 n3 ik bt ln tk sb en nm bits size num (bump fnd (-1000000001))) H := hP
    exact W.iret hx hb hr (fun t ht hW => ⟨⟨_, (bump fnd (-1000000001)), rfl, (by exact (iF_f c_1b).symm), by dsimp only; rw [ht]; exact hP⟩, hS.F ht⟩) hS.2.2 dX5_status_16

set_option maxRecDepth 100000 in
set_option maxHeartbeats 4000000 in
theorem k_X5_image (l : Launch) (D : va_G) (cI cL cS : ClassId) (b : Nat → Nat → Nat) (s1 : Sg) (w1 m1 n1 : FI) (s2 : Sg) (w2 m2 n2 : FI) (s3 : Sg) (w3 m3 n3 : FI) (ik : Int32) (bt : FI) (ln tk sb en nm : Int32) (bits size : FI) (num : Nat → FJ) (fnd : FI) (dj : va_D (fun _ => True) (djk b))  : Met l yX5_image wsX5_image { frames := 2, cells := 0, slots := 0, locals := 51 } (PcR D vwCl (tyG cI cL cS) [.ref (b 0 0)] (kcw cI cL cS b s1 w1 m1 n1 s2 w2 m2 n2 s3 w3 m3 n3 ik bt ln tk sb en nm bits size num fnd)) (va_Qi (fun (r : Int32) (u : Sg × FI × Int32) => r = 1 ∧ u.1 = s1 ∧ u.2.1 = w1 ∧ u.2.2 = 1) (fun u t => va_P D vwCl (kcw cI cL cS b s1 w1 m1 n1 s2 w2 m2 n2 u.1 u.2.1 m3 n3 u.2.2 bt ln tk sb en nm bits size num fnd) t.heap) (Aof (kcw cI cL cS b s1 w1 m1 n1 s2 w2 m2 n2 s3 w3 m3 n3 ik bt ln tk sb en nm bits size num fnd))) 0 0 (Aof (kcw cI cL cS b s1 w1 m1 n1 s2 w2 m2 n2 s3 w3 m3 n3 ik bt ln tk sb en nm bits size num fnd)) := by
  refine Met.ofW (cc := cX5_image) (maxL := 1) (ret := (some .int)) (by decide) rfl ?_
  intro p e s m args below meth c s₁ B hml hv
  obtain ⟨rfl, hP, hK⟩ := hv
  have hx := B.exec
  have hb := B.bytes
  have hr := B.returns
  have hts := atoms_spec (ws := wsX5_image) B.pre
  have hown : s.vm.findClass RX5 = some m.cls := findClass_of_methodNamed B.named
  have hlocks := B.notSynchronized
  obtain ⟨A, hAe⟩ : ∃ A, A = Aof (kcw cI cL cS b s1 w1 m1 n1 s2 w2 m2 n2 s3 w3 m3 n3 ik bt ln tk sb en nm bits size num fnd) := ⟨_, rfl⟩
  rw [← hAe]
  have hD : ∀ ws' : va_W, ws'.map Prod.fst = (kcw cI cL cS b s1 w1 m1 n1 s2 w2 m2 n2 s3 w3 m3 n3 ik bt ln tk sb en nm bits size num fnd).map Prod.fst → va_D A ws' := fun ws' e => by rw [hAe]; exact va_D_adr (va_D_self (va_D_adr dj rfl)) e
  have hS : va_S A s.heap s.heap [] := va_S.rf
  have hP : va_P D vwCl (kcw cI cL cS b s1 w1 m1 n1 s2 w2 m2 n2 s3 w3 m3 n3 ik bt ln tk sb en nm bits size num fnd) s.heap := hP
  have hl := lv_entry ([.ref (b 0 0)]) (n := 1) (Nat.le_of_ble_eq_true rfl)
  rw [lg_entry_eq]
  generalize (lg_sl ([.ref (b 0 0)]) ++ List.replicate (1 - (lg_sl ([.ref (b 0 0)])).length) Slot.unset).toArray = ls at hl ⊢
  have hl : lv_has ls 1 [(0, .ref (b 0 0))] := hl
  have f19 := hts (.fieldLink RX5 19 "KnivesLaid" "kept" "LKnivesLaid$Table;") (List.mem_of_getElem? (i := 1) rfl)
  have inX5 : ∀ w ∈ u_ws RX5 TX5 7, w ∈ wsX5_image := in_at 24 _ _ rfl
  have f10 := hts (.fieldLink RX5 10 "KnivesLaid" "table" "LKnivesLaid$Table;") (List.mem_of_getElem? (i := 2) rfl)
  have f22 := hts (.fieldLink RX5 22 "KnivesLaid" "isKept" "Z") (List.mem_of_getElem? (i := 3) rfl)
  skip
  refine lv_aload_n hx hb dX5_image_0 rfl (lv_at hl 0 rfl) ?_
  refine va_get (ci := 3) (v := .ref (b 3 0)) (C := RX5) (T := TX5) (N := 7) hx hb hts inX5 hown hK hP 0 rfl rfl 2 (by decide) f19 (fun _ h9 => h9) rfl dX5_image_1 ?_
  refine lv_aload_n hx hb dX5_image_4 rfl (lv_at hl 0 rfl) ?_
  refine va_get (ci := 3) (v := .ref (b 1 0)) (C := RX5) (T := TX5) (N := 7) hx hb hts inX5 hown hK hP 0 rfl rfl 0 (by decide) f10 (fun _ h9 => h9) rfl dX5_image_5 ?_
  refine callBec (wt := tbw cI (b 3) (sCo s3) (sGu s3) (sKn s3) (sFo s3) (sSp s3) w3 (sKi s3) (sPl s3) (sEa s3) (sTo s3) (sQu s3) m3 n3) (wo := tbw cI (b 1) (sCo s1) (sGu s1) (sKn s1) (sFo s1) (sSp s1) w1 (sKi s1) (sPl s1) (sEa s1) (sTo s1) (sQu s1) m1 n1) (w1 := tbw cI (b 3) (sCo s1) (sGu s1) (sKn s1) (sFo s1) (sSp s1) w1 (sKi s1) (sPl s1) (sEa s1) (sTo s1) (sQu s1) m3 n3) (va_runV (As := [.ref (b 1 0)]) (rest := []) ⟨hx, hb, hml, hown, hts⟩ (k_X3_become l D cI cL cS (b 3) (sCo s3) (sGu s3) (sKn s3) (sFo s3) (sSp s3) w3 (sKi s3) (sPl s3) (sEa s3) (sTo s3) (sQu s3) m3 n3 (b 1) (sCo s1) (sGu s1) (sKn s1) (sFo s1) (sSp s1) w1 (sKi s1) (sPl s1) (sEa s1) (sTo s1) (sQu s1) m1 n1 (va_DT (va_D.sub (ws' := tbw2 cI (b 3) (b 1) (sCo s3) (sGu s3) (sKn s3) (sFo s3) (sSp s3) w3 (sKi s3) (sPl s3) (sEa s3) (sTo s3) (sQu s3) m3 n3 (sCo s1) (sGu s1) (sKn s1) (sFo s1) (sSp s1) w1 (sKi s1) (sPl s1) (sEa s1) (sTo s1) (sQu s1) m1 n1) (hD (kcw cI cL cS b s1 w1 m1 n1 s2 w2 m2 n2 s3 w3 m3 n3 ik bt ln tk sb en nm bits size num fnd) rfl) [25, 26, 27, 28, 29, 30, 31, 32, 33, 34, 35, 36, 1, 2, 3, 4, 5, 6, 7, 8, 9, 10, 11, 12] (by decide) rfl) rfl)) (cwV 1 hts gX5_image_X3_become rfl rfl rfl (by decide +kernel) ⟨Nat.le_of_ble_eq_true rfl, Nat.le_of_ble_eq_true rfl⟩) ⟨PcR_fb, va_recv hK hP (ci := 1) (q0 := 25) rfl rfl, PcR_pre (va_P.sub hP [25, 26, 27, 28, 29, 30, 31, 32, 33, 34, 35, 36, 1, 2, 3, 4, 5, 6, 7, 8, 9, 10, 11, 12] rfl) hK⟩ rfl rfl hl.1 rfl (lv_room (Nat.le_of_ble_eq_true rfl)) dX5_image_8 ⟨Nat.zero_le _, Nat.zero_le _⟩) hP (hD _ rfl) hS 25 12 1 12 rfl rfl rfl (fun H locs hP hS => ?_)
  have hP : va_P D vwCl (kcw cI cL cS b s1 w1 m1 n1 s2 w2 m2 n2 s1 w1 m3 n3 ik bt ln tk sb en nm bits size num fnd) H := hP
  refine lv_aload_n hx hb dX5_image_11 rfl (lv_at hl 0 rfl) ?_
  refine lv_iconst (v := 1) hx hb dX5_image_12 (by decide) ?_
  refine va_put (ci := 3) (v := .int 1) (ty := .boolean) (C := RX5) (T := TX5) (N := 7) hx hb hts inX5 tyX5 tyX5_ok nmX5 hown hK hP (hD _ rfl) hS 0 rfl rfl 3 (by decide) f22 (fun _ h9 => h9) rfl rfl rfl rfl (Nat.le_of_ble_eq_true rfl) dX5_image_13 (fun H locs hP _ hS => ?_)
  have hP : va_P D vwCl (kcw cI cL cS b s1 w1 m1 n1 s2 w2 m2 n2 s1 w1 m3 n3 1 bt ln tk sb en nm bits size num fnd) H := hP
  refine lv_iconst (v := 1) hx hb dX5_image_16 (by decide) ?_
  exact W.iret hx hb hr (fun t ht hW => ⟨⟨_, (s1, w1, 1), rfl, (by exact ⟨rfl, rfl, rfl, rfl⟩), by dsimp only; rw [ht]; exact hP⟩, hS.F ht⟩) hS.2.2 dX5_image_17

set_option maxRecDepth 100000 in
set_option maxHeartbeats 4000000 in
theorem k_X5_undo (l : Launch) (D : va_G) (cI cL cS : ClassId) (b : Nat → Nat → Nat) (s1 : Sg) (w1 m1 n1 : FI) (s2 : Sg) (w2 m2 n2 : FI) (s3 : Sg) (w3 m3 n3 : FI) (ik : Int32) (bt : FI) (ln tk sb en nm : Int32) (bits size : FI) (num : Nat → FJ) (fnd : FI) (dj : va_D (fun _ => True) (djk b)) (o1 : okS s1 w1) (o3 : okS s3 w3) : Met l yX5_undo wsX5_undo { frames := 2, cells := 0, slots := 0, locals := 51 } (PcR D vwCl (tyG cI cL cS) [.ref (b 0 0)] (kcw cI cL cS b s1 w1 m1 n1 s2 w2 m2 n2 s3 w3 m3 n3 ik bt ln tk sb en nm bits size num fnd)) (va_Qi (fun (r : Int32) (u : Sg × FI × FI) => (r, u.1, u.2.2) = sUndo s1 s3 ik fnd ∧ okS u.1 u.2.1) (fun u t => va_P D vwCl (kcw cI cL cS b u.1 u.2.1 m1 n1 s2 w2 m2 n2 s3 w3 m3 n3 ik bt ln tk sb en nm bits size num u.2.2) t.heap) (Aof (kcw cI cL cS b s1 w1 m1 n1 s2 w2 m2 n2 s3 w3 m3 n3 ik bt ln tk sb en nm bits size num fnd))) 0 0 (Aof (kcw cI cL cS b s1 w1 m1 n1 s2 w2 m2 n2 s3 w3 m3 n3 ik bt ln tk sb en nm bits size num fnd)) := by
  refine Met.ofW (cc := cX5_undo) (maxL := 1) (ret := (some .int)) (by decide) rfl ?_
  intro p e s m args below meth c s₁ B hml hv
  obtain ⟨rfl, hP, hK⟩ := hv
  have hx := B.exec
  have hb := B.bytes
  have hr := B.returns
  have hts := atoms_spec (ws := wsX5_undo) B.pre
  have hown : s.vm.findClass RX5 = some m.cls := findClass_of_methodNamed B.named
  have hlocks := B.notSynchronized
  obtain ⟨A, hAe⟩ : ∃ A, A = Aof (kcw cI cL cS b s1 w1 m1 n1 s2 w2 m2 n2 s3 w3 m3 n3 ik bt ln tk sb en nm bits size num fnd) := ⟨_, rfl⟩
  rw [← hAe]
  have hD : ∀ ws' : va_W, ws'.map Prod.fst = (kcw cI cL cS b s1 w1 m1 n1 s2 w2 m2 n2 s3 w3 m3 n3 ik bt ln tk sb en nm bits size num fnd).map Prod.fst → va_D A ws' := fun ws' e => by rw [hAe]; exact va_D_adr (va_D_self (va_D_adr dj rfl)) e
  have hS : va_S A s.heap s.heap [] := va_S.rf
  have hP : va_P D vwCl (kcw cI cL cS b s1 w1 m1 n1 s2 w2 m2 n2 s3 w3 m3 n3 ik bt ln tk sb en nm bits size num fnd) s.heap := hP
  have hl := lv_entry ([.ref (b 0 0)]) (n := 1) (Nat.le_of_ble_eq_true rfl)
  rw [lg_entry_eq]
  generalize (lg_sl ([.ref (b 0 0)]) ++ List.replicate (1 - (lg_sl ([.ref (b 0 0)])).length) Slot.unset).toArray = ls at hl ⊢
  have hl : lv_has ls 1 [(0, .ref (b 0 0))] := hl
  have f22 := hts (.fieldLink RX5 22 "KnivesLaid" "isKept" "Z") (List.mem_of_getElem? (i := 1) rfl)
  have inX5 : ∀ w ∈ u_ws RX5 TX5 7, w ∈ wsX5_undo := in_at 33 _ _ rfl
  have f10 := hts (.fieldLink RX5 10 "KnivesLaid" "table" "LKnivesLaid$Table;") (List.mem_of_getElem? (i := 3) rfl)
  have f19 := hts (.fieldLink RX5 19 "KnivesLaid" "kept" "LKnivesLaid$Table;") (List.mem_of_getElem? (i := 4) rfl)
  have f89 := hts (.fieldLink RX5 89 "KnivesLaid$Table" "guests" "I") (List.mem_of_getElem? (i := 5) rfl)
  have inX3 : ∀ w ∈ u_ws RX3 TX3 13, w ∈ wsX5_undo := in_at 40 _ _ rfl
  have k160 := hts (.constant RX5 160 (-1000000004)) (List.mem_of_getElem? (i := 2) rfl)
  skip
  refine lv_aload_n hx hb dX5_undo_0 rfl (lv_at hl 0 rfl) ?_
  refine va_get (ci := 3) (v := .int ik) (C := RX5) (T := TX5) (N := 7) hx hb hts inX5 hown hK hP 0 rfl rfl 3 (by decide) f22 (fun _ h9 => h9) rfl dX5_undo_1 ?_
  refine lv_if_ne (tgt := 14) hx hb dX5_undo_4 (by decide) (fun c_1 => ?_) (fun c_1 => ?_)
  · skip
    refine lv_aload_n hx hb dX5_undo_14 rfl (lv_at hl 0 rfl) ?_
    refine va_get (ci := 3) (v := .ref (b 1 0)) (C := RX5) (T := TX5) (N := 7) hx hb hts inX5 hown hK hP 0 rfl rfl 0 (by decide) f10 (fun _ h9 => h9) rfl dX5_undo_15 ?_
    refine lv_aload_n hx hb dX5_undo_18 rfl (lv_at hl 0 rfl) ?_
    refine va_get (ci := 3) (v := .ref (b 3 0)) (C := RX5) (T := TX5) (N := 7) hx hb hts inX5 hown hK hP 0 rfl rfl 2 (by decide) f19 (fun _ h9 => h9) rfl dX5_undo_19 ?_
    refine callBec (wt := tbw cI (b 1) (sCo s1) (sGu s1) (sKn s1) (sFo s1) (sSp s1) w1 (sKi s1) (sPl s1) (sEa s1) (sTo s1) (sQu s1) m1 n1) (wo := tbw cI (b 3) (sCo s3) (sGu s3) (sKn s3) (sFo s3) (sSp s3) w3 (sKi s3) (sPl s3) (sEa s3) (sTo s3) (sQu s3) m3 n3) (w1 := tbw cI (b 1) (sCo s3) (sGu s3) (sKn s3) (sFo s3) (sSp s3) w3 (sKi s3) (sPl s3) (sEa s3) (sTo s3) (sQu s3) m1 n1) (va_runV (As := [.ref (b 3 0)]) (rest := []) ⟨hx, hb, hml, hown, hts⟩ (k_X3_become l D cI cL cS (b 1) (sCo s1) (sGu s1) (sKn s1) (sFo s1) (sSp s1) w1 (sKi s1) (sPl s1) (sEa s1) (sTo s1) (sQu s1) m1 n1 (b 3) (sCo s3) (sGu s3) (sKn s3) (sFo s3) (sSp s3) w3 (sKi s3) (sPl s3) (sEa s3) (sTo s3) (sQu s3) m3 n3 (va_DT (va_D.sub (ws' := tbw2 cI (b 1) (b 3) (sCo s1) (sGu s1) (sKn s1) (sFo s1) (sSp s1) w1 (sKi s1) (sPl s1) (sEa s1) (sTo s1) (sQu s1) m1 n1 (sCo s3) (sGu s3) (sKn s3) (sFo s3) (sSp s3) w3 (sKi s3) (sPl s3) (sEa s3) (sTo s3) (sQu s3) m3 n3) (hD (kcw cI cL cS b s1 w1 m1 n1 s2 w2 m2 n2 s3 w3 m3 n3 ik bt ln tk sb en nm bits size num fnd) rfl) [1, 2, 3, 4, 5, 6, 7, 8, 9, 10, 11, 12, 25, 26, 27, 28, 29, 30, 31, 32, 33, 34, 35, 36] (by decide) rfl) rfl)) (cwV 1 hts gX5_undo_X3_become rfl rfl rfl (by decide +kernel) ⟨Nat.le_of_ble_eq_true rfl, Nat.le_of_ble_eq_true rfl⟩) ⟨PcR_fb, va_recv hK hP (ci := 1) (q0 := 1) rfl rfl, PcR_pre (va_P.sub hP [1, 2, 3, 4, 5, 6, 7, 8, 9, 10, 11, 12, 25, 26, 27, 28, 29, 30, 31, 32, 33, 34, 35, 36] rfl) hK⟩ rfl rfl hl.1 rfl (lv_room (Nat.le_of_ble_eq_true rfl)) dX5_undo_22 ⟨Nat.zero_le _, Nat.zero_le _⟩) hP (hD _ rfl) hS 1 12 25 12 rfl rfl rfl (fun H locs hP hS => ?_)
    have hP : va_P D vwCl (kcw cI cL cS b s3 w3 m1 n1 s2 w2 m2 n2 s3 w3 m3 n3 ik bt ln tk sb en nm bits size num fnd) H := hP
    refine lv_aload_n hx hb dX5_undo_25 rfl (lv_at hl 0 rfl) ?_
    refine va_get (ci := 3) (v := .ref (b 1 0)) (C := RX5) (T := TX5) (N := 7) hx hb hts inX5 hown hK hP 0 rfl rfl 0 (by decide) f10 (fun _ h9 => h9) rfl dX5_undo_26 ?_
    refine va_get (ci := 1) (v := .int (sGu s3)) (C := RX3) (T := TX3) (N := 13) hx hb hts inX3 hown hK hP 1 rfl rfl 5 (by decide) f89 (fun _ h9 => h9) rfl dX5_undo_29 ?_
    exact W.iret hx hb hr (fun t ht hW => ⟨⟨_, (s3, w3, fnd), rfl, (by exact ⟨(if_neg c_1).symm, o3⟩), by dsimp only; rw [ht]; exact hP⟩, hS.F ht⟩) hS.2.2 dX5_undo_32
  · skip
    refine lv_aload_n hx hb dX5_undo_7 rfl (lv_at hl 0 rfl) ?_
    refine lv_ldc hx hb hown k160 dX5_undo_8 ?_
    refine callMi (va_runV (As := [.int (-1000000004)]) (rest := []) ⟨hx, hb, hml, hown, hts⟩ (k_X5_found l D cI cL cS b s1 w1 m1 n1 s2 w2 m2 n2 s3 w3 m3 n3 ik bt ln tk sb en nm bits size num fnd (-1000000004) (va_DT (hD _ rfl) rfl) (vp_in_iff.mpr (by decide))) (cwV 1 hts gX5_undo_X5_found rfl rfl rfl (by decide +kernel) ⟨Nat.le_of_ble_eq_true rfl, Nat.le_of_ble_eq_true rfl⟩) ⟨PcR_fb, va_recv hK hP (ci := 3) (q0 := 0) rfl rfl, PcR_pre hP hK⟩ rfl rfl hl.1 rfl (lv_room (Nat.le_of_ble_eq_true rfl)) dX5_undo_10 ⟨Nat.zero_le _, Nat.zero_le _⟩) hP (hD _ rfl) hS 0 49 rfl (fun r_3 u_2 H locs hu_2 hP hS => ?_)
    obtain ⟨hu_2r, -⟩ := hu_2
    subst hu_2r
    have hP : va_P D vwCl (kcw cI cL cS b s1 w1 m1 n1 s2 w2 m2 n2 s3 w3 m3 n3 ik bt ln tk sb en nm bits size num (bump fnd (-1000000004))) H := hP
    exact W.iret hx hb hr (fun t ht hW => ⟨⟨_, (s1, w1, bump fnd (-1000000004)), rfl, (by exact ⟨(if_pos c_1).symm, o1⟩), by dsimp only; rw [ht]; exact hP⟩, hS.F ht⟩) hS.2.2 dX5_undo_13

set_option maxRecDepth 100000 in
set_option maxHeartbeats 4000000 in
theorem k_X5_tear (l : Launch) (D : va_G) (cI cL cS : ClassId) (b : Nat → Nat → Nat) (s1 : Sg) (w1 m1 n1 : FI) (s2 : Sg) (w2 m2 n2 : FI) (s3 : Sg) (w3 m3 n3 : FI) (ik : Int32) (bt : FI) (ln tk sb en nm : Int32) (bits size : FI) (num : Nat → FJ) (fnd : FI) (dj : va_D (fun _ => True) (djk b))  : Met l yX5_tear wsX5_tear { frames := 0, cells := 0, slots := 0, locals := 0 } (PcR D vwCl (tyG cI cL cS) [.ref (b 0 0)] (kcw cI cL cS b s1 w1 m1 n1 s2 w2 m2 n2 s3 w3 m3 n3 ik bt ln tk sb en nm bits size num fnd)) (va_Qi (fun (r : Int32) (u : Int32) => r = (if ik = 0 then 0 else 1 : Int32) ∧ u = 0) (fun u t => va_P D vwCl (kcw cI cL cS b s1 w1 m1 n1 s2 w2 m2 n2 s3 w3 m3 n3 u bt ln tk sb en nm bits size num fnd) t.heap) (Aof (kcw cI cL cS b s1 w1 m1 n1 s2 w2 m2 n2 s3 w3 m3 n3 ik bt ln tk sb en nm bits size num fnd))) 0 0 (Aof (kcw cI cL cS b s1 w1 m1 n1 s2 w2 m2 n2 s3 w3 m3 n3 ik bt ln tk sb en nm bits size num fnd)) := by
  refine Met.ofW (cc := cX5_tear) (maxL := 2) (ret := (some .int)) (by decide) rfl ?_
  intro p e s m args below meth c s₁ B hml hv
  obtain ⟨rfl, hP, hK⟩ := hv
  have hx := B.exec
  have hb := B.bytes
  have hr := B.returns
  have hts := atoms_spec (ws := wsX5_tear) B.pre
  have hown : s.vm.findClass RX5 = some m.cls := findClass_of_methodNamed B.named
  have hlocks := B.notSynchronized
  obtain ⟨A, hAe⟩ : ∃ A, A = Aof (kcw cI cL cS b s1 w1 m1 n1 s2 w2 m2 n2 s3 w3 m3 n3 ik bt ln tk sb en nm bits size num fnd) := ⟨_, rfl⟩
  rw [← hAe]
  have hD : ∀ ws' : va_W, ws'.map Prod.fst = (kcw cI cL cS b s1 w1 m1 n1 s2 w2 m2 n2 s3 w3 m3 n3 ik bt ln tk sb en nm bits size num fnd).map Prod.fst → va_D A ws' := fun ws' e => by rw [hAe]; exact va_D_adr (va_D_self (va_D_adr dj rfl)) e
  have hS : va_S A s.heap s.heap [] := va_S.rf
  have hP : va_P D vwCl (kcw cI cL cS b s1 w1 m1 n1 s2 w2 m2 n2 s3 w3 m3 n3 ik bt ln tk sb en nm bits size num fnd) s.heap := hP
  have hl := lv_entry ([.ref (b 0 0)]) (n := 2) (Nat.le_of_ble_eq_true rfl)
  rw [lg_entry_eq]
  generalize (lg_sl ([.ref (b 0 0)]) ++ List.replicate (2 - (lg_sl ([.ref (b 0 0)])).length) Slot.unset).toArray = ls at hl ⊢
  have hl : lv_has ls 2 [(0, .ref (b 0 0))] := hl
  have f22 := hts (.fieldLink RX5 22 "KnivesLaid" "isKept" "Z") (List.mem_of_getElem? (i := 1) rfl)
  have inX5 : ∀ w ∈ u_ws RX5 TX5 7, w ∈ wsX5_tear := in_at 2 _ _ rfl
  skip
  refine lv_aload_n hx hb dX5_tear_0 rfl (lv_at hl 0 rfl) ?_
  refine va_get (ci := 3) (v := .int ik) (C := RX5) (T := TX5) (N := 7) hx hb hts inX5 hown hK hP 0 rfl rfl 3 (by decide) f22 (fun _ h9 => h9) rfl dX5_tear_1 ?_
  refine jn (fun v_1 : Int32 => v_1 = (if ik = 0 then 0 else 1 : Int32)) (fun v_1 => F0 m 12 ls [.int v_1]) (fun Jv_1 => ?_) (fun v_1 ev_1 => ?_)
  · skip
    refine lv_if_eq (tgt := 11) hx hb dX5_tear_4 (by decide) (fun c_2 => ?_) (fun c_2 => ?_)
    · skip
      refine lv_iconst (v := 0) hx hb dX5_tear_11 (by decide) ?_
      exact Jv_1 _ (by rw [if_pos c_2])
    · skip
      refine lv_iconst (v := 1) hx hb dX5_tear_7 (by decide) ?_
      refine lv_goto (tgt := 12) hx hb dX5_tear_8 (by decide) ?_
      exact Jv_1 _ (by rw [if_neg c_2])
  subst ev_1
  refine lv_istore_n (lv' := [(1, .int (if ik = 0 then 0 else 1 : Int32)), (0, .ref (b 0 0))]) hx hb dX5_tear_12 rfl hl (by decide) rfl (fun ls hl => ?_)
  refine lv_aload_n hx hb dX5_tear_13 rfl (lv_at hl 1 rfl) ?_
  refine lv_iconst (v := 0) hx hb dX5_tear_14 (by decide) ?_
  refine va_put (ci := 3) (v := .int 0) (ty := .boolean) (C := RX5) (T := TX5) (N := 7) hx hb hts inX5 tyX5 tyX5_ok nmX5 hown hK hP (hD _ rfl) hS 0 rfl rfl 3 (by decide) f22 (fun _ h9 => h9) rfl rfl rfl rfl (Nat.le_of_ble_eq_true rfl) dX5_tear_15 (fun H locs hP _ hS => ?_)
  have hP : va_P D vwCl (kcw cI cL cS b s1 w1 m1 n1 s2 w2 m2 n2 s3 w3 m3 n3 0 bt ln tk sb en nm bits size num fnd) H := hP
  refine lv_iload_n hx hb dX5_tear_18 rfl (lv_at hl 0 rfl) ?_
  exact W.iret hx hb hr (fun t ht hW => ⟨⟨_, (0), rfl, (by exact ⟨rfl, rfl⟩), by dsimp only; rw [ht]; exact hP⟩, hS.F ht⟩) hS.2.2 dX5_tear_19
