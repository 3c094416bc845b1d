set_option maxRecDepth 100000 in
set_option maxHeartbeats 4000000 in
theorem k_X4_empty (l : Launch) (D : va_G) (cI cL cS : ClassId) (a q : Nat) (bt : FI) (ln tk sb en nm : Int32) (dj : va_D (fun _ => True) [(a, .inr (0, [])), (q, .inr (0, []))])  : Met l yX4_empty wsX4_empty { frames := 0, cells := 0, slots := 0, locals := 0 } (PcR D vwCl (tyG cI cL cS) [.ref a] (tpw cI a q bt ln tk sb en nm)) (va_Qi (fun (r : Int32) (u : Unit) => r = ln ∧ (True)) (fun u t => va_P D vwCl (tpw cI a q bt 0 tk sb en nm) t.heap) (Aof (tpw cI a q bt ln tk sb en nm))) 0 0 (Aof (tpw cI a q bt ln tk sb en nm)) := by
  refine Met.ofW (cc := cX4_empty) (maxL := 2) (ret := (some .int)) (by decide) rfl ?_
  intro p e s m args below meth c s₁ B hml hv
  obtain ⟨rfl, hP, hK⟩ := hv
  have hx := B.exec
  have hb := B.bytes
  have hr := B.returns
  have hts := atoms_spec (ws := wsX4_empty) B.pre
  have hown : s.vm.findClass RX4 = some m.cls := findClass_of_methodNamed B.named
  have hlocks := B.notSynchronized
  obtain ⟨A, hAe⟩ : ∃ A, A = Aof (tpw cI a q bt ln tk sb en nm) := ⟨_, rfl⟩
  rw [← hAe]
  have hD : ∀ ws' : va_W, ws'.map Prod.fst = (tpw cI a q bt ln tk sb en nm).map Prod.fst → va_D A ws' := fun ws' e => by rw [hAe]; exact va_D_adr (va_D_self (va_D_adr dj rfl)) e
  have hS : va_S A s.heap s.heap [] := va_S.rf
  have hP : va_P D vwCl (tpw cI a q bt ln tk sb en nm) s.heap := hP
  have hl := lv_entry ([.ref a]) (n := 2) (Nat.le_of_ble_eq_true rfl)
  rw [lg_entry_eq]
  generalize (lg_sl ([.ref a]) ++ List.replicate (2 - (lg_sl ([.ref a])).length) Slot.unset).toArray = ls at hl ⊢
  have hl : lv_has ls 2 [(0, .ref a)] := hl
  have f15 := hts (.fieldLink RX4 15 "KnivesLaid$Tape" "length" "I") (List.mem_of_getElem? (i := 1) rfl)
  have inX4 : ∀ w ∈ u_ws RX4 TX4 6, w ∈ wsX4_empty := in_at 2 _ _ rfl
  skip
  refine lv_aload_n hx hb dX4_empty_0 rfl (lv_at hl 0 rfl) ?_
  refine va_get (ci := 2) (v := .int ln) (C := RX4) (T := TX4) (N := 6) hx hb hts inX4 hown hK hP 0 rfl rfl 1 (by decide) f15 (fun _ h9 => h9) rfl dX4_empty_1 ?_
  refine lv_istore_n (lv' := [(1, .int ln), (0, .ref a)]) hx hb dX4_empty_4 rfl hl (by decide) rfl (fun ls hl => ?_)
  refine lv_aload_n hx hb dX4_empty_5 rfl (lv_at hl 1 rfl) ?_
  refine lv_iconst (v := 0) hx hb dX4_empty_6 (by decide) ?_
  refine va_put (ci := 2) (v := .int 0) (ty := .int) (C := RX4) (T := TX4) (N := 6) hx hb hts inX4 tyX4 tyX4_ok nmX4 hown hK hP (hD _ rfl) hS 0 rfl rfl 1 (by decide) f15 (fun _ h9 => h9) rfl rfl rfl rfl (Nat.le_of_ble_eq_true rfl) dX4_empty_7 (fun H locs hP _ hS => ?_)
  have hP : va_P D vwCl (tpw cI a q bt 0 tk sb en nm) H := hP
  refine lv_iload_n hx hb dX4_empty_10 rfl (lv_at hl 0 rfl) ?_
  exact W.iret hx hb hr (fun t ht hW => ⟨⟨_, (), rfl, (by exact ⟨rfl, trivial⟩), by dsimp only; rw [ht]; exact hP⟩, hS.F ht⟩) hS.2.2 dX4_empty_11

set_option maxRecDepth 100000 in
set_option maxHeartbeats 4000000 in
theorem k_X4_append (l : Launch) (D : va_G) (cI cL cS : ClassId) (a q : Nat) (bt : FI) (ln tk sb en nm : Int32) (x0 : Int32) (dj : va_D (fun _ => True) [(a, .inr (0, [])), (q, .inr (0, []))]) (h0 : vp_in ln 120) : Met l yX4_append wsX4_append { frames := 0, cells := 0, slots := 0, locals := 0 } (PcR D vwCl (tyG cI cL cS) [.ref a, .int x0] (tpw cI a q bt ln tk sb en nm)) (va_Qv (fun (u : Unit) => True) (fun u t => va_P D vwCl (tpw cI a q (upd bt (ix ln) x0) (ln + 1) tk sb en nm) t.heap) (Aof (tpw cI a q bt ln tk sb en nm))) 0 0 (Aof (tpw cI a q bt ln tk sb en nm)) := by
  refine Met.ofW (cc := cX4_append) (maxL := 2) (ret := none) (by decide) rfl ?_
  intro p e s m args below meth c s₁ B hml hv
  obtain ⟨rfl, hP, hK⟩ := hv
  have hx := B.exec
  have hb := B.bytes
  have hr := B.returns
  have hts := atoms_spec (ws := wsX4_append) B.pre
  have hown : s.vm.findClass RX4 = some m.cls := findClass_of_methodNamed B.named
  have hlocks := B.notSynchronized
  obtain ⟨A, hAe⟩ : ∃ A, A = Aof (tpw cI a q bt ln tk sb en nm) := ⟨_, rfl⟩
  rw [← hAe]
  have hD : ∀ ws' : va_W, ws'.map Prod.fst = (tpw cI a q bt ln tk sb en nm).map Prod.fst → va_D A ws' := fun ws' e => by rw [hAe]; exact va_D_adr (va_D_self (va_D_adr dj rfl)) e
  have hS : va_S A s.heap s.heap [] := va_S.rf
  have hP : va_P D vwCl (tpw cI a q bt ln tk sb en nm) s.heap := hP
  have hl := lv_entry ([.ref a, .int x0]) (n := 2) (Nat.le_of_ble_eq_true rfl)
  rw [lg_entry_eq]
  generalize (lg_sl ([.ref a, .int x0]) ++ List.replicate (2 - (lg_sl ([.ref a, .int x0])).length) Slot.unset).toArray = ls at hl ⊢
  have hl : lv_has ls 2 [(0, .ref a), (1, .int x0)] := hl
  have f15 := hts (.fieldLink RX4 15 "KnivesLaid$Tape" "length" "I") (List.mem_of_getElem? (i := 1) rfl)
  have inX4 : ∀ w ∈ u_ws RX4 TX4 6, w ∈ wsX4_append := in_at 3 _ _ rfl
  have f9 := hts (.fieldLink RX4 9 "KnivesLaid$Tape" "bytes" "[I") (List.mem_of_getElem? (i := 2) rfl)
  skip
  refine lv_aload_n hx hb dX4_append_0 rfl (lv_at hl 0 rfl) ?_
  refine va_get (ci := 2) (v := .int ln) (C := RX4) (T := TX4) (N := 6) hx hb hts inX4 hown hK hP 0 rfl rfl 1 (by decide) f15 (fun _ h9 => h9) rfl dX4_append_1 ?_
  refine lv_bipush (v := 120) hx hb dX4_append_4 (by decide) ?_
  refine lv_icmp_ge (tgt := 29) hx hb dX4_append_6 (by decide) (fun c_1 => ?_) (fun c_1 => ?_)
  · skip
    exact absurd c_1 ((in_iff (by decide)).mp h0).2
  · skip
    refine lv_aload_n hx hb dX4_append_9 rfl (lv_at hl 0 rfl) ?_
    refine va_get (ci := 2) (v := .ref q) (C := RX4) (T := TX4) (N := 6) hx hb hts inX4 hown hK hP 0 rfl rfl 0 (by decide) f9 (fun _ h9 => h9) rfl dX4_append_10 ?_
    refine lv_aload_n hx hb dX4_append_13 rfl (lv_at hl 0 rfl) ?_
    refine va_get (ci := 2) (v := .int ln) (C := RX4) (T := TX4) (N := 6) hx hb hts inX4 hown hK hP 0 rfl rfl 1 (by decide) f15 (fun _ h9 => h9) rfl dX4_append_14 ?_
    refine lv_iload_n hx hb dX4_append_17 rfl (lv_at hl 1 rfl) ?_
    refine va_iast hx hb hK hP (hD _ rfl) hS 1 0 rfl rfl h0 dX4_append_18 (fun H locs hP _ hS => ?_)
    have hP : va_P D vwCl (tpw cI a q (upd bt (ix ln) x0) ln tk sb en nm) H := hP
    refine lv_aload_n hx hb dX4_append_19 rfl (lv_at hl 0 rfl) ?_
    refine lv_dup hx hb dX4_append_20 rfl ?_
    refine va_get (ci := 2) (v := .int ln) (C := RX4) (T := TX4) (N := 6) hx hb hts inX4 hown hK hP 0 rfl rfl 1 (by decide) f15 (fun _ h9 => h9) rfl dX4_append_21 ?_
    refine lv_iconst (v := 1) hx hb dX4_append_24 (by decide) ?_
    refine lv_iadd hx hb dX4_append_25 ?_
    refine va_put (ci := 2) (v := .int (ln + 1)) (ty := .int) (C := RX4) (T := TX4) (N := 6) hx hb hts inX4 tyX4 tyX4_ok nmX4 hown hK hP (hD _ rfl) hS 0 rfl rfl 1 (by decide) f15 (fun _ h9 => h9) rfl rfl rfl rfl (Nat.le_of_ble_eq_true rfl) dX4_append_26 (fun H locs hP _ hS => ?_)
    have hP : va_P D vwCl (tpw cI a q (upd bt (ix ln) x0) (ln + 1) tk sb en nm) H := hP
    exact W.vret hx hb hr (fun t ht hW => ⟨⟨(), rfl, (by trivial), by dsimp only; rw [ht]; exact hP⟩, hS.F ht⟩) hS.2.2 dX4_append_29

set_option maxRecDepth 100000 in
set_option maxHeartbeats 4000000 in
theorem k_X5_wipe (l : Launch) (D : va_G) (cI cL cS : ClassId) (b : Nat → Nat → Nat) (s1 : Sg) (w1 m1 n1 : FI) (s2 : Sg) (w2 m2 n2 : FI) (s3 : Sg) (w3 m3 n3 : FI) (ik : Int32) (bt : FI) (ln tk sb en nm : Int32) (bits size : FI) (num : Nat → FJ) (fnd : FI) (dj : va_D (fun _ => True) (djk b))  : Met l yX5_wipe wsX5_wipe { frames := 1, cells := 0, slots := 0, locals := 21 } (PcR D vwCl (tyG cI cL cS) [.ref (b 0 0)] (kcw cI cL cS b s1 w1 m1 n1 s2 w2 m2 n2 s3 w3 m3 n3 ik bt ln tk sb en nm bits size num fnd)) (va_Qi (fun (r : Int32) (u : Int32) => r = ln ∧ u = 0) (fun u t => va_P D vwCl (kcw cI cL cS b s1 w1 m1 n1 s2 w2 m2 n2 s3 w3 m3 n3 ik bt u tk sb en nm bits size num fnd) t.heap) (Aof (kcw cI cL cS b s1 w1 m1 n1 s2 w2 m2 n2 s3 w3 m3 n3 ik bt ln tk sb en nm bits size num fnd))) 0 0 (Aof (kcw cI cL cS b s1 w1 m1 n1 s2 w2 m2 n2 s3 w3 m3 n3 ik bt ln tk sb en nm bits size num fnd)) := by
  refine Met.ofW (cc := cX5_wipe) (maxL := 1) (ret := (some .int)) (by decide) rfl ?_
  intro p e s m args below meth c s₁ B hml hv
  obtain ⟨rfl, hP, hK⟩ := hv
  have hx := B.exec
  have hb := B.bytes
  have hr := B.returns
  have hts := atoms_spec (ws := wsX5_wipe) B.pre
  have hown : s.vm.findClass RX5 = some m.cls := findClass_of_methodNamed B.named
  have hlocks := B.notSynchronized
  obtain ⟨A, hAe⟩ : ∃ A, A = Aof (kcw cI cL cS b s1 w1 m1 n1 s2 w2 m2 n2 s3 w3 m3 n3 ik bt ln tk sb en nm bits size num fnd) := ⟨_, rfl⟩
  rw [← hAe]
  have hD : ∀ ws' : va_W, ws'.map Prod.fst = (kcw cI cL cS b s1 w1 m1 n1 s2 w2 m2 n2 s3 w3 m3 n3 ik bt ln tk sb en nm bits size num fnd).map Prod.fst → va_D A ws' := fun ws' e => by rw [hAe]; exact va_D_adr (va_D_self (va_D_adr dj rfl)) e
  have hS : va_S A s.heap s.heap [] := va_S.rf
  have hP : va_P D vwCl (kcw cI cL cS b s1 w1 m1 n1 s2 w2 m2 n2 s3 w3 m3 n3 ik bt ln tk sb en nm bits size num fnd) s.heap := hP
  have hl := lv_entry ([.ref (b 0 0)]) (n := 1) (Nat.le_of_ble_eq_true rfl)
  rw [lg_entry_eq]
  generalize (lg_sl ([.ref (b 0 0)]) ++ List.replicate (1 - (lg_sl ([.ref (b 0 0)])).length) Slot.unset).toArray = ls at hl ⊢
  have hl : lv_has ls 1 [(0, .ref (b 0 0))] := hl
  have f29 := hts (.fieldLink RX5 29 "KnivesLaid" "tape" "LKnivesLaid$Tape;") (List.mem_of_getElem? (i := 1) rfl)
  have inX5 : ∀ w ∈ u_ws RX5 TX5 7, w ∈ wsX5_wipe := in_at 8 _ _ rfl
  skip
  refine lv_aload_n hx hb dX5_wipe_0 rfl (lv_at hl 0 rfl) ?_
  refine va_get (ci := 3) (v := .ref (b 4 0)) (C := RX5) (T := TX5) (N := 7) hx hb hts inX5 hown hK hP 0 rfl rfl 4 (by decide) f29 (fun _ h9 => h9) rfl dX5_wipe_1 ?_
  refine callMi (va_runV (As := []) (rest := []) ⟨hx, hb, hml, hown, hts⟩ (k_X4_empty l D cI cL cS (b 4 0) (b 4 1) bt ln tk sb en nm (va_DT (va_segD (hD (kcw cI cL cS b s1 w1 m1 n1 s2 w2 m2 n2 s3 w3 m3 n3 ik bt ln tk sb en nm bits size num fnd) rfl) 37 2 rfl) rfl)) (cwV 0 hts gX5_wipe_X4_empty rfl rfl rfl (by decide +kernel) ⟨Nat.le_of_ble_eq_true rfl, Nat.le_of_ble_eq_true rfl⟩) ⟨PcR_fb, va_recv hK hP (ci := 2) (q0 := 37) rfl rfl, PcR_pre (va_seg hP 37 2 rfl) hK⟩ rfl rfl hl.1 rfl (lv_room (Nat.le_of_ble_eq_true rfl)) dX5_wipe_4 ⟨Nat.zero_le _, Nat.zero_le _⟩) hP (hD _ rfl) hS 37 2 rfl (fun r_2 u_1 H locs hu_1 hP hS => ?_)
  obtain ⟨hu_1r, hu_1⟩ := hu_1
  subst hu_1r
  have hP : va_P D vwCl (kcw cI cL cS b s1 w1 m1 n1 s2 w2 m2 n2 s3 w3 m3 n3 ik bt 0 tk sb en nm bits size num fnd) H := hP
  exact W.iret hx hb hr (fun t ht hW => ⟨⟨_, (0), rfl, (by exact ⟨rfl, rfl⟩), by dsimp only; rw [ht]; exact hP⟩, hS.F ht⟩) hS.2.2 dX5_wipe_7

set_option maxRecDepth 100000 in
set_option maxHeartbeats 4000000 in
theorem k_X5_feed (l : Launch) (D : va_G) (cI cL cS : ClassId) (b : Nat → Nat → Nat) (s1 : Sg) (w1 m1 n1 : FI) (s2 : Sg) (w2 m2 n2 : FI) (s3 : Sg) (w3 m3 n3 : FI) (ik : Int32) (bt : FI) (ln tk sb en nm : Int32) (bits size : FI) (num : Nat → FJ) (fnd : FI) (x0 : Int32) (x1 : Int32) (dj : va_D (fun _ => True) (djk b)) (ol : vp_in ln 121) : Met l yX5_feed wsX5_feed { frames := 1, cells := 0, slots := 0, locals := 22 } (PcR D vwCl (tyG cI cL cS) [.ref (b 0 0), .int x0, .int x1] (kcw cI cL cS b s1 w1 m1 n1 s2 w2 m2 n2 s3 w3 m3 n3 ik bt ln tk sb en nm bits size num fnd)) (va_Qi (fun (r : Int32) (u : FI × Int32 × FI) => (r, u.1, u.2.1, u.2.2) = sFeed bt ln fnd x0 x1 ∧ vp_in u.2.1 121) (fun u t => va_P D vwCl (kcw cI cL cS b s1 w1 m1 n1 s2 w2 m2 n2 s3 w3 m3 n3 ik u.1 u.2.1 tk sb en nm bits size num u.2.2) t.heap) (Aof (kcw cI cL cS b s1 w1 m1 n1 s2 w2 m2 n2 s3 w3 m3 n3 ik bt ln tk sb en nm bits size num fnd))) 0 0 (Aof (kcw cI cL cS b s1 w1 m1 n1 s2 w2 m2 n2 s3 w3 m3 n3 ik bt ln tk sb en nm bits size num fnd)) := by
  refine Met.ofW (cc := cX5_feed) (maxL := 4) (ret := (some .int)) (by decide) rfl ?_
  intro p e s m args below meth c s₁ B hml hv
  obtain ⟨rfl, hP, hK⟩ := hv
  have hx := B.exec
  have hb := B.bytes
  have hr := B.returns
  have hts := atoms_spec (ws := wsX5_feed) B.pre
  have hown : s.vm.findClass RX5 = some m.cls := findClass_of_methodNamed B.named
  have hlocks := B.notSynchronized
  obtain ⟨A, hAe⟩ : ∃ A, A = Aof (kcw cI cL cS b s1 w1 m1 n1 s2 w2 m2 n2 s3 w3 m3 n3 ik bt ln tk sb en nm bits size num fnd) := ⟨_, rfl⟩
  rw [← hAe]
  have hD : ∀ ws' : va_W, ws'.map Prod.fst = (kcw cI cL cS b s1 w1 m1 n1 s2 w2 m2 n2 s3 w3 m3 n3 ik bt ln tk sb en nm bits size num fnd).map Prod.fst → va_D A ws' := fun ws' e => by rw [hAe]; exact va_D_adr (va_D_self (va_D_adr dj rfl)) e
  have hS : va_S A s.heap s.heap [] := va_S.rf
  have hP : va_P D vwCl (kcw cI cL cS b s1 w1 m1 n1 s2 w2 m2 n2 s3 w3 m3 n3 ik bt ln tk sb en nm bits size num fnd) s.heap := hP
  have hl := lv_entry ([.ref (b 0 0), .int x0, .int x1]) (n := 4) (Nat.le_of_ble_eq_true rfl)
  rw [lg_entry_eq]
  generalize (lg_sl ([.ref (b 0 0), .int x0, .int x1]) ++ List.replicate (4 - (lg_sl ([.ref (b 0 0), .int x0, .int x1])).length) Slot.unset).toArray = ls at hl ⊢
  have hl : lv_has ls 4 [(0, .ref (b 0 0)), (1, .int x0), (2, .int x1)] := hl
  have f29 := hts (.fieldLink RX5 29 "KnivesLaid" "tape" "LKnivesLaid$Tape;") (List.mem_of_getElem? (i := 2) rfl)
  have inX5 : ∀ w ∈ u_ws RX5 TX5 7, w ∈ wsX5_feed := in_at 21 _ _ rfl
  have f167 := hts (.fieldLink RX5 167 "KnivesLaid$Tape" "length" "I") (List.mem_of_getElem? (i := 3) rfl)
  have inX4 : ∀ w ∈ u_ws RX4 TX4 6, w ∈ wsX5_feed := in_at 28 _ _ rfl
  have k92 := hts (.constant RX5 92 (-1000000002)) (List.mem_of_getElem? (i := 4) rfl)
  have k52 := hts (.constant RX5 52 (-1000000001)) (List.mem_of_getElem? (i := 1) rfl)
  skip
  refine lv_iload_n hx hb dX5_feed_0 rfl (lv_at hl 2 rfl) ?_
  refine lv_iconst (v := 1) hx hb dX5_feed_1 (by decide) ?_
  refine lv_iconst (v := 4) hx hb dX5_feed_2 (by decide) ?_
  refine callE (W.runS (As := [.int x1, .int 1, .int 4]) (rest := []) ⟨hx, hb, hml, hown, hts⟩ (k_X5_within l x1 1 4) (va_cwS 3 hts gX5_feed_X5_within rfl rfl rfl (by decide +kernel) ⟨Nat.le_of_ble_eq_true rfl, Nat.le_of_ble_eq_true rfl⟩) ⟨PcP_fb, fun U _ _ => ⟨rfl, trivial⟩⟩ rfl rfl hl.1 rfl (lv_room (Nat.le_of_ble_eq_true rfl)) dX5_feed_3 ⟨Nat.zero_le _, Nat.zero_le _⟩) ?_
  refine lv_if_ne (tgt := 16) hx hb dX5_feed_6 (by decide) (fun c_1 => ?_) (fun c_1 => ?_)
  · skip
    have c_1b := bI_n c_1
    have hn := c_1b
    have hfn := feed_n hn
    refine lv_aload_n hx hb dX5_feed_16 rfl (lv_at hl 0 rfl) ?_
    refine va_get (ci := 3) (v := .ref (b 4 0)) (C := RX5) (T := TX5) (N := 7) hx hb hts inX5 hown hK hP 0 rfl rfl 4 (by decide) f29 (fun _ h9 => h9) rfl dX5_feed_17 ?_
    refine va_get (ci := 2) (v := .int ln) (C := RX4) (T := TX4) (N := 6) hx hb hts inX4 hown hK hP 37 rfl rfl 1 (by decide) f167 (fun _ h9 => h9) rfl dX5_feed_20 ?_
    refine lv_iload_n hx hb dX5_feed_23 rfl (lv_at hl 2 rfl) ?_
    refine lv_iadd hx hb dX5_feed_24 ?_
    refine lv_bipush (v := 120) hx hb dX5_feed_25 (by decide) ?_
    refine lv_icmp_le (tgt := 37) hx hb dX5_feed_27 (by decide) (fun c_2 => ?_) (fun c_2 => ?_)
    · skip
      have hle := feed_le ol hfn c_2
      have hcl := c_2
      refine lv_iload_n hx hb dX5_feed_37 rfl (lv_at hl 2 rfl) ?_
      refine lv_iconst (v := 1) hx hb dX5_feed_38 (by decide) ?_
      refine lv_isub hx hb dX5_feed_39 ?_
      refine lv_to (y := x1 - 1) rfl ?_
      refine lv_istore_n (lv' := [(3, .int (x1 - 1)), (0, .ref (b 0 0)), (1, .int x0), (2, .int x1)]) hx hb dX5_feed_40 rfl hl (by decide) rfl (fun ls hl => ?_)
      refine lpW (fun n (u : Nat × Int32 × FI × Int32) H locs ls => (n = u.1 ∧ u.1 ≤ 4) ∧ (u.2.1 + 1 = nI u.1) ∧ (sFd x0 (ix x1) bt ln = sFd x0 u.1 u.2.2.1 u.2.2.2) ∧ (vp_in u.2.2.2 121) ∧ (ix u.2.2.2 + u.1 ≤ 120) ∧ va_P D vwCl (kcw cI cL cS b s1 w1 m1 n1 s2 w2 m2 n2 s3 w3 m3 n3 ik u.2.2.1 u.2.2.2 tk sb en nm bits size num fnd) H ∧ va_S A s.heap H locs ∧ lv_has ls 4 [(0, .ref (b 0 0)), (1, .int x0), (2, .int x1), (3, .int u.2.1)]) (ix x1) (((ix x1), (x1 - 1), bt, ln)) ⟨⟨rfl, hfn.2⟩, (sub1_p1 x1).trans hfn.1, rfl, ol, hle, hP, hS, lv_sub hl [1, 2, 3, 0] rfl⟩ (fun n ih u H locs ls hI => ?_)
      obtain ⟨i, yy, bt9, ln9⟩ := u
      obtain ⟨hi0, hi1, hi2, hi3, hi4, hP, hS, hl⟩ := hI
      have hi0 : n = i ∧ i ≤ 4 := hi0
      have hi1 : yy + 1 = nI i := hi1
      have hi2 : sFd x0 (ix x1) bt ln = sFd x0 i bt9 ln9 := hi2
      have hi3 : vp_in ln9 121 := hi3
      have hi4 : ix ln9 + i ≤ 120 := hi4
      have hl : lv_has ls 4 [(0, .ref (b 0 0)), (1, .int x0), (2, .int x1), (3, .int yy)] := hl
      have hP : va_P D vwCl (kcw cI cL cS b s1 w1 m1 n1 s2 w2 m2 n2 s3 w3 m3 n3 ik bt9 ln9 tk sb en nm bits size num fnd) H := hP
      refine lv_iload_n hx hb dX5_feed_41 rfl (lv_at hl 3 rfl) ?_
      refine lv_if_lt (tgt := 68) hx hb dX5_feed_42 (by decide) (fun c_3 => ?_) (fun c_3 => ?_)
      · skip
        have hz := dn_0 hi1 (by omega) c_3
        refine lv_aload_n hx hb dX5_feed_68 rfl (lv_at hl 0 rfl) ?_
        refine va_get (ci := 3) (v := .ref (b 4 0)) (C := RX5) (T := TX5) (N := 7) hx hb hts inX5 hown hK hP 0 rfl rfl 4 (by decide) f29 (fun _ h9 => h9) rfl dX5_feed_69 ?_
        refine va_get (ci := 2) (v := .int ln9) (C := RX4) (T := TX4) (N := 6) hx hb hts inX4 hown hK hP 37 rfl rfl 1 (by decide) f167 (fun _ h9 => h9) rfl dX5_feed_72 ?_
        exact W.iret hx hb hr (fun t ht hW => ⟨⟨_, (bt9, ln9, fnd), rfl, (by exact ⟨((iF_t hn).trans ((iF_f (Int32.not_lt.mpr hcl)).trans (by rw [hi2, hz]; rfl))).symm, hi3⟩), by dsimp only; rw [ht]; exact hP⟩, hS.F ht⟩) hS.2.2 dX5_feed_75
      · skip
        obtain ⟨k, hk, hh⟩ := dn_s hi1 (by omega) c_3
        have hl0 : vp_in ln9 120 := ln_in hi3 (by omega)
        refine lv_aload_n hx hb dX5_feed_45 rfl (lv_at hl 0 rfl) ?_
        refine va_get (ci := 3) (v := .ref (b 4 0)) (C := RX5) (T := TX5) (N := 7) hx hb hts inX5 hown hK hP 0 rfl rfl 4 (by decide) f29 (fun _ h9 => h9) rfl dX5_feed_46 ?_
        refine lv_iload_n hx hb dX5_feed_49 rfl (lv_at hl 1 rfl) ?_
        refine lv_bipush (v := 8) hx hb dX5_feed_50 (by decide) ?_
        refine lv_iload_n hx hb dX5_feed_52 rfl (lv_at hl 3 rfl) ?_
        refine lv_imul hx hb dX5_feed_53 ?_
        refine lv_ishr hx hb dX5_feed_54 ?_
        refine lv_sipush (v := 255) hx hb dX5_feed_55 (by decide) ?_
        refine lv_iand hx hb dX5_feed_58 ?_
        refine callMv (va_runV (As := [.int ((x0 >>> ((8 * yy) &&& 31)) &&& 255)]) (rest := []) ⟨hx, hb, hml, hown, hts⟩ (k_X4_append l D cI cL cS (b 4 0) (b 4 1) bt9 ln9 tk sb en nm ((x0 >>> ((8 * yy) &&& 31)) &&& 255) (va_DT (va_segD (hD (kcw cI cL cS b s1 w1 m1 n1 s2 w2 m2 n2 s3 w3 m3 n3 ik bt9 ln9 tk sb en nm bits size num fnd) rfl) 37 2 rfl) rfl) hl0) (cwV 1 hts gX5_feed_X4_append rfl rfl rfl (by decide +kernel) ⟨Nat.le_of_ble_eq_true rfl, Nat.le_of_ble_eq_true rfl⟩) ⟨PcR_fb, va_recv hK hP (ci := 2) (q0 := 37) rfl rfl, PcR_pre (va_seg hP 37 2 rfl) hK⟩ rfl rfl hl.1 rfl (lv_room (Nat.le_of_ble_eq_true rfl)) dX5_feed_59 ⟨Nat.zero_le _, Nat.zero_le _⟩) hP (hD _ rfl) hS 37 2 rfl (fun u_4 H locs hu_4 hP hS => ?_)
        have hP : va_P D vwCl (kcw cI cL cS b s1 w1 m1 n1 s2 w2 m2 n2 s3 w3 m3 n3 ik (upd bt9 (ix ln9) ((x0 >>> ((8 * yy) &&& 31)) &&& 255)) (ln9 + 1) tk sb en nm bits size num fnd) H := hP
        refine lv_iinc (v := yy + (-1)) (lv' := [(3, .int (yy + (-1))), (0, .ref (b 0 0)), (1, .int x0), (2, .int x1)]) hx hb dX5_feed_62 hl (k := 3) rfl rfl (by decide) rfl (fun ls hl => ?_)
        refine lv_goto (tgt := 41) hx hb dX5_feed_65 (by decide) ?_
        exact ih (k) (by omega) ((k, yy + (-1), upd bt9 (ix ln9) ((x0 >>> ((8 * yy) &&& 31)) &&& 255), ln9 + 1)) H locs ls ⟨⟨rfl, by omega⟩, by rw [hh]; exact m1p1 _, by rw [hi2, hk, hh]; rfl, (ln_s hl0).1, by have := (ln_s hl0).2; show ix (ln9 + 1) + k ≤ 120; omega, hP, hS, lv_sub hl [1, 2, 3, 0] rfl⟩
    · skip
      refine lv_aload_n hx hb dX5_feed_30 rfl (lv_at hl 0 rfl) ?_
      refine lv_ldc hx hb hown k92 dX5_feed_31 ?_
      refine callMi (va_runV (As := [.int (-1000000002)]) (rest := []) ⟨hx, hb, hml, hown, hts⟩ (k_X5_found l D cI cL cS b s1 w1 m1 n1 s2 w2 m2 n2 s3 w3 m3 n3 ik bt ln tk sb en nm bits size num fnd (-1000000002) (va_DT (hD _ rfl) rfl) (vp_in_iff.mpr (by decide))) (cwV 1 hts gX5_feed_X5_found rfl rfl rfl (by decide +kernel) ⟨Nat.le_of_ble_eq_true rfl, Nat.le_of_ble_eq_true rfl⟩) ⟨PcR_fb, va_recv hK hP (ci := 3) (q0 := 0) rfl rfl, PcR_pre hP hK⟩ rfl rfl hl.1 rfl (lv_room (Nat.le_of_ble_eq_true rfl)) dX5_feed_33 ⟨Nat.zero_le _, Nat.zero_le _⟩) hP (hD _ rfl) hS 0 49 rfl (fun r_7 u_6 H locs hu_6 hP hS => ?_)
      obtain ⟨hu_6r, -⟩ := hu_6
      subst hu_6r
      have hP : va_P D vwCl (kcw cI cL cS b s1 w1 m1 n1 s2 w2 m2 n2 s3 w3 m3 n3 ik bt ln tk sb en nm bits size num (bump fnd (-1000000002))) H := hP
      exact W.iret hx hb hr (fun t ht hW => ⟨⟨_, (bt, ln, bump fnd (-1000000002)), rfl, (by exact ⟨((iF_t hn).trans (iF_t (Int32.not_le.mp c_2))).symm, ol⟩), by dsimp only; rw [ht]; exact hP⟩, hS.F ht⟩) hS.2.2 dX5_feed_36
  · skip
    have c_1b := bI_0 c_1
    refine lv_aload_n hx hb dX5_feed_9 rfl (lv_at hl 0 rfl) ?_
    refine lv_ldc hx hb hown k52 dX5_feed_10 ?_
    refine callMi (va_runV (As := [.int (-1000000001)]) (rest := []) ⟨hx, hb, hml, hown, hts⟩ (k_X5_found l D cI cL cS b s1 w1 m1 n1 s2 w2 m2 n2 s3 w3 m3 n3 ik bt ln tk sb en nm bits size num fnd (-1000000001) (va_DT (hD _ rfl) rfl) (vp_in_iff.mpr (by decide))) (cwV 1 hts gX5_feed_X5_found rfl rfl rfl (by decide +kernel) ⟨Nat.le_of_ble_eq_true rfl, Nat.le_of_ble_eq_true rfl⟩) ⟨PcR_fb, va_recv hK hP (ci := 3) (q0 := 0) rfl rfl, PcR_pre hP hK⟩ rfl rfl hl.1 rfl (lv_room (Nat.le_of_ble_eq_true rfl)) dX5_feed_12 ⟨Nat.zero_le _, Nat.zero_le _⟩) hP (hD _ rfl) hS 0 49 rfl (fun r_9 u_8 H locs hu_8 hP hS => ?_)
    obtain ⟨hu_8r, -⟩ := hu_8
    subst hu_8r
    have hP : va_P D vwCl (kcw cI cL cS b s1 w1 m1 n1 s2 w2 m2 n2 s3 w3 m3 n3 ik bt ln tk sb en nm bits size num (bump fnd (-1000000001))) H := hP
    exact W.iret hx hb hr (fun t ht hW => ⟨⟨_, (bt, ln, bump fnd (-1000000001)), rfl, (by exact ⟨(iF_f c_1b).symm, ol⟩), by dsimp only; rw [ht]; exact hP⟩, hS.F ht⟩) hS.2.2 dX5_feed_15

set_option maxRecDepth 100000 in
set_option maxHeartbeats 4000000 in
theorem k_X6_feed (l : Launch) (D : va_G) (cI cL cS : ClassId) (b : Nat → Nat) (co gu : Int32) (kn fo sp ki pl ea to qu : FI) (fd : FI) (mo : FI) (tr : FI) (b1 : FI) (tp : FI) (tm : Int32) (so : Int32) (bg : Int32) (te : Int32) (wd : Int64) (va : Int32) (gd : Int32) (bo : FI) (sz : FI) (sh : FJ) (le : FJ) (im : FI) (bf : FI) (ik : Int32) (x0 : Int32) (x1 : Int32) (dj : va_D (fun _ => True) (dj0 b 13)) (ol : vp_in tm 121) : Met l yX6_feed wsX6_feed { frames := 1, cells := 0, slots := 0, locals := 22 } (PcR D vwCl (tyG cI cL cS) [.ref (b 0), .int x0, .int x1] (mdw cI cL b (enc co gu kn fo sp ki pl ea to qu) fd mo tr b1 tp tm so bg te wd va gd bo sz sh le im bf ik)) (va_Qi (fun (r : Int32) (u : FI × Int32 × FI) => (r, u.1, u.2.1, u.2.2) = sFeed tp tm fd x0 x1) (fun u t => va_P D vwCl (mdw cI cL b (enc co gu kn fo sp ki pl ea to qu) u.2.2 mo tr b1 u.1 u.2.1 so bg te wd va gd bo sz sh le im bf ik) t.heap) (Aof (mdw cI cL b (enc co gu kn fo sp ki pl ea to qu) fd mo tr b1 tp tm so bg te wd va gd bo sz sh le im bf ik))) 0 0 (Aof (mdw cI cL b (enc co gu kn fo sp ki pl ea to qu) fd mo tr b1 tp tm so bg te wd va gd bo sz sh le im bf ik)) := by
  refine Met.ofW (cc := cX6_feed) (maxL := 4) (ret := (some .int)) (by decide) rfl ?_
  intro p e s m args below meth c s₁ B hml hv
  obtain ⟨rfl, hP, hK⟩ := hv
  have hx := B.exec
  have hb := B.bytes
  have hr := B.returns
  have hts := atoms_spec (ws := wsX6_feed) B.pre
  have hown : s.vm.findClass RX6 = some m.cls := findClass_of_methodNamed B.named
  have hlocks := B.notSynchronized
  obtain ⟨A, hAe⟩ : ∃ A, A = Aof (mdw cI cL b (enc co gu kn fo sp ki pl ea to qu) fd mo tr b1 tp tm so bg te wd va gd bo sz sh le im bf ik) := ⟨_, rfl⟩
  rw [← hAe]
  have hD : ∀ ws' : va_W, ws'.map Prod.fst = (mdw cI cL b (enc co gu kn fo sp ki pl ea to qu) fd mo tr b1 tp tm so bg te wd va gd bo sz sh le im bf ik).map Prod.fst → va_D A ws' := fun ws' e => by rw [hAe]; exact va_D_adr (va_D_self (va_D_adr dj rfl)) e
  have hS : va_S A s.heap s.heap [] := va_S.rf
  have hP : va_P D vwCl (mdw cI cL b (enc co gu kn fo sp ki pl ea to qu) fd mo tr b1 tp tm so bg te wd va gd bo sz sh le im bf ik) s.heap := hP
  have hl := lv_entry ([.ref (b 0), .int x0, .int x1]) (n := 4) (Nat.le_of_ble_eq_true rfl)
  rw [lg_entry_eq]
  generalize (lg_sl ([.ref (b 0), .int x0, .int x1]) ++ List.replicate (4 - (lg_sl ([.ref (b 0), .int x0, .int x1])).length) Slot.unset).toArray = ls at hl ⊢
  have hl : lv_has ls 4 [(0, .ref (b 0)), (1, .int x0), (2, .int x1)] := hl
  have f160 := hts (.fieldLink RX6 160 "KnivesLaidModel" "tapeMany" "I") (List.mem_of_getElem? (i := 2) rfl)
  have inX6 : ∀ w ∈ u_ws RX6 TX6 20, w ∈ wsX6_feed := in_at 14 _ _ rfl
  have f25 := hts (.fieldLink RX6 25 "KnivesLaidModel" "tape" "[I") (List.mem_of_getElem? (i := 4) rfl)
  have k108 := hts (.constant RX6 108 (-1000000002)) (List.mem_of_getElem? (i := 3) rfl)
  have k47 := hts (.constant RX6 47 (-1000000001)) (List.mem_of_getElem? (i := 1) rfl)
  skip
  refine lv_iload_n hx hb dX6_feed_0 rfl (lv_at hl 2 rfl) ?_
  refine lv_iconst (v := 1) hx hb dX6_feed_1 (by decide) ?_
  refine lv_iconst (v := 4) hx hb dX6_feed_2 (by decide) ?_
  refine callE (W.runS (As := [.int x1, .int 1, .int 4]) (rest := []) ⟨hx, hb, hml, hown, hts⟩ (k_X6_in l x1 1 4) (va_cwS 3 hts gX6_feed_X6_in rfl rfl rfl (by decide +kernel) ⟨Nat.le_of_ble_eq_true rfl, Nat.le_of_ble_eq_true rfl⟩) ⟨PcP_fb, fun U _ _ => ⟨rfl, trivial⟩⟩ rfl rfl hl.1 rfl (lv_room (Nat.le_of_ble_eq_true rfl)) dX6_feed_3 ⟨Nat.zero_le _, Nat.zero_le _⟩) ?_
  refine lv_if_ne (tgt := 16) hx hb dX6_feed_6 (by decide) (fun c_1 => ?_) (fun c_1 => ?_)
  · skip
    have c_1b := bI_n c_1
    have hn := c_1b
    have hfn := feed_n hn
    refine lv_aload_n hx hb dX6_feed_16 rfl (lv_at hl 0 rfl) ?_
    refine va_get (ci := 4) (v := .int tm) (C := RX6) (T := TX6) (N := 20) hx hb hts inX6 hown hK hP 0 rfl rfl 6 (by decide) f160 (fun _ h9 => h9) rfl dX6_feed_17 ?_
    refine lv_iload_n hx hb dX6_feed_20 rfl (lv_at hl 2 rfl) ?_
    refine lv_iadd hx hb dX6_feed_21 ?_
    refine lv_bipush (v := 120) hx hb dX6_feed_22 (by decide) ?_
    refine lv_icmp_le (tgt := 34) hx hb dX6_feed_24 (by decide) (fun c_2 => ?_) (fun c_2 => ?_)
    · skip
      have hle := feed_le ol hfn c_2
      have hcl := c_2
      refine lv_iload_n hx hb dX6_feed_34 rfl (lv_at hl 2 rfl) ?_
      refine lv_iconst (v := 1) hx hb dX6_feed_35 (by decide) ?_
      refine lv_isub hx hb dX6_feed_36 ?_
      refine lv_istore_n (lv' := [(3, .int (x1 - 1)), (0, .ref (b 0)), (1, .int x0), (2, .int x1)]) hx hb dX6_feed_37 rfl hl (by decide) rfl (fun ls hl => ?_)
      refine lpW (fun n (u : Nat × Int32 × FI × Int32) H locs ls => (n = u.1 ∧ u.1 ≤ 4) ∧ (u.2.1 + 1 = nI u.1) ∧ (sFd x0 (ix x1) tp tm = sFd x0 u.1 u.2.2.1 u.2.2.2) ∧ (vp_in u.2.2.2 121) ∧ (ix u.2.2.2 + u.1 ≤ 120) ∧ va_P D vwCl (mdw cI cL b (enc co gu kn fo sp ki pl ea to qu) fd mo tr b1 u.2.2.1 u.2.2.2 so bg te wd va gd bo sz sh le im bf ik) H ∧ va_S A s.heap H locs ∧ lv_has ls 4 [(0, .ref (b 0)), (1, .int x0), (2, .int x1), (3, .int u.2.1)]) (ix x1) (((ix x1), (x1 - 1), tp, tm)) ⟨⟨rfl, hfn.2⟩, (sub1_p1 x1).trans hfn.1, rfl, ol, hle, hP, hS, lv_sub hl [1, 2, 3, 0] rfl⟩ (fun n ih u H locs ls hI => ?_)
      obtain ⟨i, yy, bt9, ln9⟩ := u
      obtain ⟨hi0, hi1, hi2, hi3, hi4, hP, hS, hl⟩ := hI
      have hi0 : n = i ∧ i ≤ 4 := hi0
      have hi1 : yy + 1 = nI i := hi1
      have hi2 : sFd x0 (ix x1) tp tm = sFd x0 i bt9 ln9 := hi2
      have hi3 : vp_in ln9 121 := hi3
      have hi4 : ix ln9 + i ≤ 120 := hi4
      have hl : lv_has ls 4 [(0, .ref (b 0)), (1, .int x0), (2, .int x1), (3, .int yy)] := hl
      have hP : va_P D vwCl (mdw cI cL b (enc co gu kn fo sp ki pl ea to qu) fd mo tr b1 bt9 ln9 so bg te wd va gd bo sz sh le im bf ik) H := hP
      refine lv_iload_n hx hb dX6_feed_38 rfl (lv_at hl 3 rfl) ?_
      refine lv_if_lt (tgt := 77) hx hb dX6_feed_39 (by decide) (fun c_3 => ?_) (fun c_3 => ?_)
      · skip
        have hz := dn_0 hi1 (by omega) c_3
        refine lv_aload_n hx hb dX6_feed_77 rfl (lv_at hl 0 rfl) ?_
        refine va_get (ci := 4) (v := .int ln9) (C := RX6) (T := TX6) (N := 20) hx hb hts inX6 hown hK hP 0 rfl rfl 6 (by decide) f160 (fun _ h9 => h9) rfl dX6_feed_78 ?_
        exact W.iret hx hb hr (fun t ht hW => ⟨⟨_, (bt9, ln9, fd), rfl, (by exact ((iF_t hn).trans ((iF_f (Int32.not_lt.mpr hcl)).trans (by rw [hi2, hz]; rfl))).symm), by dsimp only; rw [ht]; exact hP⟩, hS.F ht⟩) hS.2.2 dX6_feed_81
      · skip
        obtain ⟨k, hk, hh⟩ := dn_s hi1 (by omega) c_3
        have hl0 : vp_in ln9 120 := ln_in hi3 (by omega)
        refine lv_aload_n hx hb dX6_feed_42 rfl (lv_at hl 0 rfl) ?_
        refine va_get (ci := 4) (v := .ref (b 6)) (C := RX6) (T := TX6) (N := 20) hx hb hts inX6 hown hK hP 0 rfl rfl 5 (by decide) f25 (fun _ h9 => h9) rfl dX6_feed_43 ?_
        refine lv_aload_n hx hb dX6_feed_46 rfl (lv_at hl 0 rfl) ?_
        refine va_get (ci := 4) (v := .int ln9) (C := RX6) (T := TX6) (N := 20) hx hb hts inX6 hown hK hP 0 rfl rfl 6 (by decide) f160 (fun _ h9 => h9) rfl dX6_feed_47 ?_
        refine lv_iload_n hx hb dX6_feed_50 rfl (lv_at hl 1 rfl) ?_
        refine lv_bipush (v := 8) hx hb dX6_feed_51 (by decide) ?_
        refine lv_iload_n hx hb dX6_feed_53 rfl (lv_at hl 3 rfl) ?_
        refine lv_imul hx hb dX6_feed_54 ?_
        refine lv_ishr hx hb dX6_feed_55 ?_
        refine lv_sipush (v := 255) hx hb dX6_feed_56 (by decide) ?_
        refine lv_iand hx hb dX6_feed_59 ?_
        refine va_iast hx hb hK hP (hD _ rfl) hS 6 0 rfl rfl hl0 dX6_feed_60 (fun H locs hP _ hS => ?_)
        have hP : va_P D vwCl (mdw cI cL b (enc co gu kn fo sp ki pl ea to qu) fd mo tr b1 (upd bt9 (ix ln9) ((x0 >>> ((8 * yy) &&& 31)) &&& 255)) ln9 so bg te wd va gd bo sz sh le im bf ik) H := hP
        refine lv_aload_n hx hb dX6_feed_61 rfl (lv_at hl 0 rfl) ?_
        refine lv_dup hx hb dX6_feed_62 rfl ?_
        refine va_get (ci := 4) (v := .int ln9) (C := RX6) (T := TX6) (N := 20) hx hb hts inX6 hown hK hP 0 rfl rfl 6 (by decide) f160 (fun _ h9 => h9) rfl dX6_feed_63 ?_
        refine lv_iconst (v := 1) hx hb dX6_feed_66 (by decide) ?_
        refine lv_iadd hx hb dX6_feed_67 ?_
        refine va_put (ci := 4) (v := .int (ln9 + 1)) (ty := .int) (C := RX6) (T := TX6) (N := 20) hx hb hts inX6 tyX6 tyX6_ok nmX6 hown hK hP (hD _ rfl) hS 0 rfl rfl 6 (by decide) f160 (fun _ h9 => h9) rfl rfl rfl rfl (Nat.le_of_ble_eq_true rfl) dX6_feed_68 (fun H locs hP _ hS => ?_)
        have hP : va_P D vwCl (mdw cI cL b (enc co gu kn fo sp ki pl ea to qu) fd mo tr b1 (upd bt9 (ix ln9) ((x0 >>> ((8 * yy) &&& 31)) &&& 255)) (ln9 + 1) so bg te wd va gd bo sz sh le im bf ik) H := hP
        refine lv_iinc (v := yy + (-1)) (lv' := [(3, .int (yy + (-1))), (0, .ref (b 0)), (1, .int x0), (2, .int x1)]) hx hb dX6_feed_71 hl (k := 3) rfl rfl (by decide) rfl (fun ls hl => ?_)
        refine lv_goto (tgt := 38) hx hb dX6_feed_74 (by decide) ?_
        exact ih (k) (by omega) ((k, yy + (-1), (upd bt9 (ix ln9) ((x0 >>> ((8 * yy) &&& 31)) &&& 255)), (ln9 + 1))) H locs ls ⟨⟨rfl, by omega⟩, by rw [hh]; exact m1p1 _, by rw [hi2, hk, hh]; rfl, (ln_s hl0).1, by have := (ln_s hl0).2; show ix (ln9 + 1) + k ≤ 120; omega, hP, hS, lv_sub hl [1, 2, 3, 0] rfl⟩
    · skip
      refine lv_aload_n hx hb dX6_feed_27 rfl (lv_at hl 0 rfl) ?_
      refine lv_ldc hx hb hown k108 dX6_feed_28 ?_
      refine callMi (va_runV (As := [.int (-1000000002)]) (rest := []) ⟨hx, hb, hml, hown, hts⟩ (k_X6_finds l D cI cL cS b co gu kn fo sp ki pl ea to qu fd mo tr b1 tp tm so bg te wd va gd bo sz sh le im bf ik (-1000000002) (va_DT (hD _ rfl) rfl) (vp_in_iff.mpr (by decide))) (cwV 1 hts gX6_feed_X6_finds rfl rfl rfl (by decide +kernel) ⟨Nat.le_of_ble_eq_true rfl, Nat.le_of_ble_eq_true rfl⟩) ⟨PcR_fb, va_recv hK hP (ci := 4) (q0 := 0) rfl rfl, PcR_pre hP hK⟩ rfl rfl hl.1 rfl (lv_room (Nat.le_of_ble_eq_true rfl)) dX6_feed_30 ⟨Nat.zero_le _, Nat.zero_le _⟩) hP (hD _ rfl) hS 0 13 rfl (fun r_5 u_4 H locs hu_4 hP hS => ?_)
      obtain ⟨hu_4r, hu_4⟩ := hu_4
      subst hu_4r
      have hP : va_P D vwCl (mdw cI cL b (enc co gu kn fo sp ki pl ea to qu) (bump fd (-1000000002)) mo tr b1 tp tm so bg te wd va gd bo sz sh le im bf ik) H := hP
      exact W.iret hx hb hr (fun t ht hW => ⟨⟨_, (tp, tm, bump fd (-1000000002)), rfl, (by exact ((iF_t hn).trans (iF_t (Int32.not_le.mp c_2))).symm), by dsimp only; rw [ht]; exact hP⟩, hS.F ht⟩) hS.2.2 dX6_feed_33
  · skip
    have c_1b := bI_0 c_1
    refine lv_aload_n hx hb dX6_feed_9 rfl (lv_at hl 0 rfl) ?_
    refine lv_ldc hx hb hown k47 dX6_feed_10 ?_
    refine callMi (va_runV (As := [.int (-1000000001)]) (rest := []) ⟨hx, hb, hml, hown, hts⟩ (k_X6_finds l D cI cL cS b co gu kn fo sp ki pl ea to qu fd mo tr b1 tp tm so bg te wd va gd bo sz sh le im bf ik (-1000000001) (va_DT (hD _ rfl) rfl) (vp_in_iff.mpr (by decide))) (cwV 1 hts gX6_feed_X6_finds rfl rfl rfl (by decide +kernel) ⟨Nat.le_of_ble_eq_true rfl, Nat.le_of_ble_eq_true rfl⟩) ⟨PcR_fb, va_recv hK hP (ci := 4) (q0 := 0) rfl rfl, PcR_pre hP hK⟩ rfl rfl hl.1 rfl (lv_room (Nat.le_of_ble_eq_true rfl)) dX6_feed_12 ⟨Nat.zero_le _, Nat.zero_le _⟩) hP (hD _ rfl) hS 0 13 rfl (fun r_7 u_6 H locs hu_6 hP hS => ?_)
    obtain ⟨hu_6r, hu_6⟩ := hu_6
    subst hu_6r
    have hP : va_P D vwCl (mdw cI cL b (enc co gu kn fo sp ki pl ea to qu) (bump fd (-1000000001)) mo tr b1 tp tm so bg te wd va gd bo sz sh le im bf ik) H := hP
    exact W.iret hx hb hr (fun t ht hW => ⟨⟨_, (tp, tm, bump fd (-1000000001)), rfl, (by exact (iF_f c_1b).symm), by dsimp only; rw [ht]; exact hP⟩, hS.F ht⟩) hS.2.2 dX6_feed_15

set_option maxRecDepth 100000 in
set_option maxHeartbeats 4000000 in
theorem k_X6_undo (l : Launch) (D : va_G) (cI cL cS : ClassId) (b : Nat → Nat) (co gu : Int32) (kn fo sp ki pl ea to qu : FI) (fd : FI) (mo : FI) (tr : FI) (b1 : FI) (tp : FI) (tm : Int32) (so : Int32) (bg : Int32) (te : Int32) (wd : Int64) (va : Int32) (gd : Int32) (bo : FI) (sz : FI) (sh : FJ) (le : FJ) (im : FI) (bf : FI) (ik : Int32) (dj : va_D (fun _ => True) (dj0 b 13)) (κ : Sg) (hk : ¬ ik = 0 → im = encS κ) : Met l yX6_undo wsX6_undo { frames := 1, cells := 0, slots := 0, locals := 23 } (PcR D vwCl (tyG cI cL cS) [.ref (b 0)] (mdw cI cL b (enc co gu kn fo sp ki pl ea to qu) fd mo tr b1 tp tm so bg te wd va gd bo sz sh le im bf ik)) (va_Qi (fun (r : Int32) (u : Sg × FI) => (r, u.1, u.2) = sUndo (co, gu, kn, fo, sp, ki, pl, ea, to, qu) κ ik fd) (fun u t => va_P D vwCl (mdw cI cL b (encS u.1) u.2 mo tr b1 tp tm so bg te wd va gd bo sz sh le im bf ik) t.heap) (Aof (mdw cI cL b (enc co gu kn fo sp ki pl ea to qu) fd mo tr b1 tp tm so bg te wd va gd bo sz sh le im bf ik))) 0 0 (Aof (mdw cI cL b (enc co gu kn fo sp ki pl ea to qu) fd mo tr b1 tp tm so bg te wd va gd bo sz sh le im bf ik)) := by
  refine Met.ofW (cc := cX6_undo) (maxL := 1) (ret := (some .int)) (by decide) rfl ?_
  intro p e s m args below meth c s₁ B hml hv
  obtain ⟨rfl, hP, hK⟩ := hv
  have hx := B.exec
  have hb := B.bytes
  have hr := B.returns
  have hts := atoms_spec (ws := wsX6_undo) B.pre
  have hown : s.vm.findClass RX6 = some m.cls := findClass_of_methodNamed B.named
  have hlocks := B.notSynchronized
  obtain ⟨A, hAe⟩ : ∃ A, A = Aof (mdw cI cL b (enc co gu kn fo sp ki pl ea to qu) fd mo tr b1 tp tm so bg te wd va gd bo sz sh le im bf ik) := ⟨_, rfl⟩
  rw [← hAe]
  have hD : ∀ ws' : va_W, ws'.map Prod.fst = (mdw cI cL b (enc co gu kn fo sp ki pl ea to qu) fd mo tr b1 tp tm so bg te wd va gd bo sz sh le im bf ik).map Prod.fst → va_D A ws' := fun ws' e => by rw [hAe]; exact va_D_adr (va_D_self (va_D_adr dj rfl)) e
  have hS : va_S A s.heap s.heap [] := va_S.rf
  have hP : va_P D vwCl (mdw cI cL b (enc co gu kn fo sp ki pl ea to qu) fd mo tr b1 tp tm so bg te wd va gd bo sz sh le im bf ik) s.heap := hP
  have hl := lv_entry ([.ref (b 0)]) (n := 1) (Nat.le_of_ble_eq_true rfl)
  rw [lg_entry_eq]
  generalize (lg_sl ([.ref (b 0)]) ++ List.replicate (1 - (lg_sl ([.ref (b 0)])).length) Slot.unset).toArray = ls at hl ⊢
  have hl : lv_has ls 1 [(0, .ref (b 0))] := hl
  have f274 := hts (.fieldLink RX6 274 "KnivesLaidModel" "isKept" "Z") (List.mem_of_getElem? (i := 1) rfl)
  have inX6 : ∀ w ∈ u_ws RX6 TX6 20, w ∈ wsX6_undo := in_at 16 _ _ rfl
  have f41 := hts (.fieldLink RX6 41 "KnivesLaidModel" "image" "[I") (List.mem_of_getElem? (i := 3) rfl)
  have f7 := hts (.fieldLink RX6 7 "KnivesLaidModel" "row" "[I") (List.mem_of_getElem? (i := 4) rfl)
  have k156 := hts (.constant RX6 156 (-1000000004)) (List.mem_of_getElem? (i := 2) rfl)
  skip
  refine lv_aload_n hx hb dX6_undo_0 rfl (lv_at hl 0 rfl) ?_
  refine va_get (ci := 4) (v := .int ik) (C := RX6) (T := TX6) (N := 20) hx hb hts inX6 hown hK hP 0 rfl rfl 19 (by decide) f274 (fun _ h9 => h9) rfl dX6_undo_1 ?_
  refine lv_if_ne (tgt := 14) hx hb dX6_undo_4 (by decide) (fun c_1 => ?_) (fun c_1 => ?_)
  · skip
    have him := hk c_1
    have hP : va_P D vwCl (mdw cI cL b (enc co gu kn fo sp ki pl ea to qu) fd mo tr b1 tp tm so bg te wd va gd bo sz sh le (enc (sCo κ) (sGu κ) (sKn κ) (sFo κ) (sSp κ) (sKi κ) (sPl κ) (sEa κ) (sTo κ) (sQu κ)) bf ik) s.heap := by rw [him] at hP; exact hP
    refine lv_aload_n hx hb dX6_undo_14 rfl (lv_at hl 0 rfl) ?_
    refine lv_iconst (v := 0) hx hb dX6_undo_15 (by decide) ?_
    refine lv_aload_n hx hb dX6_undo_16 rfl (lv_at hl 0 rfl) ?_
    refine va_get (ci := 4) (v := .ref (b 11)) (C := RX6) (T := TX6) (N := 20) hx hb hts inX6 hown hK hP 0 rfl rfl 17 (by decide) f41 (fun _ h9 => h9) rfl dX6_undo_17 ?_
    refine callMv (va_runV (As := [.int 0, .ref (b 11)]) (rest := []) ⟨hx, hb, hml, hown, hts⟩ (k_X6_moveAll_im0 l D cI cL cS b co gu kn fo sp ki pl ea to qu fd mo tr b1 tp tm so bg te wd va gd bo sz sh le bf ik (sCo κ) (sGu κ) (sKn κ) (sFo κ) (sSp κ) (sKi κ) (sPl κ) (sEa κ) (sTo κ) (sQu κ) (va_DT (hD _ rfl) rfl)) (cwV 2 hts gX6_undo_X6_moveAll rfl rfl rfl (by decide +kernel) ⟨Nat.le_of_ble_eq_true rfl, Nat.le_of_ble_eq_true rfl⟩) ⟨PcR_fb, va_recv hK hP (ci := 4) (q0 := 0) rfl rfl, PcR_pre hP hK⟩ rfl rfl hl.1 rfl (lv_room (Nat.le_of_ble_eq_true rfl)) dX6_undo_20 ⟨Nat.zero_le _, Nat.zero_le _⟩) hP (hD _ rfl) hS 0 13 rfl (fun u_2 H locs hu_2 hP hS => ?_)
    have hP : va_P D vwCl (mdw cI cL b (enc (sCo κ) (sGu κ) (sKn κ) (sFo κ) (sSp κ) (sKi κ) (sPl κ) (sEa κ) (sTo κ) (sQu κ)) fd mo tr b1 tp tm so bg te wd va gd bo sz sh le (enc (sCo κ) (sGu κ) (sKn κ) (sFo κ) (sSp κ) (sKi κ) (sPl κ) (sEa κ) (sTo κ) (sQu κ)) bf ik) H := hP
    refine lv_aload_n hx hb dX6_undo_23 rfl (lv_at hl 0 rfl) ?_
    refine va_get (ci := 4) (v := .ref (b 1)) (C := RX6) (T := TX6) (N := 20) hx hb hts inX6 hown hK hP 0 rfl rfl 0 (by decide) f7 (fun _ h9 => h9) rfl dX6_undo_24 ?_
    refine lv_iconst (v := 1) hx hb dX6_undo_27 (by decide) ?_
    refine va_iald hx hb hK hP 1 0 rfl rfl (vp_in_iff.mpr (by decide)) dX6_undo_28 ?_
    refine lv_to (y := (sGu κ)) rfl ?_
    exact W.iret hx hb hr (fun t ht hW => ⟨⟨_, (((sCo κ), (sGu κ), (sKn κ), (sFo κ), (sSp κ), (sKi κ), (sPl κ), (sEa κ), (sTo κ), (sQu κ)), fd), rfl, (by exact (if_neg c_1).symm), by dsimp only; rw [ht]; exact (by rw [him]; exact hP)⟩, hS.F ht⟩) hS.2.2 dX6_undo_29
  · skip
    refine lv_aload_n hx hb dX6_undo_7 rfl (lv_at hl 0 rfl) ?_
    refine lv_ldc hx hb hown k156 dX6_undo_8 ?_
    refine callMi (va_runV (As := [.int (-1000000004)]) (rest := []) ⟨hx, hb, hml, hown, hts⟩ (k_X6_finds l D cI cL cS b co gu kn fo sp ki pl ea to qu fd mo tr b1 tp tm so bg te wd va gd bo sz sh le im bf ik (-1000000004) (va_DT (hD _ rfl) rfl) (vp_in_iff.mpr (by decide))) (cwV 1 hts gX6_undo_X6_finds rfl rfl rfl (by decide +kernel) ⟨Nat.le_of_ble_eq_true rfl, Nat.le_of_ble_eq_true rfl⟩) ⟨PcR_fb, va_recv hK hP (ci := 4) (q0 := 0) rfl rfl, PcR_pre hP hK⟩ rfl rfl hl.1 rfl (lv_room (Nat.le_of_ble_eq_true rfl)) dX6_undo_10 ⟨Nat.zero_le _, Nat.zero_le _⟩) hP (hD _ rfl) hS 0 13 rfl (fun r_5 u_4 H locs hu_4 hP hS => ?_)
    obtain ⟨hu_4r, hu_4⟩ := hu_4
    subst hu_4r
    have hP : va_P D vwCl (mdw cI cL b (enc co gu kn fo sp ki pl ea to qu) (bump fd (-1000000004)) mo tr b1 tp tm so bg te wd va gd bo sz sh le im bf ik) H := hP
    exact W.iret hx hb hr (fun t ht hW => ⟨⟨_, ((co, gu, kn, fo, sp, ki, pl, ea, to, qu), bump fd (-1000000004)), rfl, (by exact (if_pos c_1).symm), by dsimp only; rw [ht]; exact hP⟩, hS.F ht⟩) hS.2.2 dX6_undo_13
