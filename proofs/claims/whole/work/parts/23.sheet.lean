set_option maxRecDepth 100000 in
set_option maxHeartbeats 4000000 in
theorem k_X2_isMissing (l : Launch) (D : va_G) (cI cL cS : ClassId) (a q : Nat) (bi si : Int32) (nu : FJ) : Met l yX2_isMissing wsX2_isMissing { frames := 0, cells := 0, slots := 0, locals := 0 } (PcR D vwCl (tyG cI cL cS) [.ref a] (shw cL a q bi si nu)) (vp_Si (fun r => r = bI (bi = 0))) 0 0 (fun _ => False) := by
  refine Met.ofW (cc := cX2_isMissing) (maxL := 1) (ret := (some .boolean)) (by decide) rfl ?_
  intro p e s m args below meth c s₁ B hml hv
  obtain ⟨rfl, hP, hK⟩ := hv
  have hx := B.exec
  have hb := B.bytes
  have hr := B.returns
  have hts := atoms_spec (ws := wsX2_isMissing) B.pre
  have hown : s.vm.findClass RX2 = some m.cls := findClass_of_methodNamed B.named
  have hlocks := B.notSynchronized
  have hl := lv_entry ([.ref a]) (n := 1) (Nat.le_of_ble_eq_true rfl)
  rw [lg_entry_eq]
  generalize (lg_sl ([.ref a]) ++ List.replicate (1 - (lg_sl ([.ref a])).length) Slot.unset).toArray = ls at hl ⊢
  have hl : lv_has ls 1 [(0, .ref a)] := hl
  have f9 := hts (.fieldLink RX2 9 "KnivesLaid$Sheet" "bits" "I") (List.mem_of_getElem? (i := 1) rfl)
  have inX2 : ∀ w ∈ u_ws RX2 TX2 3, w ∈ wsX2_isMissing := in_at 2 _ _ rfl
  refine lv_aload_n hx hb dX2_isMissing_0 rfl (lv_at hl 0 rfl) ?_
  refine va_get (ci := 0) (v := .int bi) (C := RX2) (T := TX2) (N := 3) hx hb hts inX2 hown hK hP 0 rfl rfl 0 (by decide) f9 (fun _ h9 => h9) rfl dX2_isMissing_1 ?_
  refine lv_if_ne (tgt := 11) hx hb dX2_isMissing_4 (by decide) (fun c_1 => ?_) (fun c_1 => ?_)
  · skip
    refine lv_iconst (v := 0) hx hb dX2_isMissing_11 (by decide) ?_
    exact W.zret (ty := .boolean) hx hb hr rfl (fun t ht hW => ⟨_, rfl, (by exact (bI_f (c_1)).symm), ht⟩) (fun _ h => absurd h List.not_mem_nil) dX2_isMissing_12
  · skip
    refine lv_iconst (v := 1) hx hb dX2_isMissing_7 (by decide) ?_
    refine lv_goto (tgt := 12) hx hb dX2_isMissing_8 (by decide) ?_
    exact W.zret (ty := .boolean) hx hb hr rfl (fun t ht hW => ⟨_, rfl, (by exact (bI_t (c_1)).symm), ht⟩) (fun _ h => absurd h List.not_mem_nil) dX2_isMissing_12

set_option maxRecDepth 100000 in
set_option maxHeartbeats 4000000 in
theorem k_X2_has (l : Launch) (D : va_G) (cI cL cS : ClassId) (a q : Nat) (bi si : Int32) (nu : FJ) (x0 : Int32) : Met l yX2_has wsX2_has { frames := 0, cells := 0, slots := 0, locals := 0 } (PcR D vwCl (tyG cI cL cS) [.ref a, .int x0] (shw cL a q bi si nu)) (vp_Si (fun r => r = bI (¬ x0 < 0 ∧ ¬ si ≤ x0))) 0 0 (fun _ => False) := by
  refine Met.ofW (cc := cX2_has) (maxL := 2) (ret := (some .boolean)) (by decide) rfl ?_
  intro p e s m args below meth c s₁ B hml hv
  obtain ⟨rfl, hP, hK⟩ := hv
  have hx := B.exec
  have hb := B.bytes
  have hr := B.returns
  have hts := atoms_spec (ws := wsX2_has) B.pre
  have hown : s.vm.findClass RX2 = some m.cls := findClass_of_methodNamed B.named
  have hlocks := B.notSynchronized
  have hl := lv_entry ([.ref a, .int x0]) (n := 2) (Nat.le_of_ble_eq_true rfl)
  rw [lg_entry_eq]
  generalize (lg_sl ([.ref a, .int x0]) ++ List.replicate (2 - (lg_sl ([.ref a, .int x0])).length) Slot.unset).toArray = ls at hl ⊢
  have hl : lv_has ls 2 [(0, .ref a), (1, .int x0)] := hl
  have f15 := hts (.fieldLink RX2 15 "KnivesLaid$Sheet" "size" "I") (List.mem_of_getElem? (i := 1) rfl)
  have inX2 : ∀ w ∈ u_ws RX2 TX2 3, w ∈ wsX2_has := in_at 2 _ _ rfl
  refine lv_iload_n hx hb dX2_has_0 rfl (lv_at hl 1 rfl) ?_
  refine lv_if_lt (tgt := 16) hx hb dX2_has_1 (by decide) (fun c_1 => ?_) (fun c_1 => ?_)
  · skip
    refine lv_iconst (v := 0) hx hb dX2_has_16 (by decide) ?_
    exact W.zret (ty := .boolean) hx hb hr rfl (fun t ht hW => ⟨_, rfl, (by exact (bI_f ((fun h => by first | exact absurd h.1 c_1 | exact absurd c_1 h.1 | exact absurd h.2 c_1 | exact absurd c_1 h.2))).symm), ht⟩) (fun _ h => absurd h List.not_mem_nil) dX2_has_17
  · skip
    refine lv_iload_n hx hb dX2_has_4 rfl (lv_at hl 1 rfl) ?_
    refine lv_aload_n hx hb dX2_has_5 rfl (lv_at hl 0 rfl) ?_
    refine va_get (ci := 0) (v := .int si) (C := RX2) (T := TX2) (N := 3) hx hb hts inX2 hown hK hP 0 rfl rfl 1 (by decide) f15 (fun _ h9 => h9) rfl dX2_has_6 ?_
    refine lv_icmp_ge (tgt := 16) hx hb dX2_has_9 (by decide) (fun c_2 => ?_) (fun c_2 => ?_)
    · skip
      refine lv_iconst (v := 0) hx hb dX2_has_16 (by decide) ?_
      exact W.zret (ty := .boolean) hx hb hr rfl (fun t ht hW => ⟨_, rfl, (by exact (bI_f ((fun h => by first | exact absurd h.1 c_2 | exact absurd c_2 h.1 | exact absurd h.2 c_2 | exact absurd c_2 h.2))).symm), ht⟩) (fun _ h => absurd h List.not_mem_nil) dX2_has_17
    · skip
      refine lv_iconst (v := 1) hx hb dX2_has_12 (by decide) ?_
      refine lv_goto (tgt := 17) hx hb dX2_has_13 (by decide) ?_
      exact W.zret (ty := .boolean) hx hb hr rfl (fun t ht hW => ⟨_, rfl, (by exact (bI_t (⟨c_1, c_2⟩)).symm), ht⟩) (fun _ h => absurd h List.not_mem_nil) dX2_has_17

set_option maxRecDepth 100000 in
set_option maxHeartbeats 4000000 in
theorem k_X2_hasRun (l : Launch) (D : va_G) (cI cL cS : ClassId) (a q : Nat) (bi si : Int32) (nu : FJ) (x0 x1 : Int32) : Met l yX2_hasRun wsX2_hasRun { frames := 0, cells := 0, slots := 0, locals := 0 } (PcR D vwCl (tyG cI cL cS) [.ref a, .int x0, .int x1] (shw cL a q bi si nu)) (vp_Si (fun r => r = bI (¬ x0 < 0 ∧ ¬ x1 < 0 ∧ ¬ si < x1 ∧ ¬ (si - x1) < x0))) 0 0 (fun _ => False) := by
  refine Met.ofW (cc := cX2_hasRun) (maxL := 3) (ret := (some .boolean)) (by decide) rfl ?_
  intro p e s m args below meth c s₁ B hml hv
  obtain ⟨rfl, hP, hK⟩ := hv
  have hx := B.exec
  have hb := B.bytes
  have hr := B.returns
  have hts := atoms_spec (ws := wsX2_hasRun) B.pre
  have hown : s.vm.findClass RX2 = some m.cls := findClass_of_methodNamed B.named
  have hlocks := B.notSynchronized
  have hl := lv_entry ([.ref a, .int x0, .int x1]) (n := 3) (Nat.le_of_ble_eq_true rfl)
  rw [lg_entry_eq]
  generalize (lg_sl ([.ref a, .int x0, .int x1]) ++ List.replicate (3 - (lg_sl ([.ref a, .int x0, .int x1])).length) Slot.unset).toArray = ls at hl ⊢
  have hl : lv_has ls 3 [(0, .ref a), (1, .int x0), (2, .int x1)] := hl
  have f15 := hts (.fieldLink RX2 15 "KnivesLaid$Sheet" "size" "I") (List.mem_of_getElem? (i := 1) rfl)
  have inX2 : ∀ w ∈ u_ws RX2 TX2 3, w ∈ wsX2_hasRun := in_at 2 _ _ rfl
  refine lv_iload_n hx hb dX2_hasRun_0 rfl (lv_at hl 1 rfl) ?_
  refine lv_if_lt (tgt := 30) hx hb dX2_hasRun_1 (by decide) (fun c_1 => ?_) (fun c_1 => ?_)
  · skip
    refine lv_iconst (v := 0) hx hb dX2_hasRun_30 (by decide) ?_
    exact W.zret (ty := .boolean) hx hb hr rfl (fun t ht hW => ⟨_, rfl, (by exact (bI_f ((fun h => by first | exact absurd h.1 c_1 | exact absurd c_1 h.1 | exact absurd h.2.1 c_1 | exact absurd c_1 h.2.1 | exact absurd h.2.2.1 c_1 | exact absurd c_1 h.2.2.1 | exact absurd h.2.2.2 c_1 | exact absurd c_1 h.2.2.2))).symm), ht⟩) (fun _ h => absurd h List.not_mem_nil) dX2_hasRun_31
  · skip
    refine lv_iload_n hx hb dX2_hasRun_4 rfl (lv_at hl 2 rfl) ?_
    refine lv_if_lt (tgt := 30) hx hb dX2_hasRun_5 (by decide) (fun c_2 => ?_) (fun c_2 => ?_)
    · skip
      refine lv_iconst (v := 0) hx hb dX2_hasRun_30 (by decide) ?_
      exact W.zret (ty := .boolean) hx hb hr rfl (fun t ht hW => ⟨_, rfl, (by exact (bI_f ((fun h => by first | exact absurd h.1 c_2 | exact absurd c_2 h.1 | exact absurd h.2.1 c_2 | exact absurd c_2 h.2.1 | exact absurd h.2.2.1 c_2 | exact absurd c_2 h.2.2.1 | exact absurd h.2.2.2 c_2 | exact absurd c_2 h.2.2.2))).symm), ht⟩) (fun _ h => absurd h List.not_mem_nil) dX2_hasRun_31
    · skip
      refine lv_iload_n hx hb dX2_hasRun_8 rfl (lv_at hl 2 rfl) ?_
      refine lv_aload_n hx hb dX2_hasRun_9 rfl (lv_at hl 0 rfl) ?_
      refine va_get (ci := 0) (v := .int si) (C := RX2) (T := TX2) (N := 3) hx hb hts inX2 hown hK hP 0 rfl rfl 1 (by decide) f15 (fun _ h9 => h9) rfl dX2_hasRun_10 ?_
      refine lv_icmp_gt (tgt := 30) hx hb dX2_hasRun_13 (by decide) (fun c_3 => ?_) (fun c_3 => ?_)
      · skip
        refine lv_iconst (v := 0) hx hb dX2_hasRun_30 (by decide) ?_
        exact W.zret (ty := .boolean) hx hb hr rfl (fun t ht hW => ⟨_, rfl, (by exact (bI_f ((fun h => by first | exact absurd h.1 c_3 | exact absurd c_3 h.1 | exact absurd h.2.1 c_3 | exact absurd c_3 h.2.1 | exact absurd h.2.2.1 c_3 | exact absurd c_3 h.2.2.1 | exact absurd h.2.2.2 c_3 | exact absurd c_3 h.2.2.2))).symm), ht⟩) (fun _ h => absurd h List.not_mem_nil) dX2_hasRun_31
      · skip
        refine lv_iload_n hx hb dX2_hasRun_16 rfl (lv_at hl 1 rfl) ?_
        refine lv_aload_n hx hb dX2_hasRun_17 rfl (lv_at hl 0 rfl) ?_
        refine va_get (ci := 0) (v := .int si) (C := RX2) (T := TX2) (N := 3) hx hb hts inX2 hown hK hP 0 rfl rfl 1 (by decide) f15 (fun _ h9 => h9) rfl dX2_hasRun_18 ?_
        refine lv_iload_n hx hb dX2_hasRun_21 rfl (lv_at hl 2 rfl) ?_
        refine lv_isub hx hb dX2_hasRun_22 ?_
        refine lv_icmp_gt (tgt := 30) hx hb dX2_hasRun_23 (by decide) (fun c_4 => ?_) (fun c_4 => ?_)
        · skip
          refine lv_iconst (v := 0) hx hb dX2_hasRun_30 (by decide) ?_
          exact W.zret (ty := .boolean) hx hb hr rfl (fun t ht hW => ⟨_, rfl, (by exact (bI_f ((fun h => by first | exact absurd h.1 c_4 | exact absurd c_4 h.1 | exact absurd h.2.1 c_4 | exact absurd c_4 h.2.1 | exact absurd h.2.2.1 c_4 | exact absurd c_4 h.2.2.1 | exact absurd h.2.2.2 c_4 | exact absurd c_4 h.2.2.2))).symm), ht⟩) (fun _ h => absurd h List.not_mem_nil) dX2_hasRun_31
        · skip
          refine lv_iconst (v := 1) hx hb dX2_hasRun_26 (by decide) ?_
          refine lv_goto (tgt := 31) hx hb dX2_hasRun_27 (by decide) ?_
          exact W.zret (ty := .boolean) hx hb hr rfl (fun t ht hW => ⟨_, rfl, (by exact (bI_t (⟨c_1, c_2, c_3, c_4⟩)).symm), ht⟩) (fun _ h => absurd h List.not_mem_nil) dX2_hasRun_31

set_option maxRecDepth 100000 in
set_option maxHeartbeats 4000000 in
theorem k_J7_fill_d0a16 (l : Launch) (D : va_G) (cI cL cS : ClassId) (a k : Nat) (f : FJ) (x1 : Int64) (dj : va_D (fun _ => True) (dj0 (fun _ => a) 1)) (hk : k < 1000) : Met l yJ7_fill_d0a16 wsJ7_fill_d0a16 { frames := 0, cells := 0, slots := 0, locals := 0 } (PcR D vwCl (tyG cI cL cS) [.ref a, .long x1] (arl cL a k f)) (va_Qv (fun (_ : Unit) => True) (fun _ t => va_P D vwCl (arl cL a k (fun _ => x1)) t.heap) (Aof (arl cL a k f))) 0 0 (Aof (arl cL a k f)) := by
  refine Met.ofW (cc := cJ7_fill_d0a16) (maxL := 5) (ret := none) (by decide) rfl ?_
  intro p e s m args below meth c s₁ B hml hv
  obtain ⟨rfl, hP, hK⟩ := hv
  have hx := B.exec
  have hb := B.bytes
  have hr := B.returns
  have hts := atoms_spec (ws := wsJ7_fill_d0a16) B.pre
  have hown : s.vm.findClass RJ7 = some m.cls := findClass_of_methodNamed B.named
  have hlocks := B.notSynchronized
  obtain ⟨A, hAe⟩ : ∃ A, A = Aof (arl cL a k f) := ⟨_, rfl⟩
  rw [← hAe]
  have hD : ∀ ws' : va_W, ws'.map Prod.fst = (arl cL a k f).map Prod.fst → va_D A ws' := fun ws' e => by rw [hAe]; exact va_D_adr (va_D_self (va_D_adr dj rfl)) e
  have hS : va_S A s.heap s.heap [] := va_S.rf
  have hP : va_P D vwCl (arl cL a k f) s.heap := hP
  have hl := lv_entry ([.ref a, .long x1]) (n := 5) (Nat.le_of_ble_eq_true rfl)
  rw [lg_entry_eq]
  generalize (lg_sl ([.ref a, .long x1]) ++ List.replicate (5 - (lg_sl ([.ref a, .long x1])).length) Slot.unset).toArray = ls at hl ⊢
  have hl : lv_has ls 5 [(0, .ref a), (1, .long x1)] := hl
  skip
  refine lv_iconst (v := 0) hx hb dJ7_fill_d0a16_0 (by decide) ?_
  refine lv_istore_n (lv' := [(3, .int 0), (0, .ref a), (1, .long x1)]) hx hb dJ7_fill_d0a16_1 rfl hl (by decide) rfl (fun ls hl => ?_)
  refine lv_aload_n hx hb dJ7_fill_d0a16_2 rfl (lv_at hl 1 rfl) ?_
  refine va_alen (v := nI k) (ty := .long) hx hb hK hP 0 1 rfl rfl rfl dJ7_fill_d0a16_3 ?_
  refine lv_istore (lv' := [(4, .int (nI k)), (3, .int 0), (0, .ref a), (1, .long x1)]) hx hb dJ7_fill_d0a16_4 hl (by decide) rfl (fun ls hl => ?_)
  refine lpW (fun n (u : Nat) H locs ls => (u + n = k) ∧ va_P D vwCl (arl cL a k (fa_fill (fun _ => x1) f u)) H ∧ va_S A s.heap H locs ∧ lv_has ls 5 [(0, .ref a), (1, .long x1), (3, .int (nI u)), (4, .int (nI k))]) (k) (0) ⟨by omega, hP, hS, lv_sub hl [2, 3, 1, 0] rfl⟩ (fun n ih u H locs ls hI => ?_)
  obtain ⟨i, rfl⟩ : ∃ z, z = u := ⟨_, rfl⟩
  obtain ⟨hi0, hP, hS, hl⟩ := hI
  have hi0 : i + n = k := hi0
  have hl : lv_has ls 5 [(0, .ref a), (1, .long x1), (3, .int (nI i)), (4, .int (nI k))] := hl
  have hP : va_P D vwCl (arl cL a k (fa_fill (fun _ => x1) f i)) H := hP
  have hix : ix (nI i) = i := ix_nI (by omega)
  refine lv_iload_n hx hb dJ7_fill_d0a16_6 rfl (lv_at hl 2 rfl) ?_
  refine lv_iload hx hb dJ7_fill_d0a16_7 (lv_at hl 3 rfl) ?_
  refine lv_icmp_ge (tgt := 22) hx hb dJ7_fill_d0a16_9 (by decide) (fun c_1 => ?_) (fun c_1 => ?_)
  · skip
    have c_1n := (cmp_le (a := k) (b := i) rfl rfl (by omega) (by omega)).mp c_1
    exact W.vret hx hb hr (fun t ht hW => ⟨⟨(), rfl, (by trivial), by dsimp only; rw [ht]; exact (va_P_rep (q0 := 0) hP rfl (arrL_eq (fun j hj => fa_fill_in (by omega))))⟩, hS.F ht⟩) hS.2.2 dJ7_fill_d0a16_22
  · skip
    have c_1n := mt (cmp_le (a := k) (b := i) rfl rfl (by omega) (by omega)).mpr c_1
    refine lv_aload_n hx hb dJ7_fill_d0a16_12 rfl (lv_at hl 0 rfl) ?_
    refine lv_iload_n hx hb dJ7_fill_d0a16_13 rfl (lv_at hl 2 rfl) ?_
    refine lv_lload_n hx hb dJ7_fill_d0a16_14 rfl (lv_at hl 1 rfl) ?_
    refine va_last hx hb hK hP (hD _ rfl) hS 0 1 rfl rfl (vp_in_nI (by omega) (by omega)) dJ7_fill_d0a16_15 (fun H locs hP _ hS => ?_)
    have hP : va_P D vwCl (arl cL a k (vp_updL (fa_fill (fun _ => x1) f i) (ix (nI i)) x1)) H := hP
    refine lv_iinc (v := nI (i + 1)) (lv' := [(3, .int (nI (i + 1))), (0, .ref a), (1, .long x1), (4, .int (nI k))]) hx hb dJ7_fill_d0a16_16 hl (k := 2) rfl (nI_1 _) (by decide) rfl (fun ls hl => ?_)
    refine lv_goto (tgt := 6) hx hb dJ7_fill_d0a16_19 (by decide) ?_
    have hP : va_P D vwCl (arl cL a k (fa_fill (fun _ => x1) f (i + 1))) H := by rw [← fillL_succ]; rw [hix] at hP; exact hP
    exact ih (n - 1) (by omega) (i + 1) H locs ls ⟨by omega, hP, hS, lv_sub hl [1, 2, 0, 3] rfl⟩

set_option maxRecDepth 100000 in
set_option maxHeartbeats 4000000 in
theorem k_X2_begin (l : Launch) (D : va_G) (cI cL cS : ClassId) (a q : Nat) (bi si : Int32) (nu : FJ) (x0 : Int32) (x1 : Int32) (dj : va_D (fun _ => True) [(a, .inr (0, [])), (q, .inr (0, []))])  : Met l yX2_begin wsX2_begin { frames := 1, cells := 0, slots := 0, locals := 24 } (PcR D vwCl (tyG cI cL cS) [.ref a, .int x0, .int x1] (shw cL a q bi si nu)) (va_Qv (fun (_ : Unit) => True) (fun _ t => va_P D vwCl (shw cL a q x0 (if x0 = 0 then 0 else x1 : Int32) (fun _ => 0)) t.heap) (Aof (shw cL a q bi si nu))) 0 0 (Aof (shw cL a q bi si nu)) := by
  refine Met.ofW (cc := cX2_begin) (maxL := 3) (ret := none) (by decide) rfl ?_
  intro p e s m args below meth c s₁ B hml hv
  obtain ⟨rfl, hP, hK⟩ := hv
  have hx := B.exec
  have hb := B.bytes
  have hr := B.returns
  have hts := atoms_spec (ws := wsX2_begin) B.pre
  have hown : s.vm.findClass RX2 = some m.cls := findClass_of_methodNamed B.named
  have hlocks := B.notSynchronized
  obtain ⟨A, hAe⟩ : ∃ A, A = Aof (shw cL a q bi si nu) := ⟨_, rfl⟩
  rw [← hAe]
  have hD : ∀ ws' : va_W, ws'.map Prod.fst = (shw cL a q bi si nu).map Prod.fst → va_D A ws' := fun ws' e => by rw [hAe]; exact va_D_adr (va_D_self (va_D_adr dj rfl)) e
  have hS : va_S A s.heap s.heap [] := va_S.rf
  have hP : va_P D vwCl (shw cL a q bi si nu) s.heap := hP
  have hl := lv_entry ([.ref a, .int x0, .int x1]) (n := 3) (Nat.le_of_ble_eq_true rfl)
  rw [lg_entry_eq]
  generalize (lg_sl ([.ref a, .int x0, .int x1]) ++ List.replicate (3 - (lg_sl ([.ref a, .int x0, .int x1])).length) Slot.unset).toArray = ls at hl ⊢
  have hl : lv_has ls 3 [(0, .ref a), (1, .int x0), (2, .int x1)] := hl
  have f9 := hts (.fieldLink RX2 9 "KnivesLaid$Sheet" "bits" "I") (List.mem_of_getElem? (i := 1) rfl)
  have inX2 : ∀ w ∈ u_ws RX2 TX2 3, w ∈ wsX2_begin := in_at 8 _ _ rfl
  have f15 := hts (.fieldLink RX2 15 "KnivesLaid$Sheet" "size" "I") (List.mem_of_getElem? (i := 2) rfl)
  have f18 := hts (.fieldLink RX2 18 "KnivesLaid$Sheet" "numbers" "[J") (List.mem_of_getElem? (i := 3) rfl)
  skip
  refine lv_aload_n hx hb dX2_begin_0 rfl (lv_at hl 0 rfl) ?_
  refine lv_iload_n hx hb dX2_begin_1 rfl (lv_at hl 1 rfl) ?_
  refine va_put (ci := 0) (v := .int x0) (ty := .int) (C := RX2) (T := TX2) (N := 3) hx hb hts inX2 tyX2 tyX2_ok nmX2 hown hK hP (hD _ rfl) hS 0 rfl rfl 0 (by decide) f9 (fun _ h9 => h9) rfl rfl rfl rfl (Nat.le_of_ble_eq_true rfl) dX2_begin_2 (fun H locs hP _ hS => ?_)
  have hP : va_P D vwCl (shw cL a q x0 si nu) H := hP
  refine lv_aload_n hx hb dX2_begin_5 rfl (lv_at hl 0 rfl) ?_
  refine lv_iload_n hx hb dX2_begin_6 rfl (lv_at hl 1 rfl) ?_
  refine jn (fun v_1 : Int32 => v_1 = (if x0 = 0 then 0 else x1 : Int32)) (fun v_1 => F0 m 15 ls [.int v_1, .ref a]) (fun Jv_1 => ?_) (fun v_1 ev_1 => ?_)
  · skip
    refine lv_if_ne (tgt := 14) hx hb dX2_begin_7 (by decide) (fun c_2 => ?_) (fun c_2 => ?_)
    · skip
      refine lv_iload_n hx hb dX2_begin_14 rfl (lv_at hl 2 rfl) ?_
      exact Jv_1 _ (by rw [if_neg c_2])
    · skip
      refine lv_iconst (v := 0) hx hb dX2_begin_10 (by decide) ?_
      refine lv_goto (tgt := 15) hx hb dX2_begin_11 (by decide) ?_
      exact Jv_1 _ (by rw [if_pos c_2])
  subst ev_1
  refine va_put (ci := 0) (v := .int (if x0 = 0 then 0 else x1 : Int32)) (ty := .int) (C := RX2) (T := TX2) (N := 3) hx hb hts inX2 tyX2 tyX2_ok nmX2 hown hK hP (hD _ rfl) hS 0 rfl rfl 1 (by decide) f15 (fun _ h9 => h9) rfl rfl rfl rfl (Nat.le_of_ble_eq_true rfl) dX2_begin_15 (fun H locs hP _ hS => ?_)
  have hP : va_P D vwCl (shw cL a q x0 (if x0 = 0 then 0 else x1 : Int32) nu) H := hP
  refine lv_aload_n hx hb dX2_begin_18 rfl (lv_at hl 0 rfl) ?_
  refine va_get (ci := 0) (v := .ref q) (C := RX2) (T := TX2) (N := 3) hx hb hts inX2 hown hK hP 0 rfl rfl 2 (by decide) f18 (fun _ h9 => h9) rfl dX2_begin_19 ?_
  refine lv_lconst (v := 0) hx hb dX2_begin_22 (by decide) ?_
  refine callMv (va_runS (As := [.ref q, .long 0]) (rest := []) ⟨hx, hb, hml, hown, hts⟩ (k_J7_fill_d0a16 l D cI cL cS q 40 nu 0 (va_DT (va_segD (hD (shw cL a q x0 (if x0 = 0 then 0 else x1 : Int32) nu) rfl) 1 1 rfl) rfl) (by decide)) (va_cwS 2 hts gX2_begin_J7_fill_d0a16 rfl rfl rfl (by decide +kernel) ⟨Nat.le_of_ble_eq_true rfl, Nat.le_of_ble_eq_true rfl⟩) ⟨PcR_fb, PcR_pre (va_seg hP 1 1 rfl) hK⟩ rfl rfl hl.1 rfl (lv_room (Nat.le_of_ble_eq_true rfl)) dX2_begin_23 ⟨Nat.zero_le _, Nat.zero_le _⟩) hP (hD _ rfl) hS 1 1 rfl (fun u_3 H locs hu_3 hP hS => ?_)
  have hP : va_P D vwCl (shw cL a q x0 (if x0 = 0 then 0 else x1 : Int32) (fun _ => 0)) H := hP
  exact W.vret hx hb hr (fun t ht hW => ⟨⟨(), rfl, (by trivial), by dsimp only; rw [ht]; exact hP⟩, hS.F ht⟩) hS.2.2 dX2_begin_26

set_option maxRecDepth 100000 in
set_option maxHeartbeats 4000000 in
theorem k_X2_put (l : Launch) (D : va_G) (cI cL cS : ClassId) (a q : Nat) (bi si : Int32) (nu : FJ) (x0 : Int32) (x1 : Int64) (dj : va_D (fun _ => True) [(a, .inr (0, [])), (q, .inr (0, []))]) (h0 : vp_in x0 40) : Met l yX2_put wsX2_put { frames := 0, cells := 0, slots := 0, locals := 0 } (PcR D vwCl (tyG cI cL cS) [.ref a, .int x0, .long x1] (shw cL a q bi si nu)) (va_Qv (fun (_ : Unit) => True) (fun _ t => va_P D vwCl (shw cL a q bi si (vp_updL nu (ix x0) (sNar bi x1))) t.heap) (Aof (shw cL a q bi si nu))) 0 0 (Aof (shw cL a q bi si nu)) := by
  refine Met.ofW (cc := cX2_put) (maxL := 4) (ret := none) (by decide) rfl ?_
  intro p e s m args below meth c s₁ B hml hv
  obtain ⟨rfl, hP, hK⟩ := hv
  have hx := B.exec
  have hb := B.bytes
  have hr := B.returns
  have hts := atoms_spec (ws := wsX2_put) B.pre
  have hown : s.vm.findClass RX2 = some m.cls := findClass_of_methodNamed B.named
  have hlocks := B.notSynchronized
  obtain ⟨A, hAe⟩ : ∃ A, A = Aof (shw cL a q bi si nu) := ⟨_, rfl⟩
  rw [← hAe]
  have hD : ∀ ws' : va_W, ws'.map Prod.fst = (shw cL a q bi si nu).map Prod.fst → va_D A ws' := fun ws' e => by rw [hAe]; exact va_D_adr (va_D_self (va_D_adr dj rfl)) e
  have hS : va_S A s.heap s.heap [] := va_S.rf
  have hP : va_P D vwCl (shw cL a q bi si nu) s.heap := hP
  have hl := lv_entry ([.ref a, .int x0, .long x1]) (n := 4) (Nat.le_of_ble_eq_true rfl)
  rw [lg_entry_eq]
  generalize (lg_sl ([.ref a, .int x0, .long x1]) ++ List.replicate (4 - (lg_sl ([.ref a, .int x0, .long x1])).length) Slot.unset).toArray = ls at hl ⊢
  have hl : lv_has ls 4 [(0, .ref a), (1, .int x0), (2, .long x1)] := hl
  have f18 := hts (.fieldLink RX2 18 "KnivesLaid$Sheet" "numbers" "[J") (List.mem_of_getElem? (i := 1) rfl)
  have inX2 : ∀ w ∈ u_ws RX2 TX2 3, w ∈ wsX2_put := in_at 3 _ _ rfl
  have f9 := hts (.fieldLink RX2 9 "KnivesLaid$Sheet" "bits" "I") (List.mem_of_getElem? (i := 2) rfl)
  skip
  refine lv_aload_n hx hb dX2_put_0 rfl (lv_at hl 0 rfl) ?_
  refine va_get (ci := 0) (v := .ref q) (C := RX2) (T := TX2) (N := 3) hx hb hts inX2 hown hK hP 0 rfl rfl 2 (by decide) f18 (fun _ h9 => h9) rfl dX2_put_1 ?_
  refine lv_iload_n hx hb dX2_put_4 rfl (lv_at hl 1 rfl) ?_
  refine lv_aload_n hx hb dX2_put_5 rfl (lv_at hl 0 rfl) ?_
  refine va_get (ci := 0) (v := .int bi) (C := RX2) (T := TX2) (N := 3) hx hb hts inX2 hown hK hP 0 rfl rfl 0 (by decide) f9 (fun _ h9 => h9) rfl dX2_put_6 ?_
  refine lv_bipush (v := 8) hx hb dX2_put_9 (by decide) ?_
  refine jn (fun v_1 : Int64 => v_1 = (if bi = 8 then x1.toInt32.toInt8.toInt32.toInt64 else (if bi = 16 then x1.toInt32.toInt16.toInt32.toInt64 else x1) : Int64)) (fun v_1 => F0 m 38 ls [.long v_1, .int x0, .ref q]) (fun Jv_1 => ?_) (fun v_1 ev_1 => ?_)
  · skip
    refine lv_icmp_ne (tgt := 21) hx hb dX2_put_11 (by decide) (fun c_2 => ?_) (fun c_2 => ?_)
    · skip
      refine lv_aload_n hx hb dX2_put_21 rfl (lv_at hl 0 rfl) ?_
      refine va_get (ci := 0) (v := .int bi) (C := RX2) (T := TX2) (N := 3) hx hb hts inX2 hown hK hP 0 rfl rfl 0 (by decide) f9 (fun _ h9 => h9) rfl dX2_put_22 ?_
      refine lv_bipush (v := 16) hx hb dX2_put_25 (by decide) ?_
      refine lv_icmp_ne (tgt := 37) hx hb dX2_put_27 (by decide) (fun c_3 => ?_) (fun c_3 => ?_)
      · skip
        refine lv_lload_n hx hb dX2_put_37 rfl (lv_at hl 2 rfl) ?_
        exact Jv_1 _ (by rw [if_neg c_2, if_neg c_3])
      · skip
        refine lv_lload_n hx hb dX2_put_30 rfl (lv_at hl 2 rfl) ?_
        refine lv_l2i (v := x1.toInt32) hx hb dX2_put_31 rfl ?_
        refine lv_i2s (v := x1.toInt32.toInt16.toInt32) hx hb dX2_put_32 rfl ?_
        refine lv_i2l (v := x1.toInt32.toInt16.toInt32.toInt64) hx hb dX2_put_33 rfl ?_
        refine lv_goto (tgt := 38) hx hb dX2_put_34 (by decide) ?_
        exact Jv_1 _ (by rw [if_neg c_2, if_pos c_3])
    · skip
      refine lv_lload_n hx hb dX2_put_14 rfl (lv_at hl 2 rfl) ?_
      refine lv_l2i (v := x1.toInt32) hx hb dX2_put_15 rfl ?_
      refine lv_i2b (v := x1.toInt32.toInt8.toInt32) hx hb dX2_put_16 rfl ?_
      refine lv_i2l (v := x1.toInt32.toInt8.toInt32.toInt64) hx hb dX2_put_17 rfl ?_
      refine lv_goto (tgt := 38) hx hb dX2_put_18 (by decide) ?_
      exact Jv_1 _ (by rw [if_pos c_2])
  subst ev_1
  refine va_last hx hb hK hP (hD _ rfl) hS 1 1 rfl rfl h0 dX2_put_38 (fun H locs hP _ hS => ?_)
  have hP : va_P D vwCl (shw cL a q bi si (vp_updL nu (ix x0) (if bi = 8 then x1.toInt32.toInt8.toInt32.toInt64 else (if bi = 16 then x1.toInt32.toInt16.toInt32.toInt64 else x1) : Int64))) H := hP
  exact W.vret hx hb hr (fun t ht hW => ⟨⟨(), rfl, (by trivial), by dsimp only; rw [ht]; exact (by unfold sNar; exact hP)⟩, hS.F ht⟩) hS.2.2 dX2_put_39
